abbrev mX11_peace_64_e1 : ByteArray := .mk #[0x4a, 0x03, 0x2a, 0xb4, 0x00, 0x47, 0xbe, 0xb8, 0x01, 0x4b, 0x2a, 0xb4, 0x00, 0x1a, 0x15, 0x04, 0x15, 0x05, 0xb6, 0x01, 0x51, 0x99, 0x00, 0x24, 0x2a, 0xb4, 0x00, 0x1a, 0x15, 0x04, 0x15, 0x05, 0x03, 0xb6, 0x00, 0xb8, 0x2a, 0x02, 0x2a, 0xb4, 0x00, 0x4a, 0xb6, 0x01, 0x3c, 0x2a, 0xb4, 0x00, 0x1a, 0x15, 0x04, 0x15, 0x05, 0x04, 0xb6, 0x00, 0xb8, 0x2a, 0xb4, 0x00, 0x4a, 0x03, 0x2e, 0x2a, 0xb4, 0x00, 0x47, 0x03, 0x2e, 0xa1, 0x00, 0x2a]
theorem kmX11_peace_64_e1 : CK cX11_peace 64 mX11_peace_64_e1 := ck_of (by decide +kernel)
theorem dX11_peace_109 : decode cX11_peace 109 = .ok (.aload_n 0, 1) := rd_chunk (k := 64) (i := 45) kmX11_peace_64_e1 (by decide +kernel)
theorem dX11_peace_110 : decode cX11_peace 110 = .ok (.getfield 26, 3) := rd_chunk (k := 64) (i := 46) kmX11_peace_64_e1 (by decide +kernel)
theorem dX11_peace_113 : decode cX11_peace 113 = .ok (.iload 4, 2) := rd_chunk (k := 64) (i := 49) kmX11_peace_64_e1 (by decide +kernel)
theorem dX11_peace_115 : decode cX11_peace 115 = .ok (.iload 5, 2) := rd_chunk (k := 64) (i := 51) kmX11_peace_64_e1 (by decide +kernel)
theorem dX11_peace_117 : decode cX11_peace 117 = .ok (.iconst 1, 1) := rd_chunk (k := 64) (i := 53) kmX11_peace_64_e1 (by decide +kernel)
theorem dX11_peace_118 : decode cX11_peace 118 = .ok (.invokevirtual 184, 3) := rd_chunk (k := 64) (i := 54) kmX11_peace_64_e1 (by decide +kernel)
theorem dX11_peace_121 : decode cX11_peace 121 = .ok (.aload_n 0, 1) := rd_chunk (k := 64) (i := 57) kmX11_peace_64_e1 (by decide +kernel)
theorem dX11_peace_122 : decode cX11_peace 122 = .ok (.getfield 74, 3) := rd_chunk (k := 64) (i := 58) kmX11_peace_64_e1 (by decide +kernel)
theorem dX11_peace_125 : decode cX11_peace 125 = .ok (.iconst 0, 1) := rd_chunk (k := 64) (i := 61) kmX11_peace_64_e1 (by decide +kernel)
theorem dX11_peace_126 : decode cX11_peace 126 = .ok (.iaload, 1) := rd_chunk (k := 64) (i := 62) kmX11_peace_64_e1 (by decide +kernel)
theorem dX11_peace_127 : decode cX11_peace 127 = .ok (.aload_n 0, 1) := rd_chunk (k := 64) (i := 63) kmX11_peace_64_e1 (by decide +kernel)
abbrev mX11_peace_128_e1 : ByteArray := .mk #[0xb4, 0x00, 0x47, 0x03, 0x2e, 0xa1, 0x00, 0x2a, 0x1b, 0x10, 0xfe, 0x9f, 0x00, 0x0d, 0x2a, 0xb4, 0x00, 0x4a, 0x04, 0x2e, 0x1c, 0xa2, 0x00, 0x1a, 0x15, 0x04, 0x10, 0x0a, 0x68, 0x15, 0x05, 0x60, 0x3c, 0x2a, 0xb4, 0x00, 0x4a, 0x04, 0x2e, 0x3d, 0x2a, 0xb4, 0x00, 0x4a, 0x03, 0x2e, 0x3e, 0x84, 0x05, 0x01, 0xa7, 0xff, 0x6e, 0x84, 0x04, 0x01, 0xa7, 0xff, 0x5b, 0x1b, 0x10, 0xfe, 0x9f, 0x00, 0x0b, 0x2a, 0x1c, 0x85, 0x1d, 0x85, 0xb6, 0x00]
theorem kmX11_peace_128_e1 : CK cX11_peace 128 mX11_peace_128_e1 := ck_of (by decide +kernel)
theorem dX11_peace_128 : decode cX11_peace 128 = .ok (.getfield 71, 3) := rd_chunk (k := 128) (i := 0) kmX11_peace_128_e1 (by decide +kernel)
theorem dX11_peace_131 : decode cX11_peace 131 = .ok (.iconst 0, 1) := rd_chunk (k := 128) (i := 3) kmX11_peace_128_e1 (by decide +kernel)
theorem dX11_peace_132 : decode cX11_peace 132 = .ok (.iaload, 1) := rd_chunk (k := 128) (i := 4) kmX11_peace_128_e1 (by decide +kernel)
theorem dX11_peace_133 : decode cX11_peace 133 = .ok (.if_icmp .lt 42, 3) := rd_chunk (k := 128) (i := 5) kmX11_peace_128_e1 (by decide +kernel)
theorem dX11_peace_136 : decode cX11_peace 136 = .ok (.iload_n 1, 1) := rd_chunk (k := 128) (i := 8) kmX11_peace_128_e1 (by decide +kernel)
theorem dX11_peace_137 : decode cX11_peace 137 = .ok (.bipush (-2), 2) := rd_chunk (k := 128) (i := 9) kmX11_peace_128_e1 (by decide +kernel)
theorem dX11_peace_139 : decode cX11_peace 139 = .ok (.if_icmp .eq 13, 3) := rd_chunk (k := 128) (i := 11) kmX11_peace_128_e1 (by decide +kernel)
theorem dX11_peace_142 : decode cX11_peace 142 = .ok (.aload_n 0, 1) := rd_chunk (k := 128) (i := 14) kmX11_peace_128_e1 (by decide +kernel)
theorem dX11_peace_143 : decode cX11_peace 143 = .ok (.getfield 74, 3) := rd_chunk (k := 128) (i := 15) kmX11_peace_128_e1 (by decide +kernel)
theorem dX11_peace_146 : decode cX11_peace 146 = .ok (.iconst 1, 1) := rd_chunk (k := 128) (i := 18) kmX11_peace_128_e1 (by decide +kernel)
theorem dX11_peace_147 : decode cX11_peace 147 = .ok (.iaload, 1) := rd_chunk (k := 128) (i := 19) kmX11_peace_128_e1 (by decide +kernel)
theorem dX11_peace_148 : decode cX11_peace 148 = .ok (.iload_n 2, 1) := rd_chunk (k := 128) (i := 20) kmX11_peace_128_e1 (by decide +kernel)
theorem dX11_peace_149 : decode cX11_peace 149 = .ok (.if_icmp .ge 26, 3) := rd_chunk (k := 128) (i := 21) kmX11_peace_128_e1 (by decide +kernel)
theorem dX11_peace_152 : decode cX11_peace 152 = .ok (.iload 4, 2) := rd_chunk (k := 128) (i := 24) kmX11_peace_128_e1 (by decide +kernel)
theorem dX11_peace_154 : decode cX11_peace 154 = .ok (.bipush 10, 2) := rd_chunk (k := 128) (i := 26) kmX11_peace_128_e1 (by decide +kernel)
theorem dX11_peace_156 : decode cX11_peace 156 = .ok (.imul, 1) := rd_chunk (k := 128) (i := 28) kmX11_peace_128_e1 (by decide +kernel)
theorem dX11_peace_157 : decode cX11_peace 157 = .ok (.iload 5, 2) := rd_chunk (k := 128) (i := 29) kmX11_peace_128_e1 (by decide +kernel)
theorem dX11_peace_159 : decode cX11_peace 159 = .ok (.iadd, 1) := rd_chunk (k := 128) (i := 31) kmX11_peace_128_e1 (by decide +kernel)
theorem dX11_peace_160 : decode cX11_peace 160 = .ok (.istore_n 1, 1) := rd_chunk (k := 128) (i := 32) kmX11_peace_128_e1 (by decide +kernel)
theorem dX11_peace_161 : decode cX11_peace 161 = .ok (.aload_n 0, 1) := rd_chunk (k := 128) (i := 33) kmX11_peace_128_e1 (by decide +kernel)
theorem dX11_peace_162 : decode cX11_peace 162 = .ok (.getfield 74, 3) := rd_chunk (k := 128) (i := 34) kmX11_peace_128_e1 (by decide +kernel)
theorem dX11_peace_165 : decode cX11_peace 165 = .ok (.iconst 1, 1) := rd_chunk (k := 128) (i := 37) kmX11_peace_128_e1 (by decide +kernel)
theorem dX11_peace_166 : decode cX11_peace 166 = .ok (.iaload, 1) := rd_chunk (k := 128) (i := 38) kmX11_peace_128_e1 (by decide +kernel)
theorem dX11_peace_167 : decode cX11_peace 167 = .ok (.istore_n 2, 1) := rd_chunk (k := 128) (i := 39) kmX11_peace_128_e1 (by decide +kernel)
theorem dX11_peace_168 : decode cX11_peace 168 = .ok (.aload_n 0, 1) := rd_chunk (k := 128) (i := 40) kmX11_peace_128_e1 (by decide +kernel)
theorem dX11_peace_169 : decode cX11_peace 169 = .ok (.getfield 74, 3) := rd_chunk (k := 128) (i := 41) kmX11_peace_128_e1 (by decide +kernel)
theorem dX11_peace_172 : decode cX11_peace 172 = .ok (.iconst 0, 1) := rd_chunk (k := 128) (i := 44) kmX11_peace_128_e1 (by decide +kernel)
theorem dX11_peace_173 : decode cX11_peace 173 = .ok (.iaload, 1) := rd_chunk (k := 128) (i := 45) kmX11_peace_128_e1 (by decide +kernel)
theorem dX11_peace_174 : decode cX11_peace 174 = .ok (.istore_n 3, 1) := rd_chunk (k := 128) (i := 46) kmX11_peace_128_e1 (by decide +kernel)
theorem dX11_peace_175 : decode cX11_peace 175 = .ok (.iinc 5 1, 3) := rd_chunk (k := 128) (i := 47) kmX11_peace_128_e1 (by decide +kernel)
theorem dX11_peace_178 : decode cX11_peace 178 = .ok (.goto (-146), 3) := rd_chunk (k := 128) (i := 50) kmX11_peace_128_e1 (by decide +kernel)
theorem dX11_peace_181 : decode cX11_peace 181 = .ok (.iinc 4 1, 3) := rd_chunk (k := 128) (i := 53) kmX11_peace_128_e1 (by decide +kernel)
theorem dX11_peace_184 : decode cX11_peace 184 = .ok (.goto (-165), 3) := rd_chunk (k := 128) (i := 56) kmX11_peace_128_e1 (by decide +kernel)
theorem dX11_peace_187 : decode cX11_peace 187 = .ok (.iload_n 1, 1) := rd_chunk (k := 128) (i := 59) kmX11_peace_128_e1 (by decide +kernel)
theorem dX11_peace_188 : decode cX11_peace 188 = .ok (.bipush (-2), 2) := rd_chunk (k := 128) (i := 60) kmX11_peace_128_e1 (by decide +kernel)
theorem dX11_peace_190 : decode cX11_peace 190 = .ok (.if_icmp .eq 11, 3) := rd_chunk (k := 128) (i := 62) kmX11_peace_128_e1 (by decide +kernel)
abbrev mX11_peace_192_e1 : ByteArray := .mk #[0x0b, 0x2a, 0x1c, 0x85, 0x1d, 0x85, 0xb6, 0x00, 0xe7, 0x1b, 0xac]
theorem kmX11_peace_192_e1 : CK cX11_peace 192 mX11_peace_192_e1 := ck_of (by decide +kernel)
theorem dX11_peace_193 : decode cX11_peace 193 = .ok (.aload_n 0, 1) := rd_chunk (k := 192) (i := 1) kmX11_peace_192_e1 (by decide +kernel)
theorem dX11_peace_194 : decode cX11_peace 194 = .ok (.iload_n 2, 1) := rd_chunk (k := 192) (i := 2) kmX11_peace_192_e1 (by decide +kernel)
theorem dX11_peace_195 : decode cX11_peace 195 = .ok (.i2l, 1) := rd_chunk (k := 192) (i := 3) kmX11_peace_192_e1 (by decide +kernel)
theorem dX11_peace_196 : decode cX11_peace 196 = .ok (.iload_n 3, 1) := rd_chunk (k := 192) (i := 4) kmX11_peace_192_e1 (by decide +kernel)
theorem dX11_peace_197 : decode cX11_peace 197 = .ok (.i2l, 1) := rd_chunk (k := 192) (i := 5) kmX11_peace_192_e1 (by decide +kernel)
theorem dX11_peace_198 : decode cX11_peace 198 = .ok (.invokevirtual 231, 3) := rd_chunk (k := 192) (i := 6) kmX11_peace_192_e1 (by decide +kernel)
theorem dX11_peace_201 : decode cX11_peace 201 = .ok (.iload_n 1, 1) := rd_chunk (k := 192) (i := 9) kmX11_peace_192_e1 (by decide +kernel)
theorem dX11_peace_202 : decode cX11_peace 202 = .ok (.ireturn, 1) := rd_chunk (k := 192) (i := 10) kmX11_peace_192_e1 (by decide +kernel)
theorem dX11_lamps_0 : decode cX11_lamps 0 = .ok (.iload_n 1, 1) := by decide +kernel
theorem dX11_lamps_1 : decode cX11_lamps 1 = .ok (.ifCond .lt 19, 3) := by decide +kernel
theorem dX11_lamps_4 : decode cX11_lamps 4 = .ok (.iload_n 1, 1) := by decide +kernel
theorem dX11_lamps_5 : decode cX11_lamps 5 = .ok (.bipush 24, 2) := by decide +kernel
theorem dX11_lamps_7 : decode cX11_lamps 7 = .ok (.if_icmp .ge 13, 3) := by decide +kernel
theorem dX11_lamps_10 : decode cX11_lamps 10 = .ok (.aload_n 0, 1) := by decide +kernel
theorem dX11_lamps_11 : decode cX11_lamps 11 = .ok (.getfield 26, 3) := by decide +kernel
theorem dX11_lamps_14 : decode cX11_lamps 14 = .ok (.getfield 172, 3) := by decide +kernel
theorem dX11_lamps_17 : decode cX11_lamps 17 = .ok (.ifCond .ne 5, 3) := by decide +kernel
theorem dX11_lamps_20 : decode cX11_lamps 20 = .ok (.iconst (-1), 1) := by decide +kernel
theorem dX11_lamps_21 : decode cX11_lamps 21 = .ok (.ireturn, 1) := by decide +kernel
theorem dX11_lamps_22 : decode cX11_lamps 22 = .ok (.aload_n 0, 1) := by decide +kernel
theorem dX11_lamps_23 : decode cX11_lamps 23 = .ok (.invokevirtual 340, 3) := by decide +kernel
theorem dX11_lamps_26 : decode cX11_lamps 26 = .ok (.iconst 0, 1) := by decide +kernel
theorem dX11_lamps_27 : decode cX11_lamps 27 = .ok (.istore_n 2, 1) := by decide +kernel
theorem dX11_lamps_28 : decode cX11_lamps 28 = .ok (.iload_n 2, 1) := by decide +kernel
theorem dX11_lamps_29 : decode cX11_lamps 29 = .ok (.aload_n 0, 1) := by decide +kernel
theorem dX11_lamps_30 : decode cX11_lamps 30 = .ok (.getfield 26, 3) := by decide +kernel
theorem dX11_lamps_33 : decode cX11_lamps 33 = .ok (.getfield 172, 3) := by decide +kernel
theorem dX11_lamps_36 : decode cX11_lamps 36 = .ok (.if_icmp .ge 34, 3) := by decide +kernel
theorem dX11_lamps_39 : decode cX11_lamps 39 = .ok (.aload_n 0, 1) := by decide +kernel
theorem dX11_lamps_40 : decode cX11_lamps 40 = .ok (.iload_n 2, 1) := by decide +kernel
theorem dX11_lamps_41 : decode cX11_lamps 41 = .ok (.iload_n 1, 1) := by decide +kernel
theorem dX11_lamps_42 : decode cX11_lamps 42 = .ok (.iadd, 1) := by decide +kernel
theorem dX11_lamps_43 : decode cX11_lamps 43 = .ok (.aload_n 0, 1) := by decide +kernel
theorem dX11_lamps_44 : decode cX11_lamps 44 = .ok (.getfield 26, 3) := by decide +kernel
theorem dX11_lamps_47 : decode cX11_lamps 47 = .ok (.getfield 172, 3) := by decide +kernel
theorem dX11_lamps_50 : decode cX11_lamps 50 = .ok (.iconst 1, 1) := by decide +kernel
theorem dX11_lamps_51 : decode cX11_lamps 51 = .ok (.isub, 1) := by decide +kernel
theorem dX11_lamps_52 : decode cX11_lamps 52 = .ok (.invokestatic 253, 3) := by decide +kernel
theorem dX11_lamps_55 : decode cX11_lamps 55 = .ok (.i2l, 1) := by decide +kernel
theorem dX11_lamps_56 : decode cX11_lamps 56 = .ok (.invokevirtual 289, 3) := by decide +kernel
theorem dX11_lamps_59 : decode cX11_lamps 59 = .ok (.iload_n 2, 1) := by decide +kernel
theorem dX11_lamps_60 : decode cX11_lamps 60 = .ok (.iconst 2, 1) := by decide +kernel
theorem dX11_lamps_61 : decode cX11_lamps 61 = .ok (.iload_n 1, 1) := by decide +kernel
theorem dX11_lamps_62 : decode cX11_lamps 62 = .ok (.imul, 1) := by decide +kernel
theorem dX11_lamps_63 : decode cX11_lamps 63 = .ok (.iconst 1, 1) := by decide +kernel
theorem dX11_lamps_64 : decode cX11_lamps 64 = .ok (.iadd, 1) := by decide +kernel
theorem dX11_lamps_65 : decode cX11_lamps 65 = .ok (.iadd, 1) := by decide +kernel
theorem dX11_lamps_66 : decode cX11_lamps 66 = .ok (.istore_n 2, 1) := by decide +kernel
theorem dX11_lamps_67 : decode cX11_lamps 67 = .ok (.goto (-39), 3) := by decide +kernel
theorem dX11_lamps_70 : decode cX11_lamps 70 = .ok (.aload_n 0, 1) := by decide +kernel
theorem dX11_lamps_71 : decode cX11_lamps 71 = .ok (.getfield 87, 3) := by decide +kernel
theorem dX11_lamps_74 : decode cX11_lamps 74 = .ok (.ireturn, 1) := by decide +kernel
theorem dX11_would_0 : decode cX11_would 0 = .ok (.aload_n 0, 1) := by decide +kernel
theorem dX11_would_1 : decode cX11_would 1 = .ok (.getfield 26, 3) := by decide +kernel
theorem dX11_would_4 : decode cX11_would 4 = .ok (.iload_n 1, 1) := by decide +kernel
theorem dX11_would_5 : decode cX11_would 5 = .ok (.invokevirtual 138, 3) := by decide +kernel
theorem dX11_would_8 : decode cX11_would 8 = .ok (.ifCond .eq 10, 3) := by decide +kernel
theorem dX11_would_11 : decode cX11_would 11 = .ok (.iload_n 2, 1) := by decide +kernel
theorem dX11_would_12 : decode cX11_would 12 = .ok (.invokestatic 343, 3) := by decide +kernel
theorem dX11_would_15 : decode cX11_would 15 = .ok (.ifCond .ne 5, 3) := by decide +kernel
theorem dX11_would_18 : decode cX11_would 18 = .ok (.iconst (-1), 1) := by decide +kernel
theorem dX11_would_19 : decode cX11_would 19 = .ok (.ireturn, 1) := by decide +kernel
theorem dX11_would_20 : decode cX11_would 20 = .ok (.aload_n 0, 1) := by decide +kernel
theorem dX11_would_21 : decode cX11_would 21 = .ok (.iload_n 1, 1) := by decide +kernel
theorem dX11_would_22 : decode cX11_would 22 = .ok (.invokevirtual 323, 3) := by decide +kernel
theorem dX11_would_25 : decode cX11_would 25 = .ok (.aload_n 0, 1) := by decide +kernel
theorem dX11_would_26 : decode cX11_would 26 = .ok (.getfield 77, 3) := by decide +kernel
theorem dX11_would_29 : decode cX11_would 29 = .ok (.iload_n 2, 1) := by decide +kernel
theorem dX11_would_30 : decode cX11_would 30 = .ok (.iaload, 1) := by decide +kernel
theorem dX11_would_31 : decode cX11_would 31 = .ok (.ireturn, 1) := by decide +kernel
theorem dX11_best_0 : decode cX11_best 0 = .ok (.aload_n 0, 1) := by decide +kernel
theorem dX11_best_1 : decode cX11_best 1 = .ok (.getfield 26, 3) := by decide +kernel
theorem dX11_best_4 : decode cX11_best 4 = .ok (.iload_n 1, 1) := by decide +kernel
theorem dX11_best_5 : decode cX11_best 5 = .ok (.invokevirtual 138, 3) := by decide +kernel
theorem dX11_best_8 : decode cX11_best 8 = .ok (.ifCond .ne 5, 3) := by decide +kernel
theorem dX11_best_11 : decode cX11_best 11 = .ok (.iconst (-1), 1) := by decide +kernel
theorem dX11_best_12 : decode cX11_best 12 = .ok (.ireturn, 1) := by decide +kernel
theorem dX11_best_13 : decode cX11_best 13 = .ok (.aload_n 0, 1) := by decide +kernel
theorem dX11_best_14 : decode cX11_best 14 = .ok (.iload_n 1, 1) := by decide +kernel
theorem dX11_best_15 : decode cX11_best 15 = .ok (.invokevirtual 323, 3) := by decide +kernel
theorem dX11_best_18 : decode cX11_best 18 = .ok (.aload_n 0, 1) := by decide +kernel
theorem dX11_best_19 : decode cX11_best 19 = .ok (.invokevirtual 346, 3) := by decide +kernel
theorem dX11_best_22 : decode cX11_best 22 = .ok (.istore_n 2, 1) := by decide +kernel
theorem dX11_best_23 : decode cX11_best 23 = .ok (.aload_n 0, 1) := by decide +kernel
theorem dX11_best_24 : decode cX11_best 24 = .ok (.aload_n 0, 1) := by decide +kernel
theorem dX11_best_25 : decode cX11_best 25 = .ok (.getfield 77, 3) := by decide +kernel
theorem dX11_best_28 : decode cX11_best 28 = .ok (.iload_n 2, 1) := by decide +kernel
theorem dX11_best_29 : decode cX11_best 29 = .ok (.iaload, 1) := by decide +kernel
theorem dX11_best_30 : decode cX11_best 30 = .ok (.i2l, 1) := by decide +kernel
theorem dX11_best_31 : decode cX11_best 31 = .ok (.invokevirtual 259, 3) := by decide +kernel
theorem dX11_best_34 : decode cX11_best 34 = .ok (.iload_n 2, 1) := by decide +kernel
theorem dX11_best_35 : decode cX11_best 35 = .ok (.ireturn, 1) := by decide +kernel
theorem dX11_market_0 : decode cX11_market 0 = .ok (.iload_n 1, 1) := by decide +kernel
theorem dX11_market_1 : decode cX11_market 1 = .ok (.iconst 1, 1) := by decide +kernel
theorem dX11_market_2 : decode cX11_market 2 = .ok (.if_icmp .lt 18, 3) := by decide +kernel
theorem dX11_market_5 : decode cX11_market 5 = .ok (.iload_n 1, 1) := by decide +kernel
theorem dX11_market_6 : decode cX11_market 6 = .ok (.iconst 3, 1) := by decide +kernel
theorem dX11_market_7 : decode cX11_market 7 = .ok (.if_icmp .gt 13, 3) := by decide +kernel
theorem dX11_market_10 : decode cX11_market 10 = .ok (.aload_n 0, 1) := by decide +kernel
theorem dX11_market_11 : decode cX11_market 11 = .ok (.getfield 26, 3) := by decide +kernel
theorem dX11_market_14 : decode cX11_market 14 = .ok (.getfield 172, 3) := by decide +kernel
theorem dX11_market_17 : decode cX11_market 17 = .ok (.ifCond .ne 5, 3) := by decide +kernel
theorem dX11_market_20 : decode cX11_market 20 = .ok (.iconst (-1), 1) := by decide +kernel
theorem dX11_market_21 : decode cX11_market 21 = .ok (.ireturn, 1) := by decide +kernel
theorem dX11_market_22 : decode cX11_market 22 = .ok (.iconst 0, 1) := by decide +kernel
theorem dX11_market_23 : decode cX11_market 23 = .ok (.istore_n 2, 1) := by decide +kernel
theorem dX11_market_24 : decode cX11_market 24 = .ok (.iconst 0, 1) := by decide +kernel
theorem dX11_market_25 : decode cX11_market 25 = .ok (.istore_n 3, 1) := by decide +kernel
theorem dX11_market_26 : decode cX11_market 26 = .ok (.iconst 0, 1) := by decide +kernel
theorem dX11_market_27 : decode cX11_market 27 = .ok (.istore 4, 2) := by decide +kernel
theorem dX11_market_29 : decode cX11_market 29 = .ok (.iload 4, 2) := by decide +kernel
theorem dX11_market_31 : decode cX11_market 31 = .ok (.iload_n 1, 1) := by decide +kernel
theorem dX11_market_32 : decode cX11_market 32 = .ok (.if_icmp .ge 38, 3) := by decide +kernel
theorem dX11_market_35 : decode cX11_market 35 = .ok (.iload_n 3, 1) := by decide +kernel
theorem dX11_market_36 : decode cX11_market 36 = .ok (.ifCond .ne 34, 3) := by decide +kernel
theorem dX11_market_39 : decode cX11_market 39 = .ok (.aload_n 0, 1) := by decide +kernel
theorem dX11_market_40 : decode cX11_market 40 = .ok (.invokevirtual 349, 3) := by decide +kernel
theorem dX11_market_43 : decode cX11_market 43 = .ok (.ifCond .ne 7, 3) := by decide +kernel
theorem dX11_market_46 : decode cX11_market 46 = .ok (.iconst 1, 1) := by decide +kernel
theorem dX11_market_47 : decode cX11_market 47 = .ok (.goto 4, 3) := by decide +kernel
theorem dX11_market_50 : decode cX11_market 50 = .ok (.iconst 0, 1) := by decide +kernel
theorem dX11_market_51 : decode cX11_market 51 = .ok (.istore_n 3, 1) := by decide +kernel
theorem dX11_market_52 : decode cX11_market 52 = .ok (.iload_n 2, 1) := by decide +kernel
theorem dX11_market_53 : decode cX11_market 53 = .ok (.iload_n 3, 1) := by decide +kernel
theorem dX11_market_54 : decode cX11_market 54 = .ok (.ifCond .eq 7, 3) := by decide +kernel
theorem dX11_market_57 : decode cX11_market 57 = .ok (.iconst 0, 1) := by decide +kernel
theorem dX11_market_58 : decode cX11_market 58 = .ok (.goto 4, 3) := by decide +kernel
theorem dX11_market_61 : decode cX11_market 61 = .ok (.iconst 1, 1) := by decide +kernel
theorem dX11_market_62 : decode cX11_market 62 = .ok (.iadd, 1) := by decide +kernel
theorem dX11_market_63 : decode cX11_market 63 = .ok (.istore_n 2, 1) := by decide +kernel
theorem dX11_market_64 : decode cX11_market 64 = .ok (.iinc 4 1, 3) := by decide +kernel
theorem dX11_market_67 : decode cX11_market 67 = .ok (.goto (-38), 3) := by decide +kernel
theorem dX11_market_70 : decode cX11_market 70 = .ok (.aload_n 0, 1) := by decide +kernel
theorem dX11_market_71 : decode cX11_market 71 = .ok (.iload_n 3, 1) := by decide +kernel
theorem dX11_market_72 : decode cX11_market 72 = .ok (.ifCond .eq 7, 3) := by decide +kernel
theorem dX11_market_75 : decode cX11_market 75 = .ok (.lconst 1, 1) := by decide +kernel
theorem dX11_market_76 : decode cX11_market 76 = .ok (.goto 4, 3) := by decide +kernel
theorem dX11_market_79 : decode cX11_market 79 = .ok (.lconst 0, 1) := by decide +kernel
theorem dX11_market_80 : decode cX11_market 80 = .ok (.aload_n 0, 1) := by decide +kernel
theorem dX11_market_81 : decode cX11_market 81 = .ok (.getfield 26, 3) := by decide +kernel
theorem dX11_market_84 : decode cX11_market 84 = .ok (.invokevirtual 177, 3) := by decide +kernel
theorem dX11_market_87 : decode cX11_market 87 = .ok (.i2l, 1) := by decide +kernel
theorem dX11_market_88 : decode cX11_market 88 = .ok (.invokevirtual 231, 3) := by decide +kernel
theorem dX11_market_91 : decode cX11_market 91 = .ok (.iload_n 2, 1) := by decide +kernel
theorem dX11_market_92 : decode cX11_market 92 = .ok (.ireturn, 1) := by decide +kernel
theorem dX11_parts_0 : decode cX11_parts 0 = .ok (.aload_n 0, 1) := by decide +kernel
theorem dX11_parts_1 : decode cX11_parts 1 = .ok (.getfield 26, 3) := by decide +kernel
theorem dX11_parts_4 : decode cX11_parts 4 = .ok (.iload_n 1, 1) := by decide +kernel
theorem dX11_parts_5 : decode cX11_parts 5 = .ok (.invokevirtual 138, 3) := by decide +kernel
theorem dX11_parts_8 : decode cX11_parts 8 = .ok (.ifCond .eq 25, 3) := by decide +kernel
theorem dX11_parts_11 : decode cX11_parts 11 = .ok (.iload_n 2, 1) := by decide +kernel
theorem dX11_parts_12 : decode cX11_parts 12 = .ok (.invokestatic 181, 3) := by decide +kernel
theorem dX11_parts_15 : decode cX11_parts 15 = .ok (.ifCond .eq 18, 3) := by decide +kernel
theorem dX11_parts_18 : decode cX11_parts 18 = .ok (.aload_n 0, 1) := by decide +kernel
theorem dX11_parts_19 : decode cX11_parts 19 = .ok (.getfield 26, 3) := by decide +kernel
theorem dX11_parts_22 : decode cX11_parts 22 = .ok (.getfield 160, 3) := by decide +kernel
theorem dX11_parts_25 : decode cX11_parts 25 = .ok (.iload_n 1, 1) := by decide +kernel
theorem dX11_parts_26 : decode cX11_parts 26 = .ok (.iload_n 2, 1) := by decide +kernel
theorem dX11_parts_27 : decode cX11_parts 27 = .ok (.invokevirtual 353, 3) := by decide +kernel
theorem dX11_parts_30 : decode cX11_parts 30 = .ok (.goto 4, 3) := by decide +kernel
theorem dX11_parts_33 : decode cX11_parts 33 = .ok (.iconst (-1), 1) := by decide +kernel
theorem dX11_parts_34 : decode cX11_parts 34 = .ok (.ireturn, 1) := by decide +kernel
abbrev mX11_sells_0_e1 : ByteArray := .mk #[0x2a, 0xb4, 0x00, 0x1a, 0x1b, 0xb6, 0x00, 0x8a, 0x99, 0x00, 0x16, 0x1c, 0xb8, 0x00, 0xb5, 0x99, 0x00, 0x0f, 0x1d, 0xb8, 0x00, 0xb5, 0x99, 0x00, 0x08, 0x1c, 0x1d, 0xa0, 0x00, 0x05, 0x02, 0xac, 0x15, 0x04, 0x04, 0xa1, 0x00, 0x11, 0x15, 0x05, 0x10, 0x09, 0xa3, 0x00, 0x0a, 0x15, 0x04, 0x15, 0x05, 0xa4, 0x00, 0x05, 0x02, 0xac, 0x2a, 0xb4, 0x00, 0x1a, 0xb4, 0x00, 0xa0, 0x1b, 0x1c, 0xb6, 0x01, 0x61, 0x15, 0x04, 0x68, 0x15, 0x05, 0x6c]
theorem kmX11_sells_0_e1 : CK cX11_sells 0 mX11_sells_0_e1 := ck_of (by decide +kernel)
theorem dX11_sells_0 : decode cX11_sells 0 = .ok (.aload_n 0, 1) := rd_chunk (k := 0) (i := 0) kmX11_sells_0_e1 (by decide +kernel)
theorem dX11_sells_1 : decode cX11_sells 1 = .ok (.getfield 26, 3) := rd_chunk (k := 0) (i := 1) kmX11_sells_0_e1 (by decide +kernel)
theorem dX11_sells_4 : decode cX11_sells 4 = .ok (.iload_n 1, 1) := rd_chunk (k := 0) (i := 4) kmX11_sells_0_e1 (by decide +kernel)
theorem dX11_sells_5 : decode cX11_sells 5 = .ok (.invokevirtual 138, 3) := rd_chunk (k := 0) (i := 5) kmX11_sells_0_e1 (by decide +kernel)
theorem dX11_sells_8 : decode cX11_sells 8 = .ok (.ifCond .eq 22, 3) := rd_chunk (k := 0) (i := 8) kmX11_sells_0_e1 (by decide +kernel)
theorem dX11_sells_11 : decode cX11_sells 11 = .ok (.iload_n 2, 1) := rd_chunk (k := 0) (i := 11) kmX11_sells_0_e1 (by decide +kernel)
theorem dX11_sells_12 : decode cX11_sells 12 = .ok (.invokestatic 181, 3) := rd_chunk (k := 0) (i := 12) kmX11_sells_0_e1 (by decide +kernel)
theorem dX11_sells_15 : decode cX11_sells 15 = .ok (.ifCond .eq 15, 3) := rd_chunk (k := 0) (i := 15) kmX11_sells_0_e1 (by decide +kernel)
theorem dX11_sells_18 : decode cX11_sells 18 = .ok (.iload_n 3, 1) := rd_chunk (k := 0) (i := 18) kmX11_sells_0_e1 (by decide +kernel)
theorem dX11_sells_19 : decode cX11_sells 19 = .ok (.invokestatic 181, 3) := rd_chunk (k := 0) (i := 19) kmX11_sells_0_e1 (by decide +kernel)
theorem dX11_sells_22 : decode cX11_sells 22 = .ok (.ifCond .eq 8, 3) := rd_chunk (k := 0) (i := 22) kmX11_sells_0_e1 (by decide +kernel)
theorem dX11_sells_25 : decode cX11_sells 25 = .ok (.iload_n 2, 1) := rd_chunk (k := 0) (i := 25) kmX11_sells_0_e1 (by decide +kernel)
theorem dX11_sells_26 : decode cX11_sells 26 = .ok (.iload_n 3, 1) := rd_chunk (k := 0) (i := 26) kmX11_sells_0_e1 (by decide +kernel)
theorem dX11_sells_27 : decode cX11_sells 27 = .ok (.if_icmp .ne 5, 3) := rd_chunk (k := 0) (i := 27) kmX11_sells_0_e1 (by decide +kernel)
theorem dX11_sells_30 : decode cX11_sells 30 = .ok (.iconst (-1), 1) := rd_chunk (k := 0) (i := 30) kmX11_sells_0_e1 (by decide +kernel)
theorem dX11_sells_31 : decode cX11_sells 31 = .ok (.ireturn, 1) := rd_chunk (k := 0) (i := 31) kmX11_sells_0_e1 (by decide +kernel)
theorem dX11_sells_32 : decode cX11_sells 32 = .ok (.iload 4, 2) := rd_chunk (k := 0) (i := 32) kmX11_sells_0_e1 (by decide +kernel)
theorem dX11_sells_34 : decode cX11_sells 34 = .ok (.iconst 1, 1) := rd_chunk (k := 0) (i := 34) kmX11_sells_0_e1 (by decide +kernel)
theorem dX11_sells_35 : decode cX11_sells 35 = .ok (.if_icmp .lt 17, 3) := rd_chunk (k := 0) (i := 35) kmX11_sells_0_e1 (by decide +kernel)
theorem dX11_sells_38 : decode cX11_sells 38 = .ok (.iload 5, 2) := rd_chunk (k := 0) (i := 38) kmX11_sells_0_e1 (by decide +kernel)
theorem dX11_sells_40 : decode cX11_sells 40 = .ok (.bipush 9, 2) := rd_chunk (k := 0) (i := 40) kmX11_sells_0_e1 (by decide +kernel)
theorem dX11_sells_42 : decode cX11_sells 42 = .ok (.if_icmp .gt 10, 3) := rd_chunk (k := 0) (i := 42) kmX11_sells_0_e1 (by decide +kernel)
theorem dX11_sells_45 : decode cX11_sells 45 = .ok (.iload 4, 2) := rd_chunk (k := 0) (i := 45) kmX11_sells_0_e1 (by decide +kernel)
theorem dX11_sells_47 : decode cX11_sells 47 = .ok (.iload 5, 2) := rd_chunk (k := 0) (i := 47) kmX11_sells_0_e1 (by decide +kernel)
theorem dX11_sells_49 : decode cX11_sells 49 = .ok (.if_icmp .le 5, 3) := rd_chunk (k := 0) (i := 49) kmX11_sells_0_e1 (by decide +kernel)
theorem dX11_sells_52 : decode cX11_sells 52 = .ok (.iconst (-1), 1) := rd_chunk (k := 0) (i := 52) kmX11_sells_0_e1 (by decide +kernel)
theorem dX11_sells_53 : decode cX11_sells 53 = .ok (.ireturn, 1) := rd_chunk (k := 0) (i := 53) kmX11_sells_0_e1 (by decide +kernel)
theorem dX11_sells_54 : decode cX11_sells 54 = .ok (.aload_n 0, 1) := rd_chunk (k := 0) (i := 54) kmX11_sells_0_e1 (by decide +kernel)
theorem dX11_sells_55 : decode cX11_sells 55 = .ok (.getfield 26, 3) := rd_chunk (k := 0) (i := 55) kmX11_sells_0_e1 (by decide +kernel)
theorem dX11_sells_58 : decode cX11_sells 58 = .ok (.getfield 160, 3) := rd_chunk (k := 0) (i := 58) kmX11_sells_0_e1 (by decide +kernel)
theorem dX11_sells_61 : decode cX11_sells 61 = .ok (.iload_n 1, 1) := rd_chunk (k := 0) (i := 61) kmX11_sells_0_e1 (by decide +kernel)
theorem dX11_sells_62 : decode cX11_sells 62 = .ok (.iload_n 2, 1) := rd_chunk (k := 0) (i := 62) kmX11_sells_0_e1 (by decide +kernel)
theorem dX11_sells_63 : decode cX11_sells 63 = .ok (.invokevirtual 353, 3) := rd_chunk (k := 0) (i := 63) kmX11_sells_0_e1 (by decide +kernel)
abbrev mX11_sells_64_e1 : ByteArray := .mk #[0x01, 0x61, 0x15, 0x04, 0x68, 0x15, 0x05, 0x6c, 0x36, 0x06, 0x15, 0x06, 0x9a, 0x00, 0x05, 0x02, 0xac, 0x2a, 0xb4, 0x00, 0x1a, 0xb4, 0x00, 0xa0, 0xb6, 0x01, 0x64, 0x2a, 0xb4, 0x00, 0x1a, 0xb4, 0x00, 0xa0, 0x1b, 0x1c, 0x1d, 0x15, 0x06, 0xb6, 0x01, 0x67, 0x15, 0x06, 0xac]
theorem kmX11_sells_64_e1 : CK cX11_sells 64 mX11_sells_64_e1 := ck_of (by decide +kernel)
theorem dX11_sells_66 : decode cX11_sells 66 = .ok (.iload 4, 2) := rd_chunk (k := 64) (i := 2) kmX11_sells_64_e1 (by decide +kernel)
theorem dX11_sells_68 : decode cX11_sells 68 = .ok (.imul, 1) := rd_chunk (k := 64) (i := 4) kmX11_sells_64_e1 (by decide +kernel)
theorem dX11_sells_69 : decode cX11_sells 69 = .ok (.iload 5, 2) := rd_chunk (k := 64) (i := 5) kmX11_sells_64_e1 (by decide +kernel)
theorem dX11_sells_71 : decode cX11_sells 71 = .ok (.idiv, 1) := rd_chunk (k := 64) (i := 7) kmX11_sells_64_e1 (by decide +kernel)
theorem dX11_sells_72 : decode cX11_sells 72 = .ok (.istore 6, 2) := rd_chunk (k := 64) (i := 8) kmX11_sells_64_e1 (by decide +kernel)
theorem dX11_sells_74 : decode cX11_sells 74 = .ok (.iload 6, 2) := rd_chunk (k := 64) (i := 10) kmX11_sells_64_e1 (by decide +kernel)
theorem dX11_sells_76 : decode cX11_sells 76 = .ok (.ifCond .ne 5, 3) := rd_chunk (k := 64) (i := 12) kmX11_sells_64_e1 (by decide +kernel)
theorem dX11_sells_79 : decode cX11_sells 79 = .ok (.iconst (-1), 1) := rd_chunk (k := 64) (i := 15) kmX11_sells_64_e1 (by decide +kernel)
theorem dX11_sells_80 : decode cX11_sells 80 = .ok (.ireturn, 1) := rd_chunk (k := 64) (i := 16) kmX11_sells_64_e1 (by decide +kernel)
theorem dX11_sells_81 : decode cX11_sells 81 = .ok (.aload_n 0, 1) := rd_chunk (k := 64) (i := 17) kmX11_sells_64_e1 (by decide +kernel)
theorem dX11_sells_82 : decode cX11_sells 82 = .ok (.getfield 26, 3) := rd_chunk (k := 64) (i := 18) kmX11_sells_64_e1 (by decide +kernel)
theorem dX11_sells_85 : decode cX11_sells 85 = .ok (.getfield 160, 3) := rd_chunk (k := 64) (i := 21) kmX11_sells_64_e1 (by decide +kernel)
theorem dX11_sells_88 : decode cX11_sells 88 = .ok (.invokevirtual 356, 3) := rd_chunk (k := 64) (i := 24) kmX11_sells_64_e1 (by decide +kernel)
theorem dX11_sells_91 : decode cX11_sells 91 = .ok (.aload_n 0, 1) := rd_chunk (k := 64) (i := 27) kmX11_sells_64_e1 (by decide +kernel)
theorem dX11_sells_92 : decode cX11_sells 92 = .ok (.getfield 26, 3) := rd_chunk (k := 64) (i := 28) kmX11_sells_64_e1 (by decide +kernel)
theorem dX11_sells_95 : decode cX11_sells 95 = .ok (.getfield 160, 3) := rd_chunk (k := 64) (i := 31) kmX11_sells_64_e1 (by decide +kernel)
theorem dX11_sells_98 : decode cX11_sells 98 = .ok (.iload_n 1, 1) := rd_chunk (k := 64) (i := 34) kmX11_sells_64_e1 (by decide +kernel)
theorem dX11_sells_99 : decode cX11_sells 99 = .ok (.iload_n 2, 1) := rd_chunk (k := 64) (i := 35) kmX11_sells_64_e1 (by decide +kernel)
theorem dX11_sells_100 : decode cX11_sells 100 = .ok (.iload_n 3, 1) := rd_chunk (k := 64) (i := 36) kmX11_sells_64_e1 (by decide +kernel)
theorem dX11_sells_101 : decode cX11_sells 101 = .ok (.iload 6, 2) := rd_chunk (k := 64) (i := 37) kmX11_sells_64_e1 (by decide +kernel)
theorem dX11_sells_103 : decode cX11_sells 103 = .ok (.invokevirtual 359, 3) := rd_chunk (k := 64) (i := 39) kmX11_sells_64_e1 (by decide +kernel)
theorem dX11_sells_106 : decode cX11_sells 106 = .ok (.iload 6, 2) := rd_chunk (k := 64) (i := 42) kmX11_sells_64_e1 (by decide +kernel)
theorem dX11_sells_108 : decode cX11_sells 108 = .ok (.ireturn, 1) := rd_chunk (k := 64) (i := 44) kmX11_sells_64_e1 (by decide +kernel)
theorem dX11_dies_0 : decode cX11_dies 0 = .ok (.iload_n 1, 1) := by decide +kernel
theorem dX11_dies_1 : decode cX11_dies 1 = .ok (.invokestatic 181, 3) := by decide +kernel
theorem dX11_dies_4 : decode cX11_dies 4 = .ok (.ifCond .eq 23, 3) := by decide +kernel
theorem dX11_dies_7 : decode cX11_dies 7 = .ok (.iload_n 2, 1) := by decide +kernel
theorem dX11_dies_8 : decode cX11_dies 8 = .ok (.iconst 1, 1) := by decide +kernel
theorem dX11_dies_9 : decode cX11_dies 9 = .ok (.if_icmp .lt 18, 3) := by decide +kernel
theorem dX11_dies_12 : decode cX11_dies 12 = .ok (.iload_n 2, 1) := by decide +kernel
theorem dX11_dies_13 : decode cX11_dies 13 = .ok (.sipush 255, 3) := by decide +kernel
theorem dX11_dies_16 : decode cX11_dies 16 = .ok (.if_icmp .gt 11, 3) := by decide +kernel
theorem dX11_dies_19 : decode cX11_dies 19 = .ok (.iload_n 2, 1) := by decide +kernel
theorem dX11_dies_20 : decode cX11_dies 20 = .ok (.iload_n 1, 1) := by decide +kernel
theorem dX11_dies_21 : decode cX11_dies 21 = .ok (.ishr, 1) := by decide +kernel
theorem dX11_dies_22 : decode cX11_dies 22 = .ok (.iconst 1, 1) := by decide +kernel
theorem dX11_dies_23 : decode cX11_dies 23 = .ok (.iand, 1) := by decide +kernel
theorem dX11_dies_24 : decode cX11_dies 24 = .ok (.ifCond .eq 5, 3) := by decide +kernel
theorem dX11_dies_27 : decode cX11_dies 27 = .ok (.iconst (-1), 1) := by decide +kernel
theorem dX11_dies_28 : decode cX11_dies 28 = .ok (.ireturn, 1) := by decide +kernel
theorem dX11_dies_29 : decode cX11_dies 29 = .ok (.aload_n 0, 1) := by decide +kernel
theorem dX11_dies_30 : decode cX11_dies 30 = .ok (.getfield 26, 3) := by decide +kernel
theorem dX11_dies_33 : decode cX11_dies 33 = .ok (.getfield 160, 3) := by decide +kernel
theorem dX11_dies_36 : decode cX11_dies 36 = .ok (.iload_n 1, 1) := by decide +kernel
theorem dX11_dies_37 : decode cX11_dies 37 = .ok (.invokevirtual 256, 3) := by decide +kernel
theorem dX11_dies_40 : decode cX11_dies 40 = .ok (.istore_n 3, 1) := by decide +kernel
theorem dX11_dies_41 : decode cX11_dies 41 = .ok (.iload_n 3, 1) := by decide +kernel
theorem dX11_dies_42 : decode cX11_dies 42 = .ok (.ifCond .le 48, 3) := by decide +kernel
theorem dX11_dies_45 : decode cX11_dies 45 = .ok (.aload_n 0, 1) := by decide +kernel
theorem dX11_dies_46 : decode cX11_dies 46 = .ok (.getfield 26, 3) := by decide +kernel
theorem dX11_dies_49 : decode cX11_dies 49 = .ok (.getfield 160, 3) := by decide +kernel
theorem dX11_dies_52 : decode cX11_dies 52 = .ok (.invokevirtual 356, 3) := by decide +kernel
theorem dX11_dies_55 : decode cX11_dies 55 = .ok (.iconst 0, 1) := by decide +kernel
theorem dX11_dies_56 : decode cX11_dies 56 = .ok (.istore 4, 2) := by decide +kernel
theorem dX11_dies_58 : decode cX11_dies 58 = .ok (.iload 4, 2) := by decide +kernel
theorem dX11_dies_60 : decode cX11_dies 60 = .ok (.aload_n 0, 1) := by decide +kernel
theorem dX11_dies_61 : decode cX11_dies 61 = .ok (.getfield 26, 3) := by decide +kernel
theorem dX11_dies_64 : decode cX11_dies 64 = .ok (.getfield 172, 3) := by decide +kernel
theorem dX11_dies_67 : decode cX11_dies 67 = .ok (.if_icmp .ge 23, 3) := by decide +kernel
theorem dX11_dies_70 : decode cX11_dies 70 = .ok (.aload_n 0, 1) := by decide +kernel
theorem dX11_dies_71 : decode cX11_dies 71 = .ok (.getfield 26, 3) := by decide +kernel
theorem dX11_dies_74 : decode cX11_dies 74 = .ok (.getfield 160, 3) := by decide +kernel
theorem dX11_dies_77 : decode cX11_dies 77 = .ok (.iload 4, 2) := by decide +kernel
theorem dX11_dies_79 : decode cX11_dies 79 = .ok (.iload_n 1, 1) := by decide +kernel
theorem dX11_dies_80 : decode cX11_dies 80 = .ok (.iload_n 2, 1) := by decide +kernel
theorem dX11_dies_81 : decode cX11_dies 81 = .ok (.invokevirtual 363, 3) := by decide +kernel
theorem dX11_dies_84 : decode cX11_dies 84 = .ok (.iinc 4 1, 3) := by decide +kernel
theorem dX11_dies_87 : decode cX11_dies 87 = .ok (.goto (-29), 3) := by decide +kernel
theorem dX11_dies_90 : decode cX11_dies 90 = .ok (.iload_n 3, 1) := by decide +kernel
theorem dX11_dies_91 : decode cX11_dies 91 = .ok (.ireturn, 1) := by decide +kernel
theorem dX11_undo_0 : decode cX11_undo 0 = .ok (.aload_n 0, 1) := by decide +kernel
theorem dX11_undo_1 : decode cX11_undo 1 = .ok (.getfield 26, 3) := by decide +kernel
theorem dX11_undo_4 : decode cX11_undo 4 = .ok (.getfield 160, 3) := by decide +kernel
theorem dX11_undo_7 : decode cX11_undo 7 = .ok (.invokevirtual 366, 3) := by decide +kernel
theorem dX11_undo_10 : decode cX11_undo 10 = .ok (.ifCond .eq 16, 3) := by decide +kernel
theorem dX11_undo_13 : decode cX11_undo 13 = .ok (.aload_n 0, 1) := by decide +kernel
theorem dX11_undo_14 : decode cX11_undo 14 = .ok (.getfield 26, 3) := by decide +kernel
theorem dX11_undo_17 : decode cX11_undo 17 = .ok (.getfield 160, 3) := by decide +kernel
theorem dX11_undo_20 : decode cX11_undo 20 = .ok (.getfield 369, 3) := by decide +kernel
theorem dX11_undo_23 : decode cX11_undo 23 = .ok (.goto 4, 3) := by decide +kernel
theorem dX11_undo_26 : decode cX11_undo 26 = .ok (.iconst (-1), 1) := by decide +kernel
theorem dX11_undo_27 : decode cX11_undo 27 = .ok (.ireturn, 1) := by decide +kernel
abbrev mX11_rail_0_e1 : ByteArray := .mk #[0x1b, 0x9b, 0x00, 0x14, 0x1b, 0x11, 0x27, 0x0f, 0xa3, 0x00, 0x0d, 0x2a, 0xb4, 0x00, 0x1a, 0xb4, 0x00, 0xac, 0x9a, 0x00, 0x05, 0x02, 0xac, 0x2a, 0xb4, 0x00, 0x1a, 0xb4, 0x00, 0xa0, 0x2a, 0xb4, 0x00, 0x2c, 0xb6, 0x01, 0x74, 0x2a, 0x1b, 0x11, 0x02, 0xd0, 0x2a, 0xb4, 0x00, 0x1a, 0xb4, 0x00, 0xac, 0x68, 0xb6, 0x01, 0x78, 0x03, 0x3d, 0x2a, 0xb6, 0x01, 0x54, 0x03, 0x3e, 0x1d, 0x10, 0x08, 0xa2, 0x00, 0x25, 0x2a, 0x2a, 0xb4, 0x00, 0x2c]
theorem kmX11_rail_0_e1 : CK cX11_rail 0 mX11_rail_0_e1 := ck_of (by decide +kernel)
theorem dX11_rail_0 : decode cX11_rail 0 = .ok (.iload_n 1, 1) := rd_chunk (k := 0) (i := 0) kmX11_rail_0_e1 (by decide +kernel)
theorem dX11_rail_1 : decode cX11_rail 1 = .ok (.ifCond .lt 20, 3) := rd_chunk (k := 0) (i := 1) kmX11_rail_0_e1 (by decide +kernel)
theorem dX11_rail_4 : decode cX11_rail 4 = .ok (.iload_n 1, 1) := rd_chunk (k := 0) (i := 4) kmX11_rail_0_e1 (by decide +kernel)
theorem dX11_rail_5 : decode cX11_rail 5 = .ok (.sipush 9999, 3) := rd_chunk (k := 0) (i := 5) kmX11_rail_0_e1 (by decide +kernel)
theorem dX11_rail_8 : decode cX11_rail 8 = .ok (.if_icmp .gt 13, 3) := rd_chunk (k := 0) (i := 8) kmX11_rail_0_e1 (by decide +kernel)
theorem dX11_rail_11 : decode cX11_rail 11 = .ok (.aload_n 0, 1) := rd_chunk (k := 0) (i := 11) kmX11_rail_0_e1 (by decide +kernel)
theorem dX11_rail_12 : decode cX11_rail 12 = .ok (.getfield 26, 3) := rd_chunk (k := 0) (i := 12) kmX11_rail_0_e1 (by decide +kernel)
theorem dX11_rail_15 : decode cX11_rail 15 = .ok (.getfield 172, 3) := rd_chunk (k := 0) (i := 15) kmX11_rail_0_e1 (by decide +kernel)
theorem dX11_rail_18 : decode cX11_rail 18 = .ok (.ifCond .ne 5, 3) := rd_chunk (k := 0) (i := 18) kmX11_rail_0_e1 (by decide +kernel)
theorem dX11_rail_21 : decode cX11_rail 21 = .ok (.iconst (-1), 1) := rd_chunk (k := 0) (i := 21) kmX11_rail_0_e1 (by decide +kernel)
theorem dX11_rail_22 : decode cX11_rail 22 = .ok (.ireturn, 1) := rd_chunk (k := 0) (i := 22) kmX11_rail_0_e1 (by decide +kernel)
theorem dX11_rail_23 : decode cX11_rail 23 = .ok (.aload_n 0, 1) := rd_chunk (k := 0) (i := 23) kmX11_rail_0_e1 (by decide +kernel)
theorem dX11_rail_24 : decode cX11_rail 24 = .ok (.getfield 26, 3) := rd_chunk (k := 0) (i := 24) kmX11_rail_0_e1 (by decide +kernel)
theorem dX11_rail_27 : decode cX11_rail 27 = .ok (.getfield 160, 3) := rd_chunk (k := 0) (i := 27) kmX11_rail_0_e1 (by decide +kernel)
theorem dX11_rail_30 : decode cX11_rail 30 = .ok (.aload_n 0, 1) := rd_chunk (k := 0) (i := 30) kmX11_rail_0_e1 (by decide +kernel)
theorem dX11_rail_31 : decode cX11_rail 31 = .ok (.getfield 44, 3) := rd_chunk (k := 0) (i := 31) kmX11_rail_0_e1 (by decide +kernel)
theorem dX11_rail_34 : decode cX11_rail 34 = .ok (.invokevirtual 372, 3) := rd_chunk (k := 0) (i := 34) kmX11_rail_0_e1 (by decide +kernel)
theorem dX11_rail_37 : decode cX11_rail 37 = .ok (.aload_n 0, 1) := rd_chunk (k := 0) (i := 37) kmX11_rail_0_e1 (by decide +kernel)
theorem dX11_rail_38 : decode cX11_rail 38 = .ok (.iload_n 1, 1) := rd_chunk (k := 0) (i := 38) kmX11_rail_0_e1 (by decide +kernel)
theorem dX11_rail_39 : decode cX11_rail 39 = .ok (.sipush 720, 3) := rd_chunk (k := 0) (i := 39) kmX11_rail_0_e1 (by decide +kernel)
theorem dX11_rail_42 : decode cX11_rail 42 = .ok (.aload_n 0, 1) := rd_chunk (k := 0) (i := 42) kmX11_rail_0_e1 (by decide +kernel)
theorem dX11_rail_43 : decode cX11_rail 43 = .ok (.getfield 26, 3) := rd_chunk (k := 0) (i := 43) kmX11_rail_0_e1 (by decide +kernel)
theorem dX11_rail_46 : decode cX11_rail 46 = .ok (.getfield 172, 3) := rd_chunk (k := 0) (i := 46) kmX11_rail_0_e1 (by decide +kernel)
theorem dX11_rail_49 : decode cX11_rail 49 = .ok (.imul, 1) := rd_chunk (k := 0) (i := 49) kmX11_rail_0_e1 (by decide +kernel)
theorem dX11_rail_50 : decode cX11_rail 50 = .ok (.invokevirtual 376, 3) := rd_chunk (k := 0) (i := 50) kmX11_rail_0_e1 (by decide +kernel)
theorem dX11_rail_53 : decode cX11_rail 53 = .ok (.iconst 0, 1) := rd_chunk (k := 0) (i := 53) kmX11_rail_0_e1 (by decide +kernel)
theorem dX11_rail_54 : decode cX11_rail 54 = .ok (.istore_n 2, 1) := rd_chunk (k := 0) (i := 54) kmX11_rail_0_e1 (by decide +kernel)
theorem dX11_rail_55 : decode cX11_rail 55 = .ok (.aload_n 0, 1) := rd_chunk (k := 0) (i := 55) kmX11_rail_0_e1 (by decide +kernel)
theorem dX11_rail_56 : decode cX11_rail 56 = .ok (.invokevirtual 340, 3) := rd_chunk (k := 0) (i := 56) kmX11_rail_0_e1 (by decide +kernel)
theorem dX11_rail_59 : decode cX11_rail 59 = .ok (.iconst 0, 1) := rd_chunk (k := 0) (i := 59) kmX11_rail_0_e1 (by decide +kernel)
theorem dX11_rail_60 : decode cX11_rail 60 = .ok (.istore_n 3, 1) := rd_chunk (k := 0) (i := 60) kmX11_rail_0_e1 (by decide +kernel)
theorem dX11_rail_61 : decode cX11_rail 61 = .ok (.iload_n 3, 1) := rd_chunk (k := 0) (i := 61) kmX11_rail_0_e1 (by decide +kernel)
theorem dX11_rail_62 : decode cX11_rail 62 = .ok (.bipush 8, 2) := rd_chunk (k := 0) (i := 62) kmX11_rail_0_e1 (by decide +kernel)
abbrev mX11_rail_64_e1 : ByteArray := .mk #[0xa2, 0x00, 0x25, 0x2a, 0x2a, 0xb4, 0x00, 0x2c, 0x1d, 0x2e, 0x85, 0xb6, 0x01, 0x21, 0x1c, 0x2a, 0xb4, 0x00, 0x2c, 0x1d, 0x2e, 0x9e, 0x00, 0x07, 0x04, 0xa7, 0x00, 0x04, 0x03, 0x60, 0x3d, 0x84, 0x03, 0x01, 0xa7, 0xff, 0xdb, 0x1c, 0xac]
theorem kmX11_rail_64_e1 : CK cX11_rail 64 mX11_rail_64_e1 := ck_of (by decide +kernel)
theorem dX11_rail_64 : decode cX11_rail 64 = .ok (.if_icmp .ge 37, 3) := rd_chunk (k := 64) (i := 0) kmX11_rail_64_e1 (by decide +kernel)
theorem dX11_rail_67 : decode cX11_rail 67 = .ok (.aload_n 0, 1) := rd_chunk (k := 64) (i := 3) kmX11_rail_64_e1 (by decide +kernel)
theorem dX11_rail_68 : decode cX11_rail 68 = .ok (.aload_n 0, 1) := rd_chunk (k := 64) (i := 4) kmX11_rail_64_e1 (by decide +kernel)
theorem dX11_rail_69 : decode cX11_rail 69 = .ok (.getfield 44, 3) := rd_chunk (k := 64) (i := 5) kmX11_rail_64_e1 (by decide +kernel)
theorem dX11_rail_72 : decode cX11_rail 72 = .ok (.iload_n 3, 1) := rd_chunk (k := 64) (i := 8) kmX11_rail_64_e1 (by decide +kernel)
theorem dX11_rail_73 : decode cX11_rail 73 = .ok (.iaload, 1) := rd_chunk (k := 64) (i := 9) kmX11_rail_64_e1 (by decide +kernel)
theorem dX11_rail_74 : decode cX11_rail 74 = .ok (.i2l, 1) := rd_chunk (k := 64) (i := 10) kmX11_rail_64_e1 (by decide +kernel)
theorem dX11_rail_75 : decode cX11_rail 75 = .ok (.invokevirtual 289, 3) := rd_chunk (k := 64) (i := 11) kmX11_rail_64_e1 (by decide +kernel)
theorem dX11_rail_78 : decode cX11_rail 78 = .ok (.iload_n 2, 1) := rd_chunk (k := 64) (i := 14) kmX11_rail_64_e1 (by decide +kernel)
theorem dX11_rail_79 : decode cX11_rail 79 = .ok (.aload_n 0, 1) := rd_chunk (k := 64) (i := 15) kmX11_rail_64_e1 (by decide +kernel)
theorem dX11_rail_80 : decode cX11_rail 80 = .ok (.getfield 44, 3) := rd_chunk (k := 64) (i := 16) kmX11_rail_64_e1 (by decide +kernel)
theorem dX11_rail_83 : decode cX11_rail 83 = .ok (.iload_n 3, 1) := rd_chunk (k := 64) (i := 19) kmX11_rail_64_e1 (by decide +kernel)
theorem dX11_rail_84 : decode cX11_rail 84 = .ok (.iaload, 1) := rd_chunk (k := 64) (i := 20) kmX11_rail_64_e1 (by decide +kernel)
theorem dX11_rail_85 : decode cX11_rail 85 = .ok (.ifCond .le 7, 3) := rd_chunk (k := 64) (i := 21) kmX11_rail_64_e1 (by decide +kernel)
theorem dX11_rail_88 : decode cX11_rail 88 = .ok (.iconst 1, 1) := rd_chunk (k := 64) (i := 24) kmX11_rail_64_e1 (by decide +kernel)
theorem dX11_rail_89 : decode cX11_rail 89 = .ok (.goto 4, 3) := rd_chunk (k := 64) (i := 25) kmX11_rail_64_e1 (by decide +kernel)
theorem dX11_rail_92 : decode cX11_rail 92 = .ok (.iconst 0, 1) := rd_chunk (k := 64) (i := 28) kmX11_rail_64_e1 (by decide +kernel)
theorem dX11_rail_93 : decode cX11_rail 93 = .ok (.iadd, 1) := rd_chunk (k := 64) (i := 29) kmX11_rail_64_e1 (by decide +kernel)
theorem dX11_rail_94 : decode cX11_rail 94 = .ok (.istore_n 2, 1) := rd_chunk (k := 64) (i := 30) kmX11_rail_64_e1 (by decide +kernel)
theorem dX11_rail_95 : decode cX11_rail 95 = .ok (.iinc 3 1, 3) := rd_chunk (k := 64) (i := 31) kmX11_rail_64_e1 (by decide +kernel)
theorem dX11_rail_98 : decode cX11_rail 98 = .ok (.goto (-37), 3) := rd_chunk (k := 64) (i := 34) kmX11_rail_64_e1 (by decide +kernel)
theorem dX11_rail_101 : decode cX11_rail 101 = .ok (.iload_n 2, 1) := rd_chunk (k := 64) (i := 37) kmX11_rail_64_e1 (by decide +kernel)
theorem dX11_rail_102 : decode cX11_rail 102 = .ok (.ireturn, 1) := rd_chunk (k := 64) (i := 38) kmX11_rail_64_e1 (by decide +kernel)
abbrev mX11_rules_0_e1 : ByteArray := .mk #[0x1b, 0x9b, 0x00, 0x21, 0x1b, 0x04, 0xa3, 0x00, 0x1c, 0x2a, 0xb4, 0x00, 0x1a, 0xb4, 0x00, 0xac, 0x99, 0x00, 0x12, 0x1b, 0x9a, 0x00, 0x10, 0x2a, 0xb4, 0x00, 0x1a, 0x1c, 0xb6, 0x00, 0x8a, 0x9a, 0x00, 0x05, 0x02, 0xac, 0x1b, 0x9a, 0x00, 0x15, 0x2a, 0xb4, 0x00, 0x1a, 0xb4, 0x00, 0xa0, 0x1c, 0x2a, 0xb4, 0x00, 0x2c, 0xb6, 0x01, 0x7c, 0xa7, 0x00, 0x11, 0x2a, 0xb4, 0x00, 0x1a, 0xb4, 0x00, 0xa0, 0x2a, 0xb4, 0x00, 0x2c, 0xb6, 0x01, 0x7f]
theorem kmX11_rules_0_e1 : CK cX11_rules 0 mX11_rules_0_e1 := ck_of (by decide +kernel)
theorem dX11_rules_0 : decode cX11_rules 0 = .ok (.iload_n 1, 1) := rd_chunk (k := 0) (i := 0) kmX11_rules_0_e1 (by decide +kernel)
theorem dX11_rules_1 : decode cX11_rules 1 = .ok (.ifCond .lt 33, 3) := rd_chunk (k := 0) (i := 1) kmX11_rules_0_e1 (by decide +kernel)
theorem dX11_rules_4 : decode cX11_rules 4 = .ok (.iload_n 1, 1) := rd_chunk (k := 0) (i := 4) kmX11_rules_0_e1 (by decide +kernel)
theorem dX11_rules_5 : decode cX11_rules 5 = .ok (.iconst 1, 1) := rd_chunk (k := 0) (i := 5) kmX11_rules_0_e1 (by decide +kernel)
theorem dX11_rules_6 : decode cX11_rules 6 = .ok (.if_icmp .gt 28, 3) := rd_chunk (k := 0) (i := 6) kmX11_rules_0_e1 (by decide +kernel)
theorem dX11_rules_9 : decode cX11_rules 9 = .ok (.aload_n 0, 1) := rd_chunk (k := 0) (i := 9) kmX11_rules_0_e1 (by decide +kernel)
theorem dX11_rules_10 : decode cX11_rules 10 = .ok (.getfield 26, 3) := rd_chunk (k := 0) (i := 10) kmX11_rules_0_e1 (by decide +kernel)
theorem dX11_rules_13 : decode cX11_rules 13 = .ok (.getfield 172, 3) := rd_chunk (k := 0) (i := 13) kmX11_rules_0_e1 (by decide +kernel)
theorem dX11_rules_16 : decode cX11_rules 16 = .ok (.ifCond .eq 18, 3) := rd_chunk (k := 0) (i := 16) kmX11_rules_0_e1 (by decide +kernel)
theorem dX11_rules_19 : decode cX11_rules 19 = .ok (.iload_n 1, 1) := rd_chunk (k := 0) (i := 19) kmX11_rules_0_e1 (by decide +kernel)
theorem dX11_rules_20 : decode cX11_rules 20 = .ok (.ifCond .ne 16, 3) := rd_chunk (k := 0) (i := 20) kmX11_rules_0_e1 (by decide +kernel)
theorem dX11_rules_23 : decode cX11_rules 23 = .ok (.aload_n 0, 1) := rd_chunk (k := 0) (i := 23) kmX11_rules_0_e1 (by decide +kernel)
theorem dX11_rules_24 : decode cX11_rules 24 = .ok (.getfield 26, 3) := rd_chunk (k := 0) (i := 24) kmX11_rules_0_e1 (by decide +kernel)
theorem dX11_rules_27 : decode cX11_rules 27 = .ok (.iload_n 2, 1) := rd_chunk (k := 0) (i := 27) kmX11_rules_0_e1 (by decide +kernel)
theorem dX11_rules_28 : decode cX11_rules 28 = .ok (.invokevirtual 138, 3) := rd_chunk (k := 0) (i := 28) kmX11_rules_0_e1 (by decide +kernel)
theorem dX11_rules_31 : decode cX11_rules 31 = .ok (.ifCond .ne 5, 3) := rd_chunk (k := 0) (i := 31) kmX11_rules_0_e1 (by decide +kernel)
theorem dX11_rules_34 : decode cX11_rules 34 = .ok (.iconst (-1), 1) := rd_chunk (k := 0) (i := 34) kmX11_rules_0_e1 (by decide +kernel)
theorem dX11_rules_35 : decode cX11_rules 35 = .ok (.ireturn, 1) := rd_chunk (k := 0) (i := 35) kmX11_rules_0_e1 (by decide +kernel)
theorem dX11_rules_36 : decode cX11_rules 36 = .ok (.iload_n 1, 1) := rd_chunk (k := 0) (i := 36) kmX11_rules_0_e1 (by decide +kernel)
theorem dX11_rules_37 : decode cX11_rules 37 = .ok (.ifCond .ne 21, 3) := rd_chunk (k := 0) (i := 37) kmX11_rules_0_e1 (by decide +kernel)
theorem dX11_rules_40 : decode cX11_rules 40 = .ok (.aload_n 0, 1) := rd_chunk (k := 0) (i := 40) kmX11_rules_0_e1 (by decide +kernel)
theorem dX11_rules_41 : decode cX11_rules 41 = .ok (.getfield 26, 3) := rd_chunk (k := 0) (i := 41) kmX11_rules_0_e1 (by decide +kernel)
theorem dX11_rules_44 : decode cX11_rules 44 = .ok (.getfield 160, 3) := rd_chunk (k := 0) (i := 44) kmX11_rules_0_e1 (by decide +kernel)
theorem dX11_rules_47 : decode cX11_rules 47 = .ok (.iload_n 2, 1) := rd_chunk (k := 0) (i := 47) kmX11_rules_0_e1 (by decide +kernel)
theorem dX11_rules_48 : decode cX11_rules 48 = .ok (.aload_n 0, 1) := rd_chunk (k := 0) (i := 48) kmX11_rules_0_e1 (by decide +kernel)
theorem dX11_rules_49 : decode cX11_rules 49 = .ok (.getfield 44, 3) := rd_chunk (k := 0) (i := 49) kmX11_rules_0_e1 (by decide +kernel)
theorem dX11_rules_52 : decode cX11_rules 52 = .ok (.invokevirtual 380, 3) := rd_chunk (k := 0) (i := 52) kmX11_rules_0_e1 (by decide +kernel)
theorem dX11_rules_55 : decode cX11_rules 55 = .ok (.goto 17, 3) := rd_chunk (k := 0) (i := 55) kmX11_rules_0_e1 (by decide +kernel)
theorem dX11_rules_58 : decode cX11_rules 58 = .ok (.aload_n 0, 1) := rd_chunk (k := 0) (i := 58) kmX11_rules_0_e1 (by decide +kernel)
theorem dX11_rules_59 : decode cX11_rules 59 = .ok (.getfield 26, 3) := rd_chunk (k := 0) (i := 59) kmX11_rules_0_e1 (by decide +kernel)
theorem dX11_rules_62 : decode cX11_rules 62 = .ok (.getfield 160, 3) := rd_chunk (k := 0) (i := 62) kmX11_rules_0_e1 (by decide +kernel)
abbrev mX11_rules_64_e1 : ByteArray := .mk #[0xa0, 0x2a, 0xb4, 0x00, 0x2c, 0xb6, 0x01, 0x7f, 0x2a, 0x1b, 0x9a, 0x00, 0x09, 0x11, 0x02, 0xd0, 0xa7, 0x00, 0x0a, 0x2a, 0xb4, 0x00, 0x1a, 0xb4, 0x00, 0xac, 0xb6, 0x01, 0x82, 0x3e, 0x2a, 0x1d, 0x85, 0xb6, 0x01, 0x03, 0x1d, 0xb8, 0x01, 0x85, 0xac]
theorem kmX11_rules_64_e1 : CK cX11_rules 64 mX11_rules_64_e1 := ck_of (by decide +kernel)
theorem dX11_rules_65 : decode cX11_rules 65 = .ok (.aload_n 0, 1) := rd_chunk (k := 64) (i := 1) kmX11_rules_64_e1 (by decide +kernel)
theorem dX11_rules_66 : decode cX11_rules 66 = .ok (.getfield 44, 3) := rd_chunk (k := 64) (i := 2) kmX11_rules_64_e1 (by decide +kernel)
theorem dX11_rules_69 : decode cX11_rules 69 = .ok (.invokevirtual 383, 3) := rd_chunk (k := 64) (i := 5) kmX11_rules_64_e1 (by decide +kernel)
theorem dX11_rules_72 : decode cX11_rules 72 = .ok (.aload_n 0, 1) := rd_chunk (k := 64) (i := 8) kmX11_rules_64_e1 (by decide +kernel)
theorem dX11_rules_73 : decode cX11_rules 73 = .ok (.iload_n 1, 1) := rd_chunk (k := 64) (i := 9) kmX11_rules_64_e1 (by decide +kernel)
theorem dX11_rules_74 : decode cX11_rules 74 = .ok (.ifCond .ne 9, 3) := rd_chunk (k := 64) (i := 10) kmX11_rules_64_e1 (by decide +kernel)
theorem dX11_rules_77 : decode cX11_rules 77 = .ok (.sipush 720, 3) := rd_chunk (k := 64) (i := 13) kmX11_rules_64_e1 (by decide +kernel)
theorem dX11_rules_80 : decode cX11_rules 80 = .ok (.goto 10, 3) := rd_chunk (k := 64) (i := 16) kmX11_rules_64_e1 (by decide +kernel)
theorem dX11_rules_83 : decode cX11_rules 83 = .ok (.aload_n 0, 1) := rd_chunk (k := 64) (i := 19) kmX11_rules_64_e1 (by decide +kernel)
theorem dX11_rules_84 : decode cX11_rules 84 = .ok (.getfield 26, 3) := rd_chunk (k := 64) (i := 20) kmX11_rules_64_e1 (by decide +kernel)
theorem dX11_rules_87 : decode cX11_rules 87 = .ok (.getfield 172, 3) := rd_chunk (k := 64) (i := 23) kmX11_rules_64_e1 (by decide +kernel)
theorem dX11_rules_90 : decode cX11_rules 90 = .ok (.invokevirtual 386, 3) := rd_chunk (k := 64) (i := 26) kmX11_rules_64_e1 (by decide +kernel)
theorem dX11_rules_93 : decode cX11_rules 93 = .ok (.istore_n 3, 1) := rd_chunk (k := 64) (i := 29) kmX11_rules_64_e1 (by decide +kernel)
theorem dX11_rules_94 : decode cX11_rules 94 = .ok (.aload_n 0, 1) := rd_chunk (k := 64) (i := 30) kmX11_rules_64_e1 (by decide +kernel)
theorem dX11_rules_95 : decode cX11_rules 95 = .ok (.iload_n 3, 1) := rd_chunk (k := 64) (i := 31) kmX11_rules_64_e1 (by decide +kernel)
theorem dX11_rules_96 : decode cX11_rules 96 = .ok (.i2l, 1) := rd_chunk (k := 64) (i := 32) kmX11_rules_64_e1 (by decide +kernel)
theorem dX11_rules_97 : decode cX11_rules 97 = .ok (.invokevirtual 259, 3) := rd_chunk (k := 64) (i := 33) kmX11_rules_64_e1 (by decide +kernel)
theorem dX11_rules_100 : decode cX11_rules 100 = .ok (.iload_n 3, 1) := rd_chunk (k := 64) (i := 36) kmX11_rules_64_e1 (by decide +kernel)
theorem dX11_rules_101 : decode cX11_rules 101 = .ok (.invokestatic 389, 3) := rd_chunk (k := 64) (i := 37) kmX11_rules_64_e1 (by decide +kernel)
theorem dX11_rules_104 : decode cX11_rules 104 = .ok (.ireturn, 1) := rd_chunk (k := 64) (i := 40) kmX11_rules_64_e1 (by decide +kernel)
theorem dX11_feast_0 : decode cX11_feast 0 = .ok (.iload_n 1, 1) := by decide +kernel
theorem dX11_feast_1 : decode cX11_feast 1 = .ok (.iconst 1, 1) := by decide +kernel
theorem dX11_feast_2 : decode cX11_feast 2 = .ok (.if_icmp .lt 19, 3) := by decide +kernel
theorem dX11_feast_5 : decode cX11_feast 5 = .ok (.iload_n 1, 1) := by decide +kernel
theorem dX11_feast_6 : decode cX11_feast 6 = .ok (.bipush 6, 2) := by decide +kernel
theorem dX11_feast_8 : decode cX11_feast 8 = .ok (.if_icmp .gt 13, 3) := by decide +kernel
theorem dX11_feast_11 : decode cX11_feast 11 = .ok (.aload_n 0, 1) := by decide +kernel
theorem dX11_feast_12 : decode cX11_feast 12 = .ok (.getfield 26, 3) := by decide +kernel
theorem dX11_feast_15 : decode cX11_feast 15 = .ok (.getfield 172, 3) := by decide +kernel
theorem dX11_feast_18 : decode cX11_feast 18 = .ok (.ifCond .ne 5, 3) := by decide +kernel
theorem dX11_feast_21 : decode cX11_feast 21 = .ok (.iconst (-1), 1) := by decide +kernel
theorem dX11_feast_22 : decode cX11_feast 22 = .ok (.ireturn, 1) := by decide +kernel
theorem dX11_feast_23 : decode cX11_feast 23 = .ok (.aload_n 0, 1) := by decide +kernel
theorem dX11_feast_24 : decode cX11_feast 24 = .ok (.iload_n 1, 1) := by decide +kernel
theorem dX11_feast_25 : decode cX11_feast 25 = .ok (.invokevirtual 394, 3) := by decide +kernel
theorem dX11_feast_28 : decode cX11_feast 28 = .ok (.aload_n 0, 1) := by decide +kernel
theorem dX11_feast_29 : decode cX11_feast 29 = .ok (.getfield 67, 3) := by decide +kernel
theorem dX11_feast_32 : decode cX11_feast 32 = .ok (.invokevirtual 397, 3) := by decide +kernel
theorem dX11_feast_35 : decode cX11_feast 35 = .ok (.istore_n 2, 1) := by decide +kernel
theorem dX11_feast_36 : decode cX11_feast 36 = .ok (.aload_n 0, 1) := by decide +kernel
theorem dX11_feast_37 : decode cX11_feast 37 = .ok (.iload_n 2, 1) := by decide +kernel
theorem dX11_feast_38 : decode cX11_feast 38 = .ok (.iconst (-1), 1) := by decide +kernel
theorem dX11_feast_39 : decode cX11_feast 39 = .ok (.if_icmp .ne 7, 3) := by decide +kernel
theorem dX11_feast_42 : decode cX11_feast 42 = .ok (.lconst 0, 1) := by decide +kernel
theorem dX11_feast_43 : decode cX11_feast 43 = .ok (.goto 13, 3) := by decide +kernel
theorem dX11_feast_46 : decode cX11_feast 46 = .ok (.aload_n 0, 1) := by decide +kernel
theorem dX11_feast_47 : decode cX11_feast 47 = .ok (.getfield 67, 3) := by decide +kernel
theorem dX11_feast_50 : decode cX11_feast 50 = .ok (.getfield 400, 3) := by decide +kernel
theorem dX11_feast_53 : decode cX11_feast 53 = .ok (.iload_n 2, 1) := by decide +kernel
theorem dX11_feast_54 : decode cX11_feast 54 = .ok (.iaload, 1) := by decide +kernel
theorem dX11_feast_55 : decode cX11_feast 55 = .ok (.i2l, 1) := by decide +kernel
theorem dX11_feast_56 : decode cX11_feast 56 = .ok (.iload_n 2, 1) := by decide +kernel
theorem dX11_feast_57 : decode cX11_feast 57 = .ok (.i2l, 1) := by decide +kernel
theorem dX11_feast_58 : decode cX11_feast 58 = .ok (.invokevirtual 231, 3) := by decide +kernel
theorem dX11_feast_61 : decode cX11_feast 61 = .ok (.aload_n 0, 1) := by decide +kernel
theorem dX11_feast_62 : decode cX11_feast 62 = .ok (.aload_n 0, 1) := by decide +kernel
theorem dX11_feast_63 : decode cX11_feast 63 = .ok (.getfield 67, 3) := by decide +kernel
theorem dX11_feast_66 : decode cX11_feast 66 = .ok (.getfield 403, 3) := by decide +kernel
theorem dX11_feast_69 : decode cX11_feast 69 = .ok (.i2l, 1) := by decide +kernel
theorem dX11_feast_70 : decode cX11_feast 70 = .ok (.invokevirtual 289, 3) := by decide +kernel
theorem dX11_feast_73 : decode cX11_feast 73 = .ok (.aload_n 0, 1) := by decide +kernel
theorem dX11_feast_74 : decode cX11_feast 74 = .ok (.getfield 67, 3) := by decide +kernel
theorem dX11_feast_77 : decode cX11_feast 77 = .ok (.getfield 406, 3) := by decide +kernel
theorem dX11_feast_80 : decode cX11_feast 80 = .ok (.ireturn, 1) := by decide +kernel
abbrev mX11_jam_0_e1 : ByteArray := .mk #[0x2a, 0xb4, 0x00, 0x1a, 0xb4, 0x00, 0xac, 0x9a, 0x00, 0x06, 0x10, 0xfe, 0xac, 0x2a, 0x04, 0xb6, 0x01, 0x8a, 0x03, 0x3c, 0x04, 0x3d, 0x1c, 0x2a, 0xb4, 0x00, 0x1a, 0xb4, 0x00, 0xac, 0xa2, 0x00, 0x24, 0x2a, 0xb4, 0x00, 0x43, 0xb4, 0x01, 0x99, 0x1c, 0x2e, 0x2a, 0xb4, 0x00, 0x43, 0xb4, 0x01, 0x99, 0x1b, 0x2e, 0xa4, 0x00, 0x07, 0x1c, 0xa7, 0x00, 0x04, 0x1b, 0x3c, 0x84, 0x02, 0x01, 0xa7, 0xff, 0xd7, 0x2a, 0xb4, 0x00, 0x43, 0xb4, 0x01]
theorem kmX11_jam_0_e1 : CK cX11_jam 0 mX11_jam_0_e1 := ck_of (by decide +kernel)
theorem dX11_jam_0 : decode cX11_jam 0 = .ok (.aload_n 0, 1) := rd_chunk (k := 0) (i := 0) kmX11_jam_0_e1 (by decide +kernel)
theorem dX11_jam_1 : decode cX11_jam 1 = .ok (.getfield 26, 3) := rd_chunk (k := 0) (i := 1) kmX11_jam_0_e1 (by decide +kernel)
theorem dX11_jam_4 : decode cX11_jam 4 = .ok (.getfield 172, 3) := rd_chunk (k := 0) (i := 4) kmX11_jam_0_e1 (by decide +kernel)
theorem dX11_jam_7 : decode cX11_jam 7 = .ok (.ifCond .ne 6, 3) := rd_chunk (k := 0) (i := 7) kmX11_jam_0_e1 (by decide +kernel)
theorem dX11_jam_10 : decode cX11_jam 10 = .ok (.bipush (-2), 2) := rd_chunk (k := 0) (i := 10) kmX11_jam_0_e1 (by decide +kernel)
theorem dX11_jam_12 : decode cX11_jam 12 = .ok (.ireturn, 1) := rd_chunk (k := 0) (i := 12) kmX11_jam_0_e1 (by decide +kernel)
theorem dX11_jam_13 : decode cX11_jam 13 = .ok (.aload_n 0, 1) := rd_chunk (k := 0) (i := 13) kmX11_jam_0_e1 (by decide +kernel)
theorem dX11_jam_14 : decode cX11_jam 14 = .ok (.iconst 1, 1) := rd_chunk (k := 0) (i := 14) kmX11_jam_0_e1 (by decide +kernel)
theorem dX11_jam_15 : decode cX11_jam 15 = .ok (.invokevirtual 394, 3) := rd_chunk (k := 0) (i := 15) kmX11_jam_0_e1 (by decide +kernel)
theorem dX11_jam_18 : decode cX11_jam 18 = .ok (.iconst 0, 1) := rd_chunk (k := 0) (i := 18) kmX11_jam_0_e1 (by decide +kernel)
theorem dX11_jam_19 : decode cX11_jam 19 = .ok (.istore_n 1, 1) := rd_chunk (k := 0) (i := 19) kmX11_jam_0_e1 (by decide +kernel)
theorem dX11_jam_20 : decode cX11_jam 20 = .ok (.iconst 1, 1) := rd_chunk (k := 0) (i := 20) kmX11_jam_0_e1 (by decide +kernel)
theorem dX11_jam_21 : decode cX11_jam 21 = .ok (.istore_n 2, 1) := rd_chunk (k := 0) (i := 21) kmX11_jam_0_e1 (by decide +kernel)
theorem dX11_jam_22 : decode cX11_jam 22 = .ok (.iload_n 2, 1) := rd_chunk (k := 0) (i := 22) kmX11_jam_0_e1 (by decide +kernel)
theorem dX11_jam_23 : decode cX11_jam 23 = .ok (.aload_n 0, 1) := rd_chunk (k := 0) (i := 23) kmX11_jam_0_e1 (by decide +kernel)
theorem dX11_jam_24 : decode cX11_jam 24 = .ok (.getfield 26, 3) := rd_chunk (k := 0) (i := 24) kmX11_jam_0_e1 (by decide +kernel)
theorem dX11_jam_27 : decode cX11_jam 27 = .ok (.getfield 172, 3) := rd_chunk (k := 0) (i := 27) kmX11_jam_0_e1 (by decide +kernel)
theorem dX11_jam_30 : decode cX11_jam 30 = .ok (.if_icmp .ge 36, 3) := rd_chunk (k := 0) (i := 30) kmX11_jam_0_e1 (by decide +kernel)
theorem dX11_jam_33 : decode cX11_jam 33 = .ok (.aload_n 0, 1) := rd_chunk (k := 0) (i := 33) kmX11_jam_0_e1 (by decide +kernel)
theorem dX11_jam_34 : decode cX11_jam 34 = .ok (.getfield 67, 3) := rd_chunk (k := 0) (i := 34) kmX11_jam_0_e1 (by decide +kernel)
theorem dX11_jam_37 : decode cX11_jam 37 = .ok (.getfield 409, 3) := rd_chunk (k := 0) (i := 37) kmX11_jam_0_e1 (by decide +kernel)
theorem dX11_jam_40 : decode cX11_jam 40 = .ok (.iload_n 2, 1) := rd_chunk (k := 0) (i := 40) kmX11_jam_0_e1 (by decide +kernel)
theorem dX11_jam_41 : decode cX11_jam 41 = .ok (.iaload, 1) := rd_chunk (k := 0) (i := 41) kmX11_jam_0_e1 (by decide +kernel)
theorem dX11_jam_42 : decode cX11_jam 42 = .ok (.aload_n 0, 1) := rd_chunk (k := 0) (i := 42) kmX11_jam_0_e1 (by decide +kernel)
theorem dX11_jam_43 : decode cX11_jam 43 = .ok (.getfield 67, 3) := rd_chunk (k := 0) (i := 43) kmX11_jam_0_e1 (by decide +kernel)
theorem dX11_jam_46 : decode cX11_jam 46 = .ok (.getfield 409, 3) := rd_chunk (k := 0) (i := 46) kmX11_jam_0_e1 (by decide +kernel)
theorem dX11_jam_49 : decode cX11_jam 49 = .ok (.iload_n 1, 1) := rd_chunk (k := 0) (i := 49) kmX11_jam_0_e1 (by decide +kernel)
theorem dX11_jam_50 : decode cX11_jam 50 = .ok (.iaload, 1) := rd_chunk (k := 0) (i := 50) kmX11_jam_0_e1 (by decide +kernel)
theorem dX11_jam_51 : decode cX11_jam 51 = .ok (.if_icmp .le 7, 3) := rd_chunk (k := 0) (i := 51) kmX11_jam_0_e1 (by decide +kernel)
theorem dX11_jam_54 : decode cX11_jam 54 = .ok (.iload_n 2, 1) := rd_chunk (k := 0) (i := 54) kmX11_jam_0_e1 (by decide +kernel)
theorem dX11_jam_55 : decode cX11_jam 55 = .ok (.goto 4, 3) := rd_chunk (k := 0) (i := 55) kmX11_jam_0_e1 (by decide +kernel)
theorem dX11_jam_58 : decode cX11_jam 58 = .ok (.iload_n 1, 1) := rd_chunk (k := 0) (i := 58) kmX11_jam_0_e1 (by decide +kernel)
theorem dX11_jam_59 : decode cX11_jam 59 = .ok (.istore_n 1, 1) := rd_chunk (k := 0) (i := 59) kmX11_jam_0_e1 (by decide +kernel)
theorem dX11_jam_60 : decode cX11_jam 60 = .ok (.iinc 2 1, 3) := rd_chunk (k := 0) (i := 60) kmX11_jam_0_e1 (by decide +kernel)
theorem dX11_jam_63 : decode cX11_jam 63 = .ok (.goto (-41), 3) := rd_chunk (k := 0) (i := 63) kmX11_jam_0_e1 (by decide +kernel)
abbrev mX11_jam_64_e1 : ByteArray := .mk #[0xff, 0xd7, 0x2a, 0xb4, 0x00, 0x43, 0xb4, 0x01, 0x99, 0x1b, 0x2e, 0x9a, 0x00, 0x06, 0x10, 0xfe, 0xac, 0x2a, 0x2a, 0xb4, 0x00, 0x43, 0xb4, 0x01, 0x99, 0x1b, 0x2e, 0x85, 0xb6, 0x01, 0x03, 0x1b, 0xac]
theorem kmX11_jam_64_e1 : CK cX11_jam 64 mX11_jam_64_e1 := ck_of (by decide +kernel)
theorem dX11_jam_66 : decode cX11_jam 66 = .ok (.aload_n 0, 1) := rd_chunk (k := 64) (i := 2) kmX11_jam_64_e1 (by decide +kernel)
theorem dX11_jam_67 : decode cX11_jam 67 = .ok (.getfield 67, 3) := rd_chunk (k := 64) (i := 3) kmX11_jam_64_e1 (by decide +kernel)
theorem dX11_jam_70 : decode cX11_jam 70 = .ok (.getfield 409, 3) := rd_chunk (k := 64) (i := 6) kmX11_jam_64_e1 (by decide +kernel)
theorem dX11_jam_73 : decode cX11_jam 73 = .ok (.iload_n 1, 1) := rd_chunk (k := 64) (i := 9) kmX11_jam_64_e1 (by decide +kernel)
theorem dX11_jam_74 : decode cX11_jam 74 = .ok (.iaload, 1) := rd_chunk (k := 64) (i := 10) kmX11_jam_64_e1 (by decide +kernel)
theorem dX11_jam_75 : decode cX11_jam 75 = .ok (.ifCond .ne 6, 3) := rd_chunk (k := 64) (i := 11) kmX11_jam_64_e1 (by decide +kernel)
theorem dX11_jam_78 : decode cX11_jam 78 = .ok (.bipush (-2), 2) := rd_chunk (k := 64) (i := 14) kmX11_jam_64_e1 (by decide +kernel)
theorem dX11_jam_80 : decode cX11_jam 80 = .ok (.ireturn, 1) := rd_chunk (k := 64) (i := 16) kmX11_jam_64_e1 (by decide +kernel)
theorem dX11_jam_81 : decode cX11_jam 81 = .ok (.aload_n 0, 1) := rd_chunk (k := 64) (i := 17) kmX11_jam_64_e1 (by decide +kernel)
theorem dX11_jam_82 : decode cX11_jam 82 = .ok (.aload_n 0, 1) := rd_chunk (k := 64) (i := 18) kmX11_jam_64_e1 (by decide +kernel)
theorem dX11_jam_83 : decode cX11_jam 83 = .ok (.getfield 67, 3) := rd_chunk (k := 64) (i := 19) kmX11_jam_64_e1 (by decide +kernel)
theorem dX11_jam_86 : decode cX11_jam 86 = .ok (.getfield 409, 3) := rd_chunk (k := 64) (i := 22) kmX11_jam_64_e1 (by decide +kernel)
theorem dX11_jam_89 : decode cX11_jam 89 = .ok (.iload_n 1, 1) := rd_chunk (k := 64) (i := 25) kmX11_jam_64_e1 (by decide +kernel)
theorem dX11_jam_90 : decode cX11_jam 90 = .ok (.iaload, 1) := rd_chunk (k := 64) (i := 26) kmX11_jam_64_e1 (by decide +kernel)
theorem dX11_jam_91 : decode cX11_jam 91 = .ok (.i2l, 1) := rd_chunk (k := 64) (i := 27) kmX11_jam_64_e1 (by decide +kernel)
theorem dX11_jam_92 : decode cX11_jam 92 = .ok (.invokevirtual 259, 3) := rd_chunk (k := 64) (i := 28) kmX11_jam_64_e1 (by decide +kernel)
theorem dX11_jam_95 : decode cX11_jam 95 = .ok (.iload_n 1, 1) := rd_chunk (k := 64) (i := 31) kmX11_jam_64_e1 (by decide +kernel)
theorem dX11_jam_96 : decode cX11_jam 96 = .ok (.ireturn, 1) := rd_chunk (k := 64) (i := 32) kmX11_jam_64_e1 (by decide +kernel)
theorem dX11_keep_0 : decode cX11_keep 0 = .ok (.iload_n 1, 1) := by decide +kernel
theorem dX11_keep_1 : decode cX11_keep 1 = .ok (.ifCond .lt 12, 3) := by decide +kernel
theorem dX11_keep_4 : decode cX11_keep 4 = .ok (.iload_n 1, 1) := by decide +kernel
theorem dX11_keep_5 : decode cX11_keep 5 = .ok (.aload_n 0, 1) := by decide +kernel
theorem dX11_keep_6 : decode cX11_keep 6 = .ok (.getfield 53, 3) := by decide +kernel
theorem dX11_keep_9 : decode cX11_keep 9 = .ok (.arraylength, 1) := by decide +kernel
theorem dX11_keep_10 : decode cX11_keep 10 = .ok (.if_icmp .lt 5, 3) := by decide +kernel
theorem dX11_keep_13 : decode cX11_keep 13 = .ok (.iconst 0, 1) := by decide +kernel
theorem dX11_keep_14 : decode cX11_keep 14 = .ok (.ireturn, 1) := by decide +kernel
theorem dX11_keep_15 : decode cX11_keep 15 = .ok (.aload_n 0, 1) := by decide +kernel
theorem dX11_keep_16 : decode cX11_keep 16 = .ok (.getfield 53, 3) := by decide +kernel
theorem dX11_keep_19 : decode cX11_keep 19 = .ok (.iload_n 1, 1) := by decide +kernel
theorem dX11_keep_20 : decode cX11_keep 20 = .ok (.aaload, 1) := by decide +kernel
theorem dX11_keep_21 : decode cX11_keep 21 = .ok (.astore_n 2, 1) := by decide +kernel
theorem dX11_keep_22 : decode cX11_keep 22 = .ok (.aload_n 2, 1) := by decide +kernel
theorem dX11_keep_23 : decode cX11_keep 23 = .ok (.aload_n 0, 1) := by decide +kernel
theorem dX11_keep_24 : decode cX11_keep 24 = .ok (.getfield 26, 3) := by decide +kernel
theorem dX11_keep_27 : decode cX11_keep 27 = .ok (.invokevirtual 412, 3) := by decide +kernel
theorem dX11_keep_30 : decode cX11_keep 30 = .ok (.aload_n 0, 1) := by decide +kernel
theorem dX11_keep_31 : decode cX11_keep 31 = .ok (.getfield 40, 3) := by decide +kernel
theorem dX11_keep_34 : decode cX11_keep 34 = .ok (.iconst 0, 1) := by decide +kernel
theorem dX11_keep_35 : decode cX11_keep 35 = .ok (.aload_n 2, 1) := by decide +kernel
theorem dX11_keep_36 : decode cX11_keep 36 = .ok (.getfield 416, 3) := by decide +kernel
theorem dX11_keep_39 : decode cX11_keep 39 = .ok (.iconst 0, 1) := by decide +kernel
theorem dX11_keep_40 : decode cX11_keep 40 = .ok (.bipush 8, 2) := by decide +kernel
theorem dX11_keep_42 : decode cX11_keep 42 = .ok (.invokestatic 331, 3) := by decide +kernel
theorem dX11_keep_45 : decode cX11_keep 45 = .ok (.aload_n 2, 1) := by decide +kernel
theorem dX11_keep_46 : decode cX11_keep 46 = .ok (.aload_n 0, 1) := by decide +kernel
theorem dX11_keep_47 : decode cX11_keep 47 = .ok (.getfield 36, 3) := by decide +kernel
theorem dX11_keep_50 : decode cX11_keep 50 = .ok (.putfield 419, 3) := by decide +kernel
theorem dX11_keep_53 : decode cX11_keep 53 = .ok (.iconst 0, 1) := by decide +kernel
theorem dX11_keep_54 : decode cX11_keep 54 = .ok (.istore_n 3, 1) := by decide +kernel
theorem dX11_keep_55 : decode cX11_keep 55 = .ok (.iload_n 3, 1) := by decide +kernel
theorem dX11_keep_56 : decode cX11_keep 56 = .ok (.aload_n 0, 1) := by decide +kernel
theorem dX11_keep_57 : decode cX11_keep 57 = .ok (.getfield 36, 3) := by decide +kernel
theorem dX11_keep_60 : decode cX11_keep 60 = .ok (.if_icmp .ge 28, 3) := by decide +kernel
theorem dX11_keep_63 : decode cX11_keep 63 = .ok (.aload_n 0, 1) := by decide +kernel
theorem dX11_keep_64 : decode cX11_keep 64 = .ok (.iload_n 3, 1) := by decide +kernel
theorem dX11_keep_65 : decode cX11_keep 65 = .ok (.invokevirtual 111, 3) := by decide +kernel
theorem dX11_keep_68 : decode cX11_keep 68 = .ok (.astore 4, 2) := by decide +kernel
theorem dX11_keep_70 : decode cX11_keep 70 = .ok (.aload 4, 2) := by decide +kernel
theorem dX11_keep_72 : decode cX11_keep 72 = .ok (.ifnull 10, 3) := by decide +kernel
theorem dX11_keep_75 : decode cX11_keep 75 = .ok (.aload_n 2, 1) := by decide +kernel
theorem dX11_keep_76 : decode cX11_keep 76 = .ok (.iload_n 3, 1) := by decide +kernel
theorem dX11_keep_77 : decode cX11_keep 77 = .ok (.aload 4, 2) := by decide +kernel
theorem dX11_keep_79 : decode cX11_keep 79 = .ok (.invokevirtual 420, 3) := by decide +kernel
theorem dX11_keep_82 : decode cX11_keep 82 = .ok (.iinc 3 1, 3) := by decide +kernel
theorem dX11_keep_85 : decode cX11_keep 85 = .ok (.goto (-30), 3) := by decide +kernel
theorem dX11_keep_88 : decode cX11_keep 88 = .ok (.aload_n 2, 1) := by decide +kernel
theorem dX11_keep_89 : decode cX11_keep 89 = .ok (.iconst 1, 1) := by decide +kernel
theorem dX11_keep_90 : decode cX11_keep 90 = .ok (.putfield 124, 3) := by decide +kernel
theorem dX11_keep_93 : decode cX11_keep 93 = .ok (.iconst 1, 1) := by decide +kernel
theorem dX11_keep_94 : decode cX11_keep 94 = .ok (.ireturn, 1) := by decide +kernel
abbrev mX11_again_0_e1 : ByteArray := .mk #[0x1b, 0x9b, 0x00, 0x18, 0x1b, 0x2a, 0xb4, 0x00, 0x35, 0xbe, 0xa2, 0x00, 0x0f, 0x2a, 0xb4, 0x00, 0x35, 0x1b, 0x32, 0xb4, 0x00, 0x7c, 0x9a, 0x00, 0x05, 0x03, 0xac, 0x2a, 0xb4, 0x00, 0x35, 0x1b, 0x32, 0x4d, 0x2c, 0x2a, 0xb4, 0x00, 0x1a, 0xb6, 0x01, 0xa8, 0x2c, 0xb4, 0x01, 0xa0, 0x03, 0x2a, 0xb4, 0x00, 0x28, 0x03, 0x10, 0x08, 0xb8, 0x01, 0x4b, 0x03, 0x3e, 0x1d, 0x2c, 0xb4, 0x01, 0xa3, 0xa2, 0x00, 0x24, 0x1d, 0x2a, 0xb4, 0x00, 0x24]
theorem kmX11_again_0_e1 : CK cX11_again 0 mX11_again_0_e1 := ck_of (by decide +kernel)
theorem dX11_again_0 : decode cX11_again 0 = .ok (.iload_n 1, 1) := rd_chunk (k := 0) (i := 0) kmX11_again_0_e1 (by decide +kernel)
theorem dX11_again_1 : decode cX11_again 1 = .ok (.ifCond .lt 24, 3) := rd_chunk (k := 0) (i := 1) kmX11_again_0_e1 (by decide +kernel)
theorem dX11_again_4 : decode cX11_again 4 = .ok (.iload_n 1, 1) := rd_chunk (k := 0) (i := 4) kmX11_again_0_e1 (by decide +kernel)
theorem dX11_again_5 : decode cX11_again 5 = .ok (.aload_n 0, 1) := rd_chunk (k := 0) (i := 5) kmX11_again_0_e1 (by decide +kernel)
theorem dX11_again_6 : decode cX11_again 6 = .ok (.getfield 53, 3) := rd_chunk (k := 0) (i := 6) kmX11_again_0_e1 (by decide +kernel)
theorem dX11_again_9 : decode cX11_again 9 = .ok (.arraylength, 1) := rd_chunk (k := 0) (i := 9) kmX11_again_0_e1 (by decide +kernel)
theorem dX11_again_10 : decode cX11_again 10 = .ok (.if_icmp .ge 15, 3) := rd_chunk (k := 0) (i := 10) kmX11_again_0_e1 (by decide +kernel)
theorem dX11_again_13 : decode cX11_again 13 = .ok (.aload_n 0, 1) := rd_chunk (k := 0) (i := 13) kmX11_again_0_e1 (by decide +kernel)
theorem dX11_again_14 : decode cX11_again 14 = .ok (.getfield 53, 3) := rd_chunk (k := 0) (i := 14) kmX11_again_0_e1 (by decide +kernel)
theorem dX11_again_17 : decode cX11_again 17 = .ok (.iload_n 1, 1) := rd_chunk (k := 0) (i := 17) kmX11_again_0_e1 (by decide +kernel)
theorem dX11_again_18 : decode cX11_again 18 = .ok (.aaload, 1) := rd_chunk (k := 0) (i := 18) kmX11_again_0_e1 (by decide +kernel)
theorem dX11_again_19 : decode cX11_again 19 = .ok (.getfield 124, 3) := rd_chunk (k := 0) (i := 19) kmX11_again_0_e1 (by decide +kernel)
theorem dX11_again_22 : decode cX11_again 22 = .ok (.ifCond .ne 5, 3) := rd_chunk (k := 0) (i := 22) kmX11_again_0_e1 (by decide +kernel)
theorem dX11_again_25 : decode cX11_again 25 = .ok (.iconst 0, 1) := rd_chunk (k := 0) (i := 25) kmX11_again_0_e1 (by decide +kernel)
theorem dX11_again_26 : decode cX11_again 26 = .ok (.ireturn, 1) := rd_chunk (k := 0) (i := 26) kmX11_again_0_e1 (by decide +kernel)
theorem dX11_again_27 : decode cX11_again 27 = .ok (.aload_n 0, 1) := rd_chunk (k := 0) (i := 27) kmX11_again_0_e1 (by decide +kernel)
theorem dX11_again_28 : decode cX11_again 28 = .ok (.getfield 53, 3) := rd_chunk (k := 0) (i := 28) kmX11_again_0_e1 (by decide +kernel)
theorem dX11_again_31 : decode cX11_again 31 = .ok (.iload_n 1, 1) := rd_chunk (k := 0) (i := 31) kmX11_again_0_e1 (by decide +kernel)
theorem dX11_again_32 : decode cX11_again 32 = .ok (.aaload, 1) := rd_chunk (k := 0) (i := 32) kmX11_again_0_e1 (by decide +kernel)
theorem dX11_again_33 : decode cX11_again 33 = .ok (.astore_n 2, 1) := rd_chunk (k := 0) (i := 33) kmX11_again_0_e1 (by decide +kernel)
theorem dX11_again_34 : decode cX11_again 34 = .ok (.aload_n 2, 1) := rd_chunk (k := 0) (i := 34) kmX11_again_0_e1 (by decide +kernel)
theorem dX11_again_35 : decode cX11_again 35 = .ok (.aload_n 0, 1) := rd_chunk (k := 0) (i := 35) kmX11_again_0_e1 (by decide +kernel)
theorem dX11_again_36 : decode cX11_again 36 = .ok (.getfield 26, 3) := rd_chunk (k := 0) (i := 36) kmX11_again_0_e1 (by decide +kernel)
theorem dX11_again_39 : decode cX11_again 39 = .ok (.invokevirtual 424, 3) := rd_chunk (k := 0) (i := 39) kmX11_again_0_e1 (by decide +kernel)
theorem dX11_again_42 : decode cX11_again 42 = .ok (.aload_n 2, 1) := rd_chunk (k := 0) (i := 42) kmX11_again_0_e1 (by decide +kernel)
theorem dX11_again_43 : decode cX11_again 43 = .ok (.getfield 416, 3) := rd_chunk (k := 0) (i := 43) kmX11_again_0_e1 (by decide +kernel)
theorem dX11_again_46 : decode cX11_again 46 = .ok (.iconst 0, 1) := rd_chunk (k := 0) (i := 46) kmX11_again_0_e1 (by decide +kernel)
theorem dX11_again_47 : decode cX11_again 47 = .ok (.aload_n 0, 1) := rd_chunk (k := 0) (i := 47) kmX11_again_0_e1 (by decide +kernel)
theorem dX11_again_48 : decode cX11_again 48 = .ok (.getfield 40, 3) := rd_chunk (k := 0) (i := 48) kmX11_again_0_e1 (by decide +kernel)
theorem dX11_again_51 : decode cX11_again 51 = .ok (.iconst 0, 1) := rd_chunk (k := 0) (i := 51) kmX11_again_0_e1 (by decide +kernel)
theorem dX11_again_52 : decode cX11_again 52 = .ok (.bipush 8, 2) := rd_chunk (k := 0) (i := 52) kmX11_again_0_e1 (by decide +kernel)
theorem dX11_again_54 : decode cX11_again 54 = .ok (.invokestatic 331, 3) := rd_chunk (k := 0) (i := 54) kmX11_again_0_e1 (by decide +kernel)
theorem dX11_again_57 : decode cX11_again 57 = .ok (.iconst 0, 1) := rd_chunk (k := 0) (i := 57) kmX11_again_0_e1 (by decide +kernel)
theorem dX11_again_58 : decode cX11_again 58 = .ok (.istore_n 3, 1) := rd_chunk (k := 0) (i := 58) kmX11_again_0_e1 (by decide +kernel)
theorem dX11_again_59 : decode cX11_again 59 = .ok (.iload_n 3, 1) := rd_chunk (k := 0) (i := 59) kmX11_again_0_e1 (by decide +kernel)
theorem dX11_again_60 : decode cX11_again 60 = .ok (.aload_n 2, 1) := rd_chunk (k := 0) (i := 60) kmX11_again_0_e1 (by decide +kernel)
theorem dX11_again_61 : decode cX11_again 61 = .ok (.getfield 419, 3) := rd_chunk (k := 0) (i := 61) kmX11_again_0_e1 (by decide +kernel)
abbrev mX11_again_64_e1 : ByteArray := .mk #[0xa2, 0x00, 0x24, 0x1d, 0x2a, 0xb4, 0x00, 0x24, 0xa2, 0x00, 0x1c, 0x2a, 0x1d, 0xb6, 0x00, 0x6f, 0x3a, 0x04, 0x19, 0x04, 0xc6, 0x00, 0x0a, 0x2c, 0x1d, 0x19, 0x04, 0xb6, 0x01, 0xab, 0x84, 0x03, 0x01, 0xa7, 0xff, 0xda, 0x04, 0xac]
theorem kmX11_again_64_e1 : CK cX11_again 64 mX11_again_64_e1 := ck_of (by decide +kernel)
theorem dX11_again_64 : decode cX11_again 64 = .ok (.if_icmp .ge 36, 3) := rd_chunk (k := 64) (i := 0) kmX11_again_64_e1 (by decide +kernel)
theorem dX11_again_67 : decode cX11_again 67 = .ok (.iload_n 3, 1) := rd_chunk (k := 64) (i := 3) kmX11_again_64_e1 (by decide +kernel)
theorem dX11_again_68 : decode cX11_again 68 = .ok (.aload_n 0, 1) := rd_chunk (k := 64) (i := 4) kmX11_again_64_e1 (by decide +kernel)
theorem dX11_again_69 : decode cX11_again 69 = .ok (.getfield 36, 3) := rd_chunk (k := 64) (i := 5) kmX11_again_64_e1 (by decide +kernel)
theorem dX11_again_72 : decode cX11_again 72 = .ok (.if_icmp .ge 28, 3) := rd_chunk (k := 64) (i := 8) kmX11_again_64_e1 (by decide +kernel)
theorem dX11_again_75 : decode cX11_again 75 = .ok (.aload_n 0, 1) := rd_chunk (k := 64) (i := 11) kmX11_again_64_e1 (by decide +kernel)
theorem dX11_again_76 : decode cX11_again 76 = .ok (.iload_n 3, 1) := rd_chunk (k := 64) (i := 12) kmX11_again_64_e1 (by decide +kernel)
theorem dX11_again_77 : decode cX11_again 77 = .ok (.invokevirtual 111, 3) := rd_chunk (k := 64) (i := 13) kmX11_again_64_e1 (by decide +kernel)
theorem dX11_again_80 : decode cX11_again 80 = .ok (.astore 4, 2) := rd_chunk (k := 64) (i := 16) kmX11_again_64_e1 (by decide +kernel)
theorem dX11_again_82 : decode cX11_again 82 = .ok (.aload 4, 2) := rd_chunk (k := 64) (i := 18) kmX11_again_64_e1 (by decide +kernel)
theorem dX11_again_84 : decode cX11_again 84 = .ok (.ifnull 10, 3) := rd_chunk (k := 64) (i := 20) kmX11_again_64_e1 (by decide +kernel)
theorem dX11_again_87 : decode cX11_again 87 = .ok (.aload_n 2, 1) := rd_chunk (k := 64) (i := 23) kmX11_again_64_e1 (by decide +kernel)
theorem dX11_again_88 : decode cX11_again 88 = .ok (.iload_n 3, 1) := rd_chunk (k := 64) (i := 24) kmX11_again_64_e1 (by decide +kernel)
theorem dX11_again_89 : decode cX11_again 89 = .ok (.aload 4, 2) := rd_chunk (k := 64) (i := 25) kmX11_again_64_e1 (by decide +kernel)
theorem dX11_again_91 : decode cX11_again 91 = .ok (.invokevirtual 427, 3) := rd_chunk (k := 64) (i := 27) kmX11_again_64_e1 (by decide +kernel)
theorem dX11_again_94 : decode cX11_again 94 = .ok (.iinc 3 1, 3) := rd_chunk (k := 64) (i := 30) kmX11_again_64_e1 (by decide +kernel)
theorem dX11_again_97 : decode cX11_again 97 = .ok (.goto (-38), 3) := rd_chunk (k := 64) (i := 33) kmX11_again_64_e1 (by decide +kernel)
theorem dX11_again_100 : decode cX11_again 100 = .ok (.iconst 1, 1) := rd_chunk (k := 64) (i := 36) kmX11_again_64_e1 (by decide +kernel)
theorem dX11_again_101 : decode cX11_again 101 = .ok (.ireturn, 1) := rd_chunk (k := 64) (i := 37) kmX11_again_64_e1 (by decide +kernel)
abbrev mX11_count_0_e1 : ByteArray := .mk #[0x1b, 0xaa, 0x00, 0x00, 0x00, 0x00, 0x00, 0x87, 0x00, 0x00, 0x00, 0x00, 0x00, 0x00, 0x00, 0x07, 0x00, 0x00, 0x00, 0x2f, 0x00, 0x00, 0x00, 0x37, 0x00, 0x00, 0x00, 0x3c, 0x00, 0x00, 0x00, 0x62, 0x00, 0x00, 0x00, 0x6d, 0x00, 0x00, 0x00, 0x72, 0x00, 0x00, 0x00, 0x7a, 0x00, 0x00, 0x00, 0x7f, 0x2a, 0xb4, 0x00, 0x1a, 0xb4, 0x00, 0xac, 0xac, 0x2a, 0xb4, 0x00, 0x24, 0xac, 0x2a, 0xb4, 0x00, 0x1a, 0xb4, 0x00, 0x80, 0xb6, 0x01, 0xae, 0x99]
theorem kmX11_count_0_e1 : CK cX11_count 0 mX11_count_0_e1 := ck_of (by decide +kernel)
theorem dX11_count_0 : decode cX11_count 0 = .ok (.iload_n 1, 1) := rd_chunk (k := 0) (i := 0) kmX11_count_0_e1 (by decide +kernel)
theorem dX11_count_1 : decode cX11_count 1 = .ok (.tableswitch 135 0 7 #[47, 55, 60, 98, 109, 114, 122, 127], 47) := by decide +kernel
theorem dX11_count_48 : decode cX11_count 48 = .ok (.aload_n 0, 1) := rd_chunk (k := 0) (i := 48) kmX11_count_0_e1 (by decide +kernel)
theorem dX11_count_49 : decode cX11_count 49 = .ok (.getfield 26, 3) := rd_chunk (k := 0) (i := 49) kmX11_count_0_e1 (by decide +kernel)
theorem dX11_count_52 : decode cX11_count 52 = .ok (.getfield 172, 3) := rd_chunk (k := 0) (i := 52) kmX11_count_0_e1 (by decide +kernel)
theorem dX11_count_55 : decode cX11_count 55 = .ok (.ireturn, 1) := rd_chunk (k := 0) (i := 55) kmX11_count_0_e1 (by decide +kernel)
theorem dX11_count_56 : decode cX11_count 56 = .ok (.aload_n 0, 1) := rd_chunk (k := 0) (i := 56) kmX11_count_0_e1 (by decide +kernel)
theorem dX11_count_57 : decode cX11_count 57 = .ok (.getfield 36, 3) := rd_chunk (k := 0) (i := 57) kmX11_count_0_e1 (by decide +kernel)
theorem dX11_count_60 : decode cX11_count 60 = .ok (.ireturn, 1) := rd_chunk (k := 0) (i := 60) kmX11_count_0_e1 (by decide +kernel)
theorem dX11_count_61 : decode cX11_count 61 = .ok (.aload_n 0, 1) := rd_chunk (k := 0) (i := 61) kmX11_count_0_e1 (by decide +kernel)
theorem dX11_count_62 : decode cX11_count 62 = .ok (.getfield 26, 3) := rd_chunk (k := 0) (i := 62) kmX11_count_0_e1 (by decide +kernel)
abbrev mX11_count_64_e1 : ByteArray := .mk #[0x1a, 0xb4, 0x00, 0x80, 0xb6, 0x01, 0xae, 0x99, 0x00, 0x07, 0x04, 0xa7, 0x00, 0x04, 0x03, 0x2a, 0xb4, 0x00, 0x1a, 0xb4, 0x00, 0x87, 0xb6, 0x01, 0xae, 0x99, 0x00, 0x07, 0x05, 0xa7, 0x00, 0x04, 0x03, 0x60, 0xac, 0x2a, 0xb4, 0x00, 0x1a, 0xb4, 0x00, 0xa0, 0xb4, 0x01, 0x71, 0xac, 0x2a, 0xb6, 0x01, 0xb1, 0xac, 0x2a, 0xb4, 0x00, 0x1a, 0xb6, 0x01, 0xb4, 0xac, 0x2a, 0xb4, 0x00, 0x57, 0xac, 0x2a, 0xb4, 0x00, 0x0c, 0xb4, 0x00, 0x5e, 0xac]
theorem kmX11_count_64_e1 : CK cX11_count 64 mX11_count_64_e1 := ck_of (by decide +kernel)
theorem dX11_count_65 : decode cX11_count 65 = .ok (.getfield 128, 3) := rd_chunk (k := 64) (i := 1) kmX11_count_64_e1 (by decide +kernel)
theorem dX11_count_68 : decode cX11_count 68 = .ok (.invokevirtual 430, 3) := rd_chunk (k := 64) (i := 4) kmX11_count_64_e1 (by decide +kernel)
theorem dX11_count_71 : decode cX11_count 71 = .ok (.ifCond .eq 7, 3) := rd_chunk (k := 64) (i := 7) kmX11_count_64_e1 (by decide +kernel)
theorem dX11_count_74 : decode cX11_count 74 = .ok (.iconst 1, 1) := rd_chunk (k := 64) (i := 10) kmX11_count_64_e1 (by decide +kernel)
theorem dX11_count_75 : decode cX11_count 75 = .ok (.goto 4, 3) := rd_chunk (k := 64) (i := 11) kmX11_count_64_e1 (by decide +kernel)
theorem dX11_count_78 : decode cX11_count 78 = .ok (.iconst 0, 1) := rd_chunk (k := 64) (i := 14) kmX11_count_64_e1 (by decide +kernel)
theorem dX11_count_79 : decode cX11_count 79 = .ok (.aload_n 0, 1) := rd_chunk (k := 64) (i := 15) kmX11_count_64_e1 (by decide +kernel)
theorem dX11_count_80 : decode cX11_count 80 = .ok (.getfield 26, 3) := rd_chunk (k := 64) (i := 16) kmX11_count_64_e1 (by decide +kernel)
theorem dX11_count_83 : decode cX11_count 83 = .ok (.getfield 135, 3) := rd_chunk (k := 64) (i := 19) kmX11_count_64_e1 (by decide +kernel)
theorem dX11_count_86 : decode cX11_count 86 = .ok (.invokevirtual 430, 3) := rd_chunk (k := 64) (i := 22) kmX11_count_64_e1 (by decide +kernel)
theorem dX11_count_89 : decode cX11_count 89 = .ok (.ifCond .eq 7, 3) := rd_chunk (k := 64) (i := 25) kmX11_count_64_e1 (by decide +kernel)
theorem dX11_count_92 : decode cX11_count 92 = .ok (.iconst 2, 1) := rd_chunk (k := 64) (i := 28) kmX11_count_64_e1 (by decide +kernel)
theorem dX11_count_93 : decode cX11_count 93 = .ok (.goto 4, 3) := rd_chunk (k := 64) (i := 29) kmX11_count_64_e1 (by decide +kernel)
theorem dX11_count_96 : decode cX11_count 96 = .ok (.iconst 0, 1) := rd_chunk (k := 64) (i := 32) kmX11_count_64_e1 (by decide +kernel)
theorem dX11_count_97 : decode cX11_count 97 = .ok (.iadd, 1) := rd_chunk (k := 64) (i := 33) kmX11_count_64_e1 (by decide +kernel)
theorem dX11_count_98 : decode cX11_count 98 = .ok (.ireturn, 1) := rd_chunk (k := 64) (i := 34) kmX11_count_64_e1 (by decide +kernel)
theorem dX11_count_99 : decode cX11_count 99 = .ok (.aload_n 0, 1) := rd_chunk (k := 64) (i := 35) kmX11_count_64_e1 (by decide +kernel)
theorem dX11_count_100 : decode cX11_count 100 = .ok (.getfield 26, 3) := rd_chunk (k := 64) (i := 36) kmX11_count_64_e1 (by decide +kernel)
theorem dX11_count_103 : decode cX11_count 103 = .ok (.getfield 160, 3) := rd_chunk (k := 64) (i := 39) kmX11_count_64_e1 (by decide +kernel)
theorem dX11_count_106 : decode cX11_count 106 = .ok (.getfield 369, 3) := rd_chunk (k := 64) (i := 42) kmX11_count_64_e1 (by decide +kernel)
theorem dX11_count_109 : decode cX11_count 109 = .ok (.ireturn, 1) := rd_chunk (k := 64) (i := 45) kmX11_count_64_e1 (by decide +kernel)
theorem dX11_count_110 : decode cX11_count 110 = .ok (.aload_n 0, 1) := rd_chunk (k := 64) (i := 46) kmX11_count_64_e1 (by decide +kernel)
theorem dX11_count_111 : decode cX11_count 111 = .ok (.invokevirtual 433, 3) := rd_chunk (k := 64) (i := 47) kmX11_count_64_e1 (by decide +kernel)
theorem dX11_count_114 : decode cX11_count 114 = .ok (.ireturn, 1) := rd_chunk (k := 64) (i := 50) kmX11_count_64_e1 (by decide +kernel)
theorem dX11_count_115 : decode cX11_count 115 = .ok (.aload_n 0, 1) := rd_chunk (k := 64) (i := 51) kmX11_count_64_e1 (by decide +kernel)
theorem dX11_count_116 : decode cX11_count 116 = .ok (.getfield 26, 3) := rd_chunk (k := 64) (i := 52) kmX11_count_64_e1 (by decide +kernel)
theorem dX11_count_119 : decode cX11_count 119 = .ok (.invokevirtual 436, 3) := rd_chunk (k := 64) (i := 55) kmX11_count_64_e1 (by decide +kernel)
theorem dX11_count_122 : decode cX11_count 122 = .ok (.ireturn, 1) := rd_chunk (k := 64) (i := 58) kmX11_count_64_e1 (by decide +kernel)
theorem dX11_count_123 : decode cX11_count 123 = .ok (.aload_n 0, 1) := rd_chunk (k := 64) (i := 59) kmX11_count_64_e1 (by decide +kernel)
theorem dX11_count_124 : decode cX11_count 124 = .ok (.getfield 87, 3) := rd_chunk (k := 64) (i := 60) kmX11_count_64_e1 (by decide +kernel)
theorem dX11_count_127 : decode cX11_count 127 = .ok (.ireturn, 1) := rd_chunk (k := 64) (i := 63) kmX11_count_64_e1 (by decide +kernel)
abbrev mX11_count_128_e1 : ByteArray := .mk #[0x2a, 0xb4, 0x00, 0x0c, 0xb4, 0x00, 0x5e, 0xac, 0x02, 0xac]
theorem kmX11_count_128_e1 : CK cX11_count 128 mX11_count_128_e1 := ck_of (by decide +kernel)
theorem dX11_count_128 : decode cX11_count 128 = .ok (.aload_n 0, 1) := rd_chunk (k := 128) (i := 0) kmX11_count_128_e1 (by decide +kernel)
theorem dX11_count_129 : decode cX11_count 129 = .ok (.getfield 12, 3) := rd_chunk (k := 128) (i := 1) kmX11_count_128_e1 (by decide +kernel)
theorem dX11_count_132 : decode cX11_count 132 = .ok (.getfield 94, 3) := rd_chunk (k := 128) (i := 4) kmX11_count_128_e1 (by decide +kernel)
theorem dX11_count_135 : decode cX11_count 135 = .ok (.ireturn, 1) := rd_chunk (k := 128) (i := 7) kmX11_count_128_e1 (by decide +kernel)
theorem dX11_count_136 : decode cX11_count 136 = .ok (.iconst (-1), 1) := rd_chunk (k := 128) (i := 8) kmX11_count_128_e1 (by decide +kernel)
theorem dX11_count_137 : decode cX11_count 137 = .ok (.ireturn, 1) := rd_chunk (k := 128) (i := 9) kmX11_count_128_e1 (by decide +kernel)
theorem dX11_row_0 : decode cX11_row 0 = .ok (.iload_n 1, 1) := by decide +kernel
theorem dX11_row_1 : decode cX11_row 1 = .ok (.ifCond .lt 20, 3) := by decide +kernel
theorem dX11_row_4 : decode cX11_row 4 = .ok (.iload_n 1, 1) := by decide +kernel
theorem dX11_row_5 : decode cX11_row 5 = .ok (.aload_n 0, 1) := by decide +kernel
theorem dX11_row_6 : decode cX11_row 6 = .ok (.getfield 87, 3) := by decide +kernel
theorem dX11_row_9 : decode cX11_row 9 = .ok (.if_icmp .ge 12, 3) := by decide +kernel
theorem dX11_row_12 : decode cX11_row 12 = .ok (.iload_n 1, 1) := by decide +kernel
theorem dX11_row_13 : decode cX11_row 13 = .ok (.aload_n 0, 1) := by decide +kernel
theorem dX11_row_14 : decode cX11_row 14 = .ok (.getfield 83, 3) := by decide +kernel
theorem dX11_row_17 : decode cX11_row 17 = .ok (.arraylength, 1) := by decide +kernel
theorem dX11_row_18 : decode cX11_row 18 = .ok (.if_icmp .lt 14, 3) := by decide +kernel
theorem dX11_row_21 : decode cX11_row 21 = .ok (.new 141, 3) := by decide +kernel
theorem dX11_row_24 : decode cX11_row 24 = .ok (.dup, 1) := by decide +kernel
theorem dX11_row_25 : decode cX11_row 25 = .ok (.ldc_w 439, 3) := by decide +kernel
theorem dX11_row_28 : decode cX11_row 28 = .ok (.invokespecial 145, 3) := by decide +kernel
theorem dX11_row_31 : decode cX11_row 31 = .ok (.athrow, 1) := by decide +kernel
theorem dX11_row_32 : decode cX11_row 32 = .ok (.aload_n 0, 1) := by decide +kernel
theorem dX11_row_33 : decode cX11_row 33 = .ok (.getfield 83, 3) := by decide +kernel
theorem dX11_row_36 : decode cX11_row 36 = .ok (.iload_n 1, 1) := by decide +kernel
theorem dX11_row_37 : decode cX11_row 37 = .ok (.laload, 1) := by decide +kernel
theorem dX11_row_38 : decode cX11_row 38 = .ok (.lreturn, 1) := by decide +kernel
theorem dX11_tellNothing_0 : decode cX11_tellNothing 0 = .ok (.aload_n 0, 1) := by decide +kernel
theorem dX11_tellNothing_1 : decode cX11_tellNothing 1 = .ok (.iconst 0, 1) := by decide +kernel
theorem dX11_tellNothing_2 : decode cX11_tellNothing 2 = .ok (.putfield 87, 3) := by decide +kernel
theorem dX11_tellNothing_5 : decode cX11_tellNothing 5 = .ok (.return_, 1) := by decide +kernel
theorem dX11_tellMore_0 : decode cX11_tellMore 0 = .ok (.aload_n 0, 1) := by decide +kernel
theorem dX11_tellMore_1 : decode cX11_tellMore 1 = .ok (.getfield 87, 3) := by decide +kernel
theorem dX11_tellMore_4 : decode cX11_tellMore 4 = .ok (.aload_n 0, 1) := by decide +kernel
theorem dX11_tellMore_5 : decode cX11_tellMore 5 = .ok (.getfield 83, 3) := by decide +kernel
theorem dX11_tellMore_8 : decode cX11_tellMore 8 = .ok (.arraylength, 1) := by decide +kernel
theorem dX11_tellMore_9 : decode cX11_tellMore 9 = .ok (.if_icmp .ge 23, 3) := by decide +kernel
theorem dX11_tellMore_12 : decode cX11_tellMore 12 = .ok (.aload_n 0, 1) := by decide +kernel
theorem dX11_tellMore_13 : decode cX11_tellMore 13 = .ok (.getfield 83, 3) := by decide +kernel
theorem dX11_tellMore_16 : decode cX11_tellMore 16 = .ok (.aload_n 0, 1) := by decide +kernel
theorem dX11_tellMore_17 : decode cX11_tellMore 17 = .ok (.getfield 87, 3) := by decide +kernel
theorem dX11_tellMore_20 : decode cX11_tellMore 20 = .ok (.lload_n 1, 1) := by decide +kernel
theorem dX11_tellMore_21 : decode cX11_tellMore 21 = .ok (.lastore, 1) := by decide +kernel
theorem dX11_tellMore_22 : decode cX11_tellMore 22 = .ok (.aload_n 0, 1) := by decide +kernel
theorem dX11_tellMore_23 : decode cX11_tellMore 23 = .ok (.dup, 1) := by decide +kernel
theorem dX11_tellMore_24 : decode cX11_tellMore 24 = .ok (.getfield 87, 3) := by decide +kernel
theorem dX11_tellMore_27 : decode cX11_tellMore 27 = .ok (.iconst 1, 1) := by decide +kernel
theorem dX11_tellMore_28 : decode cX11_tellMore 28 = .ok (.iadd, 1) := by decide +kernel
theorem dX11_tellMore_29 : decode cX11_tellMore 29 = .ok (.putfield 87, 3) := by decide +kernel
theorem dX11_tellMore_32 : decode cX11_tellMore 32 = .ok (.return_, 1) := by decide +kernel
theorem dX11_tellOne_0 : decode cX11_tellOne 0 = .ok (.aload_n 0, 1) := by decide +kernel
theorem dX11_tellOne_1 : decode cX11_tellOne 1 = .ok (.invokevirtual 340, 3) := by decide +kernel
theorem dX11_tellOne_4 : decode cX11_tellOne 4 = .ok (.aload_n 0, 1) := by decide +kernel
theorem dX11_tellOne_5 : decode cX11_tellOne 5 = .ok (.lload_n 1, 1) := by decide +kernel
theorem dX11_tellOne_6 : decode cX11_tellOne 6 = .ok (.invokevirtual 289, 3) := by decide +kernel
theorem dX11_tellOne_9 : decode cX11_tellOne 9 = .ok (.return_, 1) := by decide +kernel
theorem dX11_tellTwo_0 : decode cX11_tellTwo 0 = .ok (.aload_n 0, 1) := by decide +kernel
theorem dX11_tellTwo_1 : decode cX11_tellTwo 1 = .ok (.lload_n 1, 1) := by decide +kernel
theorem dX11_tellTwo_2 : decode cX11_tellTwo 2 = .ok (.invokevirtual 259, 3) := by decide +kernel
theorem dX11_tellTwo_5 : decode cX11_tellTwo 5 = .ok (.aload_n 0, 1) := by decide +kernel
theorem dX11_tellTwo_6 : decode cX11_tellTwo 6 = .ok (.lload_n 3, 1) := by decide +kernel
theorem dX11_tellTwo_7 : decode cX11_tellTwo 7 = .ok (.invokevirtual 289, 3) := by decide +kernel
theorem dX11_tellTwo_10 : decode cX11_tellTwo 10 = .ok (.return_, 1) := by decide +kernel
theorem dX11_tellFraction_0 : decode cX11_tellFraction 0 = .ok (.lload_n 3, 1) := by decide +kernel
theorem dX11_tellFraction_1 : decode cX11_tellFraction 1 = .ok (.lstore 5, 2) := by decide +kernel
theorem dX11_tellFraction_3 : decode cX11_tellFraction 3 = .ok (.lload_n 1, 1) := by decide +kernel
theorem dX11_tellFraction_4 : decode cX11_tellFraction 4 = .ok (.lstore 7, 2) := by decide +kernel
theorem dX11_tellFraction_6 : decode cX11_tellFraction 6 = .ok (.iconst 0, 1) := by decide +kernel
theorem dX11_tellFraction_7 : decode cX11_tellFraction 7 = .ok (.istore 9, 2) := by decide +kernel
theorem dX11_tellFraction_9 : decode cX11_tellFraction 9 = .ok (.iload 9, 2) := by decide +kernel
theorem dX11_tellFraction_11 : decode cX11_tellFraction 11 = .ok (.bipush 100, 2) := by decide +kernel
theorem dX11_tellFraction_13 : decode cX11_tellFraction 13 = .ok (.if_icmp .ge 31, 3) := by decide +kernel
theorem dX11_tellFraction_16 : decode cX11_tellFraction 16 = .ok (.lload 7, 2) := by decide +kernel
theorem dX11_tellFraction_18 : decode cX11_tellFraction 18 = .ok (.lconst 0, 1) := by decide +kernel
theorem dX11_tellFraction_19 : decode cX11_tellFraction 19 = .ok (.lcmp, 1) := by decide +kernel
theorem dX11_tellFraction_20 : decode cX11_tellFraction 20 = .ok (.ifCond .eq 24, 3) := by decide +kernel
theorem dX11_tellFraction_23 : decode cX11_tellFraction 23 = .ok (.lload 5, 2) := by decide +kernel
theorem dX11_tellFraction_25 : decode cX11_tellFraction 25 = .ok (.lload 7, 2) := by decide +kernel
theorem dX11_tellFraction_27 : decode cX11_tellFraction 27 = .ok (.lrem, 1) := by decide +kernel
theorem dX11_tellFraction_28 : decode cX11_tellFraction 28 = .ok (.lstore 10, 2) := by decide +kernel
theorem dX11_tellFraction_30 : decode cX11_tellFraction 30 = .ok (.lload 7, 2) := by decide +kernel
theorem dX11_tellFraction_32 : decode cX11_tellFraction 32 = .ok (.lstore 5, 2) := by decide +kernel
theorem dX11_tellFraction_34 : decode cX11_tellFraction 34 = .ok (.lload 10, 2) := by decide +kernel
theorem dX11_tellFraction_36 : decode cX11_tellFraction 36 = .ok (.lstore 7, 2) := by decide +kernel
theorem dX11_tellFraction_38 : decode cX11_tellFraction 38 = .ok (.iinc 9 1, 3) := by decide +kernel
theorem dX11_tellFraction_41 : decode cX11_tellFraction 41 = .ok (.goto (-32), 3) := by decide +kernel
theorem dX11_tellFraction_44 : decode cX11_tellFraction 44 = .ok (.lload 5, 2) := by decide +kernel
theorem dX11_tellFraction_46 : decode cX11_tellFraction 46 = .ok (.lconst 0, 1) := by decide +kernel
theorem dX11_tellFraction_47 : decode cX11_tellFraction 47 = .ok (.lcmp, 1) := by decide +kernel
theorem dX11_tellFraction_48 : decode cX11_tellFraction 48 = .ok (.ifCond .eq 15, 3) := by decide +kernel
theorem dX11_tellFraction_51 : decode cX11_tellFraction 51 = .ok (.aload_n 0, 1) := by decide +kernel
theorem dX11_tellFraction_52 : decode cX11_tellFraction 52 = .ok (.lload_n 1, 1) := by decide +kernel
theorem dX11_tellFraction_53 : decode cX11_tellFraction 53 = .ok (.lload 5, 2) := by decide +kernel
theorem dX11_tellFraction_55 : decode cX11_tellFraction 55 = .ok (.ldiv, 1) := by decide +kernel
theorem dX11_tellFraction_56 : decode cX11_tellFraction 56 = .ok (.lload_n 3, 1) := by decide +kernel
theorem dX11_tellFraction_57 : decode cX11_tellFraction 57 = .ok (.lload 5, 2) := by decide +kernel
theorem dX11_tellFraction_59 : decode cX11_tellFraction 59 = .ok (.ldiv, 1) := by decide +kernel
theorem dX11_tellFraction_60 : decode cX11_tellFraction 60 = .ok (.invokevirtual 231, 3) := by decide +kernel
theorem dX11_tellFraction_63 : decode cX11_tellFraction 63 = .ok (.return_, 1) := by decide +kernel
theorem dX11_tellDifferences_0 : decode cX11_tellDifferences 0 = .ok (.aload_n 0, 1) := by decide +kernel
theorem dX11_tellDifferences_1 : decode cX11_tellDifferences 1 = .ok (.invokevirtual 340, 3) := by decide +kernel
theorem dX11_tellDifferences_4 : decode cX11_tellDifferences 4 = .ok (.iconst 0, 1) := by decide +kernel
theorem dX11_tellDifferences_5 : decode cX11_tellDifferences 5 = .ok (.istore_n 1, 1) := by decide +kernel
theorem dX11_tellDifferences_6 : decode cX11_tellDifferences 6 = .ok (.iconst 0, 1) := by decide +kernel
theorem dX11_tellDifferences_7 : decode cX11_tellDifferences 7 = .ok (.istore_n 2, 1) := by decide +kernel
theorem dX11_tellDifferences_8 : decode cX11_tellDifferences 8 = .ok (.iload_n 2, 1) := by decide +kernel
theorem dX11_tellDifferences_9 : decode cX11_tellDifferences 9 = .ok (.aload_n 0, 1) := by decide +kernel
theorem dX11_tellDifferences_10 : decode cX11_tellDifferences 10 = .ok (.getfield 71, 3) := by decide +kernel
theorem dX11_tellDifferences_13 : decode cX11_tellDifferences 13 = .ok (.arraylength, 1) := by decide +kernel
theorem dX11_tellDifferences_14 : decode cX11_tellDifferences 14 = .ok (.if_icmp .ge 50, 3) := by decide +kernel
theorem dX11_tellDifferences_17 : decode cX11_tellDifferences 17 = .ok (.aload_n 0, 1) := by decide +kernel
theorem dX11_tellDifferences_18 : decode cX11_tellDifferences 18 = .ok (.aload_n 0, 1) := by decide +kernel
theorem dX11_tellDifferences_19 : decode cX11_tellDifferences 19 = .ok (.getfield 74, 3) := by decide +kernel
theorem dX11_tellDifferences_22 : decode cX11_tellDifferences 22 = .ok (.iload_n 2, 1) := by decide +kernel
theorem dX11_tellDifferences_23 : decode cX11_tellDifferences 23 = .ok (.iaload, 1) := by decide +kernel
theorem dX11_tellDifferences_24 : decode cX11_tellDifferences 24 = .ok (.aload_n 0, 1) := by decide +kernel
theorem dX11_tellDifferences_25 : decode cX11_tellDifferences 25 = .ok (.getfield 71, 3) := by decide +kernel
theorem dX11_tellDifferences_28 : decode cX11_tellDifferences 28 = .ok (.iload_n 2, 1) := by decide +kernel
theorem dX11_tellDifferences_29 : decode cX11_tellDifferences 29 = .ok (.iaload, 1) := by decide +kernel
theorem dX11_tellDifferences_30 : decode cX11_tellDifferences 30 = .ok (.isub, 1) := by decide +kernel
theorem dX11_tellDifferences_31 : decode cX11_tellDifferences 31 = .ok (.i2l, 1) := by decide +kernel
theorem dX11_tellDifferences_32 : decode cX11_tellDifferences 32 = .ok (.invokevirtual 289, 3) := by decide +kernel
theorem dX11_tellDifferences_35 : decode cX11_tellDifferences 35 = .ok (.iload_n 1, 1) := by decide +kernel
theorem dX11_tellDifferences_36 : decode cX11_tellDifferences 36 = .ok (.aload_n 0, 1) := by decide +kernel
theorem dX11_tellDifferences_37 : decode cX11_tellDifferences 37 = .ok (.getfield 74, 3) := by decide +kernel
theorem dX11_tellDifferences_40 : decode cX11_tellDifferences 40 = .ok (.iload_n 2, 1) := by decide +kernel
theorem dX11_tellDifferences_41 : decode cX11_tellDifferences 41 = .ok (.iaload, 1) := by decide +kernel
theorem dX11_tellDifferences_42 : decode cX11_tellDifferences 42 = .ok (.aload_n 0, 1) := by decide +kernel
theorem dX11_tellDifferences_43 : decode cX11_tellDifferences 43 = .ok (.getfield 71, 3) := by decide +kernel
theorem dX11_tellDifferences_46 : decode cX11_tellDifferences 46 = .ok (.iload_n 2, 1) := by decide +kernel
theorem dX11_tellDifferences_47 : decode cX11_tellDifferences 47 = .ok (.iaload, 1) := by decide +kernel
theorem dX11_tellDifferences_48 : decode cX11_tellDifferences 48 = .ok (.if_icmp .eq 7, 3) := by decide +kernel
theorem dX11_tellDifferences_51 : decode cX11_tellDifferences 51 = .ok (.iconst 1, 1) := by decide +kernel
theorem dX11_tellDifferences_52 : decode cX11_tellDifferences 52 = .ok (.goto 4, 3) := by decide +kernel
theorem dX11_tellDifferences_55 : decode cX11_tellDifferences 55 = .ok (.iconst 0, 1) := by decide +kernel
theorem dX11_tellDifferences_56 : decode cX11_tellDifferences 56 = .ok (.ior, 1) := by decide +kernel
theorem dX11_tellDifferences_57 : decode cX11_tellDifferences 57 = .ok (.istore_n 1, 1) := by decide +kernel
theorem dX11_tellDifferences_58 : decode cX11_tellDifferences 58 = .ok (.iinc 2 1, 3) := by decide +kernel
theorem dX11_tellDifferences_61 : decode cX11_tellDifferences 61 = .ok (.goto (-53), 3) := by decide +kernel
theorem dX11_tellDifferences_64 : decode cX11_tellDifferences 64 = .ok (.iload_n 1, 1) := by decide +kernel
theorem dX11_tellDifferences_65 : decode cX11_tellDifferences 65 = .ok (.ifCond .eq 7, 3) := by decide +kernel
theorem dX11_tellDifferences_68 : decode cX11_tellDifferences 68 = .ok (.iconst 1, 1) := by decide +kernel
theorem dX11_tellDifferences_69 : decode cX11_tellDifferences 69 = .ok (.goto 4, 3) := by decide +kernel
theorem dX11_tellDifferences_72 : decode cX11_tellDifferences 72 = .ok (.iconst 0, 1) := by decide +kernel
theorem dX11_tellDifferences_73 : decode cX11_tellDifferences 73 = .ok (.ireturn, 1) := by decide +kernel
theorem dX11_isFamily_0 : decode cX11_isFamily 0 = .ok (.iload_n 0, 1) := by decide +kernel
theorem dX11_isFamily_1 : decode cX11_isFamily 1 = .ok (.ifCond .lt 13, 3) := by decide +kernel
theorem dX11_isFamily_4 : decode cX11_isFamily 4 = .ok (.iload_n 0, 1) := by decide +kernel
theorem dX11_isFamily_5 : decode cX11_isFamily 5 = .ok (.bipush 8, 2) := by decide +kernel
theorem dX11_isFamily_7 : decode cX11_isFamily 7 = .ok (.if_icmp .ge 7, 3) := by decide +kernel
theorem dX11_isFamily_10 : decode cX11_isFamily 10 = .ok (.iconst 1, 1) := by decide +kernel
theorem dX11_isFamily_11 : decode cX11_isFamily 11 = .ok (.goto 4, 3) := by decide +kernel
theorem dX11_isFamily_14 : decode cX11_isFamily 14 = .ok (.iconst 0, 1) := by decide +kernel
theorem dX11_isFamily_15 : decode cX11_isFamily 15 = .ok (.ireturn, 1) := by decide +kernel
theorem dX11_isAsked_0 : decode cX11_isAsked 0 = .ok (.iload_n 0, 1) := by decide +kernel
theorem dX11_isAsked_1 : decode cX11_isAsked 1 = .ok (.ifCond .lt 13, 3) := by decide +kernel
theorem dX11_isAsked_4 : decode cX11_isAsked 4 = .ok (.iload_n 0, 1) := by decide +kernel
theorem dX11_isAsked_5 : decode cX11_isAsked 5 = .ok (.bipush 20, 2) := by decide +kernel
theorem dX11_isAsked_7 : decode cX11_isAsked 7 = .ok (.if_icmp .gt 7, 3) := by decide +kernel
theorem dX11_isAsked_10 : decode cX11_isAsked 10 = .ok (.iconst 1, 1) := by decide +kernel
theorem dX11_isAsked_11 : decode cX11_isAsked 11 = .ok (.goto 4, 3) := by decide +kernel
theorem dX11_isAsked_14 : decode cX11_isAsked 14 = .ok (.iconst 0, 1) := by decide +kernel
theorem dX11_isAsked_15 : decode cX11_isAsked 15 = .ok (.ireturn, 1) := by decide +kernel
theorem dX11_entryOf_0 : decode cX11_entryOf 0 = .ok (.iload_n 0, 1) := by decide +kernel
theorem dX11_entryOf_1 : decode cX11_entryOf 1 = .ok (.ifCond .ne 8, 3) := by decide +kernel
theorem dX11_entryOf_4 : decode cX11_entryOf 4 = .ok (.iload_n 1, 1) := by decide +kernel
theorem dX11_entryOf_5 : decode cX11_entryOf 5 = .ok (.i2b, 1) := by decide +kernel
theorem dX11_entryOf_6 : decode cX11_entryOf 6 = .ok (.goto 14, 3) := by decide +kernel
theorem dX11_entryOf_9 : decode cX11_entryOf 9 = .ok (.iload_n 0, 1) := by decide +kernel
theorem dX11_entryOf_10 : decode cX11_entryOf 10 = .ok (.iconst 1, 1) := by decide +kernel
theorem dX11_entryOf_11 : decode cX11_entryOf 11 = .ok (.if_icmp .ne 8, 3) := by decide +kernel
theorem dX11_entryOf_14 : decode cX11_entryOf 14 = .ok (.iload_n 1, 1) := by decide +kernel
theorem dX11_entryOf_15 : decode cX11_entryOf 15 = .ok (.i2s, 1) := by decide +kernel
theorem dX11_entryOf_16 : decode cX11_entryOf 16 = .ok (.goto 4, 3) := by decide +kernel
theorem dX11_entryOf_19 : decode cX11_entryOf 19 = .ok (.iload_n 1, 1) := by decide +kernel
theorem dX11_entryOf_20 : decode cX11_entryOf 20 = .ok (.istore_n 2, 1) := by decide +kernel
theorem dX11_entryOf_21 : decode cX11_entryOf 21 = .ok (.iconst 0, 1) := by decide +kernel
theorem dX11_entryOf_22 : decode cX11_entryOf 22 = .ok (.bipush 20, 2) := by decide +kernel
theorem dX11_entryOf_24 : decode cX11_entryOf 24 = .ok (.iload_n 2, 1) := by decide +kernel
theorem dX11_entryOf_25 : decode cX11_entryOf 25 = .ok (.invokestatic 253, 3) := by decide +kernel
theorem dX11_entryOf_28 : decode cX11_entryOf 28 = .ok (.invokestatic 188, 3) := by decide +kernel
theorem dX11_entryOf_31 : decode cX11_entryOf 31 = .ok (.ireturn, 1) := by decide +kernel
theorem dX11_costIn_0 : decode cX11_costIn 0 = .ok (.lload_n 0, 1) := by decide +kernel
theorem dX11_costIn_1 : decode cX11_costIn 1 = .ok (.bipush 41, 2) := by decide +kernel
theorem dX11_costIn_3 : decode cX11_costIn 3 = .ok (.lushr, 1) := by decide +kernel
theorem dX11_costIn_4 : decode cX11_costIn 4 = .ok (.l2i, 1) := by decide +kernel
theorem dX11_costIn_5 : decode cX11_costIn 5 = .ok (.ireturn, 1) := by decide +kernel
theorem dX11_effortIn_0 : decode cX11_effortIn 0 = .ok (.lload_n 0, 1) := by decide +kernel
theorem dX11_effortIn_1 : decode cX11_effortIn 1 = .ok (.bipush 29, 2) := by decide +kernel
theorem dX11_effortIn_3 : decode cX11_effortIn 3 = .ok (.lushr, 1) := by decide +kernel
theorem dX11_effortIn_4 : decode cX11_effortIn 4 = .ok (.l2i, 1) := by decide +kernel
theorem dX11_effortIn_5 : decode cX11_effortIn 5 = .ok (.sipush 4095, 3) := by decide +kernel
theorem dX11_effortIn_8 : decode cX11_effortIn 8 = .ok (.iand, 1) := by decide +kernel
theorem dX11_effortIn_9 : decode cX11_effortIn 9 = .ok (.ireturn, 1) := by decide +kernel
theorem dX11_movesIn_0 : decode cX11_movesIn 0 = .ok (.lload_n 0, 1) := by decide +kernel
theorem dX11_movesIn_1 : decode cX11_movesIn 1 = .ok (.bipush 24, 2) := by decide +kernel
theorem dX11_movesIn_3 : decode cX11_movesIn 3 = .ok (.lushr, 1) := by decide +kernel
theorem dX11_movesIn_4 : decode cX11_movesIn 4 = .ok (.l2i, 1) := by decide +kernel
theorem dX11_movesIn_5 : decode cX11_movesIn 5 = .ok (.bipush 31, 2) := by decide +kernel
theorem dX11_movesIn_7 : decode cX11_movesIn 7 = .ok (.iand, 1) := by decide +kernel
theorem dX11_movesIn_8 : decode cX11_movesIn 8 = .ok (.ireturn, 1) := by decide +kernel
theorem dX11_bitOf_0 : decode cX11_bitOf 0 = .ok (.lconst 1, 1) := by decide +kernel
theorem dX11_bitOf_1 : decode cX11_bitOf 1 = .ok (.bipush 23, 2) := by decide +kernel
theorem dX11_bitOf_3 : decode cX11_bitOf 3 = .ok (.iload_n 0, 1) := by decide +kernel
theorem dX11_bitOf_4 : decode cX11_bitOf 4 = .ok (.isub, 1) := by decide +kernel
theorem dX11_bitOf_5 : decode cX11_bitOf 5 = .ok (.lshl, 1) := by decide +kernel
theorem dX11_bitOf_6 : decode cX11_bitOf 6 = .ok (.lreturn, 1) := by decide +kernel
theorem dX11_treads_0 : decode cX11_treads 0 = .ok (.lload_n 0, 1) := by decide +kernel
theorem dX11_treads_1 : decode cX11_treads 1 = .ok (.iload_n 2, 1) := by decide +kernel
theorem dX11_treads_2 : decode cX11_treads 2 = .ok (.invokestatic 441, 3) := by decide +kernel
theorem dX11_treads_5 : decode cX11_treads 5 = .ok (.land, 1) := by decide +kernel
theorem dX11_treads_6 : decode cX11_treads 6 = .ok (.lconst 0, 1) := by decide +kernel
theorem dX11_treads_7 : decode cX11_treads 7 = .ok (.lcmp, 1) := by decide +kernel
theorem dX11_treads_8 : decode cX11_treads 8 = .ok (.ifCond .ne 7, 3) := by decide +kernel
theorem dX11_treads_11 : decode cX11_treads 11 = .ok (.iconst 1, 1) := by decide +kernel
theorem dX11_treads_12 : decode cX11_treads 12 = .ok (.goto 4, 3) := by decide +kernel
theorem dX11_treads_15 : decode cX11_treads 15 = .ok (.iconst 0, 1) := by decide +kernel
theorem dX11_treads_16 : decode cX11_treads 16 = .ok (.ireturn, 1) := by decide +kernel
theorem dX11_find_0 : decode cX11_find 0 = .ok (.iload_n 1, 1) := by decide +kernel
theorem dX11_find_1 : decode cX11_find 1 = .ok (.ifCond .lt 29, 3) := by decide +kernel
theorem dX11_find_4 : decode cX11_find 4 = .ok (.iload_n 1, 1) := by decide +kernel
theorem dX11_find_5 : decode cX11_find 5 = .ok (.aload_n 0, 1) := by decide +kernel
theorem dX11_find_6 : decode cX11_find 6 = .ok (.getfield 36, 3) := by decide +kernel
theorem dX11_find_9 : decode cX11_find 9 = .ok (.if_icmp .ge 21, 3) := by decide +kernel
theorem dX11_find_12 : decode cX11_find 12 = .ok (.iload_n 1, 1) := by decide +kernel
theorem dX11_find_13 : decode cX11_find 13 = .ok (.aload_n 0, 1) := by decide +kernel
theorem dX11_find_14 : decode cX11_find 14 = .ok (.getfield 32, 3) := by decide +kernel
theorem dX11_find_17 : decode cX11_find 17 = .ok (.arraylength, 1) := by decide +kernel
theorem dX11_find_18 : decode cX11_find 18 = .ok (.if_icmp .ge 12, 3) := by decide +kernel
theorem dX11_find_21 : decode cX11_find 21 = .ok (.aload_n 0, 1) := by decide +kernel
theorem dX11_find_22 : decode cX11_find 22 = .ok (.getfield 32, 3) := by decide +kernel
theorem dX11_find_25 : decode cX11_find 25 = .ok (.iload_n 1, 1) := by decide +kernel
theorem dX11_find_26 : decode cX11_find 26 = .ok (.aaload, 1) := by decide +kernel
theorem dX11_find_27 : decode cX11_find 27 = .ok (.goto 4, 3) := by decide +kernel
theorem dX11_find_30 : decode cX11_find 30 = .ok (.aconst_null, 1) := by decide +kernel
theorem dX11_find_31 : decode cX11_find 31 = .ok (.areturn, 1) := by decide +kernel
theorem dX11_payForMove_0 : decode cX11_payForMove 0 = .ok (.iload_n 2, 1) := by decide +kernel
theorem dX11_payForMove_1 : decode cX11_payForMove 1 = .ok (.aload_n 1, 1) := by decide +kernel
theorem dX11_payForMove_2 : decode cX11_payForMove 2 = .ok (.getfield 201, 3) := by decide +kernel
theorem dX11_payForMove_5 : decode cX11_payForMove 5 = .ok (.isub, 1) := by decide +kernel
theorem dX11_payForMove_6 : decode cX11_payForMove 6 = .ok (.iconst 1, 1) := by decide +kernel
theorem dX11_payForMove_7 : decode cX11_payForMove 7 = .ok (.isub, 1) := by decide +kernel
theorem dX11_payForMove_8 : decode cX11_payForMove 8 = .ok (.istore_n 3, 1) := by decide +kernel
theorem dX11_payForMove_9 : decode cX11_payForMove 9 = .ok (.aload_n 1, 1) := by decide +kernel
theorem dX11_payForMove_10 : decode cX11_payForMove 10 = .ok (.getfield 201, 3) := by decide +kernel
theorem dX11_payForMove_13 : decode cX11_payForMove 13 = .ok (.iconst 1, 1) := by decide +kernel
theorem dX11_payForMove_14 : decode cX11_payForMove 14 = .ok (.iadd, 1) := by decide +kernel
theorem dX11_payForMove_15 : decode cX11_payForMove 15 = .ok (.istore 4, 2) := by decide +kernel
theorem dX11_payForMove_17 : decode cX11_payForMove 17 = .ok (.iload 4, 2) := by decide +kernel
theorem dX11_payForMove_19 : decode cX11_payForMove 19 = .ok (.iload_n 2, 1) := by decide +kernel
theorem dX11_payForMove_20 : decode cX11_payForMove 20 = .ok (.if_icmp .ge 35, 3) := by decide +kernel
theorem dX11_payForMove_23 : decode cX11_payForMove 23 = .ok (.aload_n 0, 1) := by decide +kernel
theorem dX11_payForMove_24 : decode cX11_payForMove 24 = .ok (.aload_n 0, 1) := by decide +kernel
theorem dX11_payForMove_25 : decode cX11_payForMove 25 = .ok (.getfield 26, 3) := by decide +kernel
theorem dX11_payForMove_28 : decode cX11_payForMove 28 = .ok (.iconst 1, 1) := by decide +kernel
theorem dX11_payForMove_29 : decode cX11_payForMove 29 = .ok (.iload 4, 2) := by decide +kernel
theorem dX11_payForMove_31 : decode cX11_payForMove 31 = .ok (.aload_n 1, 1) := by decide +kernel
theorem dX11_payForMove_32 : decode cX11_payForMove 32 = .ok (.getfield 201, 3) := by decide +kernel
theorem dX11_payForMove_35 : decode cX11_payForMove 35 = .ok (.iload_n 3, 1) := by decide +kernel
theorem dX11_payForMove_36 : decode cX11_payForMove 36 = .ok (.aload_n 1, 1) := by decide +kernel
theorem dX11_payForMove_37 : decode cX11_payForMove 37 = .ok (.getfield 213, 3) := by decide +kernel
theorem dX11_payForMove_40 : decode cX11_payForMove 40 = .ok (.invokevirtual 245, 3) := by decide +kernel
theorem dX11_payForMove_43 : decode cX11_payForMove 43 = .ok (.iload 4, 2) := by decide +kernel
theorem dX11_payForMove_45 : decode cX11_payForMove 45 = .ok (.iconst 1, 1) := by decide +kernel
theorem dX11_payForMove_46 : decode cX11_payForMove 46 = .ok (.invokevirtual 249, 3) := by decide +kernel
theorem dX11_payForMove_49 : decode cX11_payForMove 49 = .ok (.iinc 4 1, 3) := by decide +kernel
theorem dX11_payForMove_52 : decode cX11_payForMove 52 = .ok (.goto (-35), 3) := by decide +kernel
theorem dX11_payForMove_55 : decode cX11_payForMove 55 = .ok (.aload_n 0, 1) := by decide +kernel
theorem dX11_payForMove_56 : decode cX11_payForMove 56 = .ok (.aload_n 0, 1) := by decide +kernel
theorem dX11_payForMove_57 : decode cX11_payForMove 57 = .ok (.getfield 26, 3) := by decide +kernel
theorem dX11_payForMove_60 : decode cX11_payForMove 60 = .ok (.iconst 0, 1) := by decide +kernel
theorem dX11_payForMove_61 : decode cX11_payForMove 61 = .ok (.iload_n 2, 1) := by decide +kernel
theorem dX11_payForMove_62 : decode cX11_payForMove 62 = .ok (.aload_n 1, 1) := by decide +kernel
theorem dX11_payForMove_63 : decode cX11_payForMove 63 = .ok (.getfield 201, 3) := by decide +kernel
theorem dX11_payForMove_66 : decode cX11_payForMove 66 = .ok (.iload_n 3, 1) := by decide +kernel
theorem dX11_payForMove_67 : decode cX11_payForMove 67 = .ok (.aload_n 1, 1) := by decide +kernel
theorem dX11_payForMove_68 : decode cX11_payForMove 68 = .ok (.getfield 213, 3) := by decide +kernel
theorem dX11_payForMove_71 : decode cX11_payForMove 71 = .ok (.invokevirtual 245, 3) := by decide +kernel
theorem dX11_payForMove_74 : decode cX11_payForMove 74 = .ok (.iload_n 2, 1) := by decide +kernel
theorem dX11_payForMove_75 : decode cX11_payForMove 75 = .ok (.iconst 1, 1) := by decide +kernel
theorem dX11_payForMove_76 : decode cX11_payForMove 76 = .ok (.invokevirtual 249, 3) := by decide +kernel
theorem dX11_payForMove_79 : decode cX11_payForMove 79 = .ok (.return_, 1) := by decide +kernel
theorem dX11_lead_0 : decode cX11_lead 0 = .ok (.aload_n 0, 1) := by decide +kernel
theorem dX11_lead_1 : decode cX11_lead 1 = .ok (.getfield 26, 3) := by decide +kernel
theorem dX11_lead_4 : decode cX11_lead 4 = .ok (.getfield 160, 3) := by decide +kernel
theorem dX11_lead_7 : decode cX11_lead 7 = .ok (.iload_n 2, 1) := by decide +kernel
theorem dX11_lead_8 : decode cX11_lead 8 = .ok (.aload_n 0, 1) := by decide +kernel
theorem dX11_lead_9 : decode cX11_lead 9 = .ok (.getfield 44, 3) := by decide +kernel
theorem dX11_lead_12 : decode cX11_lead 12 = .ok (.invokevirtual 380, 3) := by decide +kernel
theorem dX11_lead_15 : decode cX11_lead 15 = .ok (.aload_n 0, 1) := by decide +kernel
theorem dX11_lead_16 : decode cX11_lead 16 = .ok (.iload_n 1, 1) := by decide +kernel
theorem dX11_lead_17 : decode cX11_lead 17 = .ok (.sipush 720, 3) := by decide +kernel
theorem dX11_lead_20 : decode cX11_lead 20 = .ok (.invokevirtual 376, 3) := by decide +kernel
theorem dX11_lead_23 : decode cX11_lead 23 = .ok (.iconst 0, 1) := by decide +kernel
theorem dX11_lead_24 : decode cX11_lead 24 = .ok (.istore 4, 2) := by decide +kernel
theorem dX11_lead_26 : decode cX11_lead 26 = .ok (.iload 4, 2) := by decide +kernel
theorem dX11_lead_28 : decode cX11_lead 28 = .ok (.bipush 8, 2) := by decide +kernel
theorem dX11_lead_30 : decode cX11_lead 30 = .ok (.if_icmp .ge 28, 3) := by decide +kernel
theorem dX11_lead_33 : decode cX11_lead 33 = .ok (.aload_n 0, 1) := by decide +kernel
theorem dX11_lead_34 : decode cX11_lead 34 = .ok (.getfield 40, 3) := by decide +kernel
theorem dX11_lead_37 : decode cX11_lead 37 = .ok (.iload 4, 2) := by decide +kernel
theorem dX11_lead_39 : decode cX11_lead 39 = .ok (.dup2, 1) := by decide +kernel
theorem dX11_lead_40 : decode cX11_lead 40 = .ok (.iaload, 1) := by decide +kernel
theorem dX11_lead_41 : decode cX11_lead 41 = .ok (.iload_n 3, 1) := by decide +kernel
theorem dX11_lead_42 : decode cX11_lead 42 = .ok (.aload_n 0, 1) := by decide +kernel
theorem dX11_lead_43 : decode cX11_lead 43 = .ok (.getfield 44, 3) := by decide +kernel
theorem dX11_lead_46 : decode cX11_lead 46 = .ok (.iload 4, 2) := by decide +kernel
theorem dX11_lead_48 : decode cX11_lead 48 = .ok (.iaload, 1) := by decide +kernel
theorem dX11_lead_49 : decode cX11_lead 49 = .ok (.imul, 1) := by decide +kernel
theorem dX11_lead_50 : decode cX11_lead 50 = .ok (.iadd, 1) := by decide +kernel
theorem dX11_lead_51 : decode cX11_lead 51 = .ok (.iastore, 1) := by decide +kernel
theorem dX11_lead_52 : decode cX11_lead 52 = .ok (.iinc 4 1, 3) := by decide +kernel
theorem dX11_lead_55 : decode cX11_lead 55 = .ok (.goto (-29), 3) := by decide +kernel
theorem dX11_lead_58 : decode cX11_lead 58 = .ok (.return_, 1) := by decide +kernel
abbrev mX11_divide_0_e1 : ByteArray := .mk #[0x1c, 0x04, 0xa2, 0x00, 0x04, 0xb1, 0x1b, 0x3e, 0x03, 0x36, 0x04, 0x15, 0x04, 0x10, 0x08, 0xa2, 0x00, 0x37, 0x2a, 0xb4, 0x00, 0x2f, 0x15, 0x04, 0x1b, 0x2a, 0xb4, 0x00, 0x2c, 0x15, 0x04, 0x2e, 0x68, 0x1c, 0x70, 0x4f, 0x2a, 0xb4, 0x00, 0x2c, 0x15, 0x04, 0x1b, 0x2a, 0xb4, 0x00, 0x2c, 0x15, 0x04, 0x2e, 0x68, 0x1c, 0x6c, 0x4f, 0x1d, 0x2a, 0xb4, 0x00, 0x2c, 0x15, 0x04, 0x2e, 0x64, 0x3e, 0x84, 0x04, 0x01, 0xa7, 0xff, 0xc8, 0x03, 0x36]
theorem kmX11_divide_0_e1 : CK cX11_divide 0 mX11_divide_0_e1 := ck_of (by decide +kernel)
theorem dX11_divide_0 : decode cX11_divide 0 = .ok (.iload_n 2, 1) := rd_chunk (k := 0) (i := 0) kmX11_divide_0_e1 (by decide +kernel)
theorem dX11_divide_1 : decode cX11_divide 1 = .ok (.iconst 1, 1) := rd_chunk (k := 0) (i := 1) kmX11_divide_0_e1 (by decide +kernel)
theorem dX11_divide_2 : decode cX11_divide 2 = .ok (.if_icmp .ge 4, 3) := rd_chunk (k := 0) (i := 2) kmX11_divide_0_e1 (by decide +kernel)
theorem dX11_divide_5 : decode cX11_divide 5 = .ok (.return_, 1) := rd_chunk (k := 0) (i := 5) kmX11_divide_0_e1 (by decide +kernel)
theorem dX11_divide_6 : decode cX11_divide 6 = .ok (.iload_n 1, 1) := rd_chunk (k := 0) (i := 6) kmX11_divide_0_e1 (by decide +kernel)
theorem dX11_divide_7 : decode cX11_divide 7 = .ok (.istore_n 3, 1) := rd_chunk (k := 0) (i := 7) kmX11_divide_0_e1 (by decide +kernel)
theorem dX11_divide_8 : decode cX11_divide 8 = .ok (.iconst 0, 1) := rd_chunk (k := 0) (i := 8) kmX11_divide_0_e1 (by decide +kernel)
theorem dX11_divide_9 : decode cX11_divide 9 = .ok (.istore 4, 2) := rd_chunk (k := 0) (i := 9) kmX11_divide_0_e1 (by decide +kernel)
theorem dX11_divide_11 : decode cX11_divide 11 = .ok (.iload 4, 2) := rd_chunk (k := 0) (i := 11) kmX11_divide_0_e1 (by decide +kernel)
theorem dX11_divide_13 : decode cX11_divide 13 = .ok (.bipush 8, 2) := rd_chunk (k := 0) (i := 13) kmX11_divide_0_e1 (by decide +kernel)
theorem dX11_divide_15 : decode cX11_divide 15 = .ok (.if_icmp .ge 55, 3) := rd_chunk (k := 0) (i := 15) kmX11_divide_0_e1 (by decide +kernel)
theorem dX11_divide_18 : decode cX11_divide 18 = .ok (.aload_n 0, 1) := rd_chunk (k := 0) (i := 18) kmX11_divide_0_e1 (by decide +kernel)
theorem dX11_divide_19 : decode cX11_divide 19 = .ok (.getfield 47, 3) := rd_chunk (k := 0) (i := 19) kmX11_divide_0_e1 (by decide +kernel)
theorem dX11_divide_22 : decode cX11_divide 22 = .ok (.iload 4, 2) := rd_chunk (k := 0) (i := 22) kmX11_divide_0_e1 (by decide +kernel)
theorem dX11_divide_24 : decode cX11_divide 24 = .ok (.iload_n 1, 1) := rd_chunk (k := 0) (i := 24) kmX11_divide_0_e1 (by decide +kernel)
theorem dX11_divide_25 : decode cX11_divide 25 = .ok (.aload_n 0, 1) := rd_chunk (k := 0) (i := 25) kmX11_divide_0_e1 (by decide +kernel)
theorem dX11_divide_26 : decode cX11_divide 26 = .ok (.getfield 44, 3) := rd_chunk (k := 0) (i := 26) kmX11_divide_0_e1 (by decide +kernel)
theorem dX11_divide_29 : decode cX11_divide 29 = .ok (.iload 4, 2) := rd_chunk (k := 0) (i := 29) kmX11_divide_0_e1 (by decide +kernel)
theorem dX11_divide_31 : decode cX11_divide 31 = .ok (.iaload, 1) := rd_chunk (k := 0) (i := 31) kmX11_divide_0_e1 (by decide +kernel)
theorem dX11_divide_32 : decode cX11_divide 32 = .ok (.imul, 1) := rd_chunk (k := 0) (i := 32) kmX11_divide_0_e1 (by decide +kernel)
theorem dX11_divide_33 : decode cX11_divide 33 = .ok (.iload_n 2, 1) := rd_chunk (k := 0) (i := 33) kmX11_divide_0_e1 (by decide +kernel)
theorem dX11_divide_34 : decode cX11_divide 34 = .ok (.irem, 1) := rd_chunk (k := 0) (i := 34) kmX11_divide_0_e1 (by decide +kernel)
theorem dX11_divide_35 : decode cX11_divide 35 = .ok (.iastore, 1) := rd_chunk (k := 0) (i := 35) kmX11_divide_0_e1 (by decide +kernel)
theorem dX11_divide_36 : decode cX11_divide 36 = .ok (.aload_n 0, 1) := rd_chunk (k := 0) (i := 36) kmX11_divide_0_e1 (by decide +kernel)
theorem dX11_divide_37 : decode cX11_divide 37 = .ok (.getfield 44, 3) := rd_chunk (k := 0) (i := 37) kmX11_divide_0_e1 (by decide +kernel)
theorem dX11_divide_40 : decode cX11_divide 40 = .ok (.iload 4, 2) := rd_chunk (k := 0) (i := 40) kmX11_divide_0_e1 (by decide +kernel)
theorem dX11_divide_42 : decode cX11_divide 42 = .ok (.iload_n 1, 1) := rd_chunk (k := 0) (i := 42) kmX11_divide_0_e1 (by decide +kernel)
theorem dX11_divide_43 : decode cX11_divide 43 = .ok (.aload_n 0, 1) := rd_chunk (k := 0) (i := 43) kmX11_divide_0_e1 (by decide +kernel)
theorem dX11_divide_44 : decode cX11_divide 44 = .ok (.getfield 44, 3) := rd_chunk (k := 0) (i := 44) kmX11_divide_0_e1 (by decide +kernel)
theorem dX11_divide_47 : decode cX11_divide 47 = .ok (.iload 4, 2) := rd_chunk (k := 0) (i := 47) kmX11_divide_0_e1 (by decide +kernel)
theorem dX11_divide_49 : decode cX11_divide 49 = .ok (.iaload, 1) := rd_chunk (k := 0) (i := 49) kmX11_divide_0_e1 (by decide +kernel)
theorem dX11_divide_50 : decode cX11_divide 50 = .ok (.imul, 1) := rd_chunk (k := 0) (i := 50) kmX11_divide_0_e1 (by decide +kernel)
theorem dX11_divide_51 : decode cX11_divide 51 = .ok (.iload_n 2, 1) := rd_chunk (k := 0) (i := 51) kmX11_divide_0_e1 (by decide +kernel)
theorem dX11_divide_52 : decode cX11_divide 52 = .ok (.idiv, 1) := rd_chunk (k := 0) (i := 52) kmX11_divide_0_e1 (by decide +kernel)
theorem dX11_divide_53 : decode cX11_divide 53 = .ok (.iastore, 1) := rd_chunk (k := 0) (i := 53) kmX11_divide_0_e1 (by decide +kernel)
theorem dX11_divide_54 : decode cX11_divide 54 = .ok (.iload_n 3, 1) := rd_chunk (k := 0) (i := 54) kmX11_divide_0_e1 (by decide +kernel)
theorem dX11_divide_55 : decode cX11_divide 55 = .ok (.aload_n 0, 1) := rd_chunk (k := 0) (i := 55) kmX11_divide_0_e1 (by decide +kernel)
theorem dX11_divide_56 : decode cX11_divide 56 = .ok (.getfield 44, 3) := rd_chunk (k := 0) (i := 56) kmX11_divide_0_e1 (by decide +kernel)
theorem dX11_divide_59 : decode cX11_divide 59 = .ok (.iload 4, 2) := rd_chunk (k := 0) (i := 59) kmX11_divide_0_e1 (by decide +kernel)
theorem dX11_divide_61 : decode cX11_divide 61 = .ok (.iaload, 1) := rd_chunk (k := 0) (i := 61) kmX11_divide_0_e1 (by decide +kernel)
theorem dX11_divide_62 : decode cX11_divide 62 = .ok (.isub, 1) := rd_chunk (k := 0) (i := 62) kmX11_divide_0_e1 (by decide +kernel)
theorem dX11_divide_63 : decode cX11_divide 63 = .ok (.istore_n 3, 1) := rd_chunk (k := 0) (i := 63) kmX11_divide_0_e1 (by decide +kernel)
abbrev mX11_divide_64_e1 : ByteArray := .mk #[0x84, 0x04, 0x01, 0xa7, 0xff, 0xc8, 0x03, 0x36, 0x04, 0x15, 0x04, 0x1d, 0xa2, 0x00, 0x50, 0x15, 0x04, 0x10, 0x08, 0xa2, 0x00, 0x49, 0x03, 0x36, 0x05, 0x04, 0x36, 0x06, 0x15, 0x06, 0x10, 0x08, 0xa2, 0x00, 0x23, 0x2a, 0xb4, 0x00, 0x2f, 0x15, 0x06, 0x2e, 0x2a, 0xb4, 0x00, 0x2f, 0x15, 0x05, 0x2e, 0xa4, 0x00, 0x08, 0x15, 0x06, 0xa7, 0x00, 0x05, 0x15, 0x05, 0x36, 0x05, 0x84, 0x06, 0x01, 0xa7, 0xff, 0xdc, 0x2a, 0xb4, 0x00, 0x2c, 0x15]
theorem kmX11_divide_64_e1 : CK cX11_divide 64 mX11_divide_64_e1 := ck_of (by decide +kernel)
theorem dX11_divide_64 : decode cX11_divide 64 = .ok (.iinc 4 1, 3) := rd_chunk (k := 64) (i := 0) kmX11_divide_64_e1 (by decide +kernel)
theorem dX11_divide_67 : decode cX11_divide 67 = .ok (.goto (-56), 3) := rd_chunk (k := 64) (i := 3) kmX11_divide_64_e1 (by decide +kernel)
theorem dX11_divide_70 : decode cX11_divide 70 = .ok (.iconst 0, 1) := rd_chunk (k := 64) (i := 6) kmX11_divide_64_e1 (by decide +kernel)
theorem dX11_divide_71 : decode cX11_divide 71 = .ok (.istore 4, 2) := rd_chunk (k := 64) (i := 7) kmX11_divide_64_e1 (by decide +kernel)
theorem dX11_divide_73 : decode cX11_divide 73 = .ok (.iload 4, 2) := rd_chunk (k := 64) (i := 9) kmX11_divide_64_e1 (by decide +kernel)
theorem dX11_divide_75 : decode cX11_divide 75 = .ok (.iload_n 3, 1) := rd_chunk (k := 64) (i := 11) kmX11_divide_64_e1 (by decide +kernel)
theorem dX11_divide_76 : decode cX11_divide 76 = .ok (.if_icmp .ge 80, 3) := rd_chunk (k := 64) (i := 12) kmX11_divide_64_e1 (by decide +kernel)
theorem dX11_divide_79 : decode cX11_divide 79 = .ok (.iload 4, 2) := rd_chunk (k := 64) (i := 15) kmX11_divide_64_e1 (by decide +kernel)
theorem dX11_divide_81 : decode cX11_divide 81 = .ok (.bipush 8, 2) := rd_chunk (k := 64) (i := 17) kmX11_divide_64_e1 (by decide +kernel)
theorem dX11_divide_83 : decode cX11_divide 83 = .ok (.if_icmp .ge 73, 3) := rd_chunk (k := 64) (i := 19) kmX11_divide_64_e1 (by decide +kernel)
theorem dX11_divide_86 : decode cX11_divide 86 = .ok (.iconst 0, 1) := rd_chunk (k := 64) (i := 22) kmX11_divide_64_e1 (by decide +kernel)
theorem dX11_divide_87 : decode cX11_divide 87 = .ok (.istore 5, 2) := rd_chunk (k := 64) (i := 23) kmX11_divide_64_e1 (by decide +kernel)
theorem dX11_divide_89 : decode cX11_divide 89 = .ok (.iconst 1, 1) := rd_chunk (k := 64) (i := 25) kmX11_divide_64_e1 (by decide +kernel)
theorem dX11_divide_90 : decode cX11_divide 90 = .ok (.istore 6, 2) := rd_chunk (k := 64) (i := 26) kmX11_divide_64_e1 (by decide +kernel)
theorem dX11_divide_92 : decode cX11_divide 92 = .ok (.iload 6, 2) := rd_chunk (k := 64) (i := 28) kmX11_divide_64_e1 (by decide +kernel)
theorem dX11_divide_94 : decode cX11_divide 94 = .ok (.bipush 8, 2) := rd_chunk (k := 64) (i := 30) kmX11_divide_64_e1 (by decide +kernel)
theorem dX11_divide_96 : decode cX11_divide 96 = .ok (.if_icmp .ge 35, 3) := rd_chunk (k := 64) (i := 32) kmX11_divide_64_e1 (by decide +kernel)
theorem dX11_divide_99 : decode cX11_divide 99 = .ok (.aload_n 0, 1) := rd_chunk (k := 64) (i := 35) kmX11_divide_64_e1 (by decide +kernel)
theorem dX11_divide_100 : decode cX11_divide 100 = .ok (.getfield 47, 3) := rd_chunk (k := 64) (i := 36) kmX11_divide_64_e1 (by decide +kernel)
theorem dX11_divide_103 : decode cX11_divide 103 = .ok (.iload 6, 2) := rd_chunk (k := 64) (i := 39) kmX11_divide_64_e1 (by decide +kernel)
theorem dX11_divide_105 : decode cX11_divide 105 = .ok (.iaload, 1) := rd_chunk (k := 64) (i := 41) kmX11_divide_64_e1 (by decide +kernel)
theorem dX11_divide_106 : decode cX11_divide 106 = .ok (.aload_n 0, 1) := rd_chunk (k := 64) (i := 42) kmX11_divide_64_e1 (by decide +kernel)
theorem dX11_divide_107 : decode cX11_divide 107 = .ok (.getfield 47, 3) := rd_chunk (k := 64) (i := 43) kmX11_divide_64_e1 (by decide +kernel)
theorem dX11_divide_110 : decode cX11_divide 110 = .ok (.iload 5, 2) := rd_chunk (k := 64) (i := 46) kmX11_divide_64_e1 (by decide +kernel)
theorem dX11_divide_112 : decode cX11_divide 112 = .ok (.iaload, 1) := rd_chunk (k := 64) (i := 48) kmX11_divide_64_e1 (by decide +kernel)
theorem dX11_divide_113 : decode cX11_divide 113 = .ok (.if_icmp .le 8, 3) := rd_chunk (k := 64) (i := 49) kmX11_divide_64_e1 (by decide +kernel)
theorem dX11_divide_116 : decode cX11_divide 116 = .ok (.iload 6, 2) := rd_chunk (k := 64) (i := 52) kmX11_divide_64_e1 (by decide +kernel)
theorem dX11_divide_118 : decode cX11_divide 118 = .ok (.goto 5, 3) := rd_chunk (k := 64) (i := 54) kmX11_divide_64_e1 (by decide +kernel)
theorem dX11_divide_121 : decode cX11_divide 121 = .ok (.iload 5, 2) := rd_chunk (k := 64) (i := 57) kmX11_divide_64_e1 (by decide +kernel)
theorem dX11_divide_123 : decode cX11_divide 123 = .ok (.istore 5, 2) := rd_chunk (k := 64) (i := 59) kmX11_divide_64_e1 (by decide +kernel)
theorem dX11_divide_125 : decode cX11_divide 125 = .ok (.iinc 6 1, 3) := rd_chunk (k := 64) (i := 61) kmX11_divide_64_e1 (by decide +kernel)
abbrev mX11_divide_128_e1 : ByteArray := .mk #[0xa7, 0xff, 0xdc, 0x2a, 0xb4, 0x00, 0x2c, 0x15, 0x05, 0x5c, 0x2e, 0x04, 0x60, 0x4f, 0x2a, 0xb4, 0x00, 0x2f, 0x15, 0x05, 0x02, 0x4f, 0x84, 0x04, 0x01, 0xa7, 0xff, 0xb0, 0xb1]
theorem kmX11_divide_128_e1 : CK cX11_divide 128 mX11_divide_128_e1 := ck_of (by decide +kernel)
theorem dX11_divide_128 : decode cX11_divide 128 = .ok (.goto (-36), 3) := rd_chunk (k := 128) (i := 0) kmX11_divide_128_e1 (by decide +kernel)
theorem dX11_divide_131 : decode cX11_divide 131 = .ok (.aload_n 0, 1) := rd_chunk (k := 128) (i := 3) kmX11_divide_128_e1 (by decide +kernel)
theorem dX11_divide_132 : decode cX11_divide 132 = .ok (.getfield 44, 3) := rd_chunk (k := 128) (i := 4) kmX11_divide_128_e1 (by decide +kernel)
theorem dX11_divide_135 : decode cX11_divide 135 = .ok (.iload 5, 2) := rd_chunk (k := 128) (i := 7) kmX11_divide_128_e1 (by decide +kernel)
theorem dX11_divide_137 : decode cX11_divide 137 = .ok (.dup2, 1) := rd_chunk (k := 128) (i := 9) kmX11_divide_128_e1 (by decide +kernel)
theorem dX11_divide_138 : decode cX11_divide 138 = .ok (.iaload, 1) := rd_chunk (k := 128) (i := 10) kmX11_divide_128_e1 (by decide +kernel)
theorem dX11_divide_139 : decode cX11_divide 139 = .ok (.iconst 1, 1) := rd_chunk (k := 128) (i := 11) kmX11_divide_128_e1 (by decide +kernel)
theorem dX11_divide_140 : decode cX11_divide 140 = .ok (.iadd, 1) := rd_chunk (k := 128) (i := 12) kmX11_divide_128_e1 (by decide +kernel)
theorem dX11_divide_141 : decode cX11_divide 141 = .ok (.iastore, 1) := rd_chunk (k := 128) (i := 13) kmX11_divide_128_e1 (by decide +kernel)
theorem dX11_divide_142 : decode cX11_divide 142 = .ok (.aload_n 0, 1) := rd_chunk (k := 128) (i := 14) kmX11_divide_128_e1 (by decide +kernel)
theorem dX11_divide_143 : decode cX11_divide 143 = .ok (.getfield 47, 3) := rd_chunk (k := 128) (i := 15) kmX11_divide_128_e1 (by decide +kernel)
theorem dX11_divide_146 : decode cX11_divide 146 = .ok (.iload 5, 2) := rd_chunk (k := 128) (i := 18) kmX11_divide_128_e1 (by decide +kernel)
theorem dX11_divide_148 : decode cX11_divide 148 = .ok (.iconst (-1), 1) := rd_chunk (k := 128) (i := 20) kmX11_divide_128_e1 (by decide +kernel)
theorem dX11_divide_149 : decode cX11_divide 149 = .ok (.iastore, 1) := rd_chunk (k := 128) (i := 21) kmX11_divide_128_e1 (by decide +kernel)
theorem dX11_divide_150 : decode cX11_divide 150 = .ok (.iinc 4 1, 3) := rd_chunk (k := 128) (i := 22) kmX11_divide_128_e1 (by decide +kernel)
theorem dX11_divide_153 : decode cX11_divide 153 = .ok (.goto (-80), 3) := rd_chunk (k := 128) (i := 25) kmX11_divide_128_e1 (by decide +kernel)
theorem dX11_divide_156 : decode cX11_divide 156 = .ok (.return_, 1) := rd_chunk (k := 128) (i := 28) kmX11_divide_128_e1 (by decide +kernel)
theorem dX11_sumOfPurses_0 : decode cX11_sumOfPurses 0 = .ok (.iconst 0, 1) := by decide +kernel
theorem dX11_sumOfPurses_1 : decode cX11_sumOfPurses 1 = .ok (.istore_n 1, 1) := by decide +kernel
theorem dX11_sumOfPurses_2 : decode cX11_sumOfPurses 2 = .ok (.iconst 0, 1) := by decide +kernel
theorem dX11_sumOfPurses_3 : decode cX11_sumOfPurses 3 = .ok (.istore_n 2, 1) := by decide +kernel
theorem dX11_sumOfPurses_4 : decode cX11_sumOfPurses 4 = .ok (.iload_n 2, 1) := by decide +kernel
theorem dX11_sumOfPurses_5 : decode cX11_sumOfPurses 5 = .ok (.bipush 8, 2) := by decide +kernel
theorem dX11_sumOfPurses_7 : decode cX11_sumOfPurses 7 = .ok (.if_icmp .ge 18, 3) := by decide +kernel
theorem dX11_sumOfPurses_10 : decode cX11_sumOfPurses 10 = .ok (.iload_n 1, 1) := by decide +kernel
theorem dX11_sumOfPurses_11 : decode cX11_sumOfPurses 11 = .ok (.aload_n 0, 1) := by decide +kernel
theorem dX11_sumOfPurses_12 : decode cX11_sumOfPurses 12 = .ok (.getfield 40, 3) := by decide +kernel
theorem dX11_sumOfPurses_15 : decode cX11_sumOfPurses 15 = .ok (.iload_n 2, 1) := by decide +kernel
theorem dX11_sumOfPurses_16 : decode cX11_sumOfPurses 16 = .ok (.iaload, 1) := by decide +kernel
theorem dX11_sumOfPurses_17 : decode cX11_sumOfPurses 17 = .ok (.iadd, 1) := by decide +kernel
theorem dX11_sumOfPurses_18 : decode cX11_sumOfPurses 18 = .ok (.istore_n 1, 1) := by decide +kernel
theorem dX11_sumOfPurses_19 : decode cX11_sumOfPurses 19 = .ok (.iinc 2 1, 3) := by decide +kernel
theorem dX11_sumOfPurses_22 : decode cX11_sumOfPurses 22 = .ok (.goto (-18), 3) := by decide +kernel
theorem dX11_sumOfPurses_25 : decode cX11_sumOfPurses 25 = .ok (.iload_n 1, 1) := by decide +kernel
theorem dX11_sumOfPurses_26 : decode cX11_sumOfPurses 26 = .ok (.ireturn, 1) := by decide +kernel
theorem dX11_fewestOver_0 : decode cX11_fewestOver 0 = .ok (.sipush 255, 3) := by decide +kernel
theorem dX11_fewestOver_3 : decode cX11_fewestOver 3 = .ok (.istore_n 2, 1) := by decide +kernel
theorem dX11_fewestOver_4 : decode cX11_fewestOver 4 = .ok (.iconst 1, 1) := by decide +kernel
theorem dX11_fewestOver_5 : decode cX11_fewestOver 5 = .ok (.istore_n 3, 1) := by decide +kernel
theorem dX11_fewestOver_6 : decode cX11_fewestOver 6 = .ok (.iload_n 3, 1) := by decide +kernel
theorem dX11_fewestOver_7 : decode cX11_fewestOver 7 = .ok (.sipush 255, 3) := by decide +kernel
theorem dX11_fewestOver_10 : decode cX11_fewestOver 10 = .ok (.if_icmp .ge 68, 3) := by decide +kernel
theorem dX11_fewestOver_13 : decode cX11_fewestOver 13 = .ok (.iconst 0, 1) := by decide +kernel
theorem dX11_fewestOver_14 : decode cX11_fewestOver 14 = .ok (.istore 4, 2) := by decide +kernel
theorem dX11_fewestOver_16 : decode cX11_fewestOver 16 = .ok (.iconst 0, 1) := by decide +kernel
theorem dX11_fewestOver_17 : decode cX11_fewestOver 17 = .ok (.istore 5, 2) := by decide +kernel
theorem dX11_fewestOver_19 : decode cX11_fewestOver 19 = .ok (.iload 5, 2) := by decide +kernel
theorem dX11_fewestOver_21 : decode cX11_fewestOver 21 = .ok (.bipush 8, 2) := by decide +kernel
theorem dX11_fewestOver_23 : decode cX11_fewestOver 23 = .ok (.if_icmp .ge 28, 3) := by decide +kernel
theorem dX11_fewestOver_26 : decode cX11_fewestOver 26 = .ok (.iload 4, 2) := by decide +kernel
theorem dX11_fewestOver_28 : decode cX11_fewestOver 28 = .ok (.iload_n 3, 1) := by decide +kernel
theorem dX11_fewestOver_29 : decode cX11_fewestOver 29 = .ok (.iload 5, 2) := by decide +kernel
theorem dX11_fewestOver_31 : decode cX11_fewestOver 31 = .ok (.ishr, 1) := by decide +kernel
theorem dX11_fewestOver_32 : decode cX11_fewestOver 32 = .ok (.iconst 1, 1) := by decide +kernel
theorem dX11_fewestOver_33 : decode cX11_fewestOver 33 = .ok (.iand, 1) := by decide +kernel
theorem dX11_fewestOver_34 : decode cX11_fewestOver 34 = .ok (.aload_n 0, 1) := by decide +kernel
theorem dX11_fewestOver_35 : decode cX11_fewestOver 35 = .ok (.getfield 44, 3) := by decide +kernel
theorem dX11_fewestOver_38 : decode cX11_fewestOver 38 = .ok (.iload 5, 2) := by decide +kernel
theorem dX11_fewestOver_40 : decode cX11_fewestOver 40 = .ok (.iaload, 1) := by decide +kernel
theorem dX11_fewestOver_41 : decode cX11_fewestOver 41 = .ok (.imul, 1) := by decide +kernel
theorem dX11_fewestOver_42 : decode cX11_fewestOver 42 = .ok (.iadd, 1) := by decide +kernel
theorem dX11_fewestOver_43 : decode cX11_fewestOver 43 = .ok (.istore 4, 2) := by decide +kernel
theorem dX11_fewestOver_45 : decode cX11_fewestOver 45 = .ok (.iinc 5 1, 3) := by decide +kernel
theorem dX11_fewestOver_48 : decode cX11_fewestOver 48 = .ok (.goto (-29), 3) := by decide +kernel
theorem dX11_fewestOver_51 : decode cX11_fewestOver 51 = .ok (.iconst 2, 1) := by decide +kernel
theorem dX11_fewestOver_52 : decode cX11_fewestOver 52 = .ok (.iload 4, 2) := by decide +kernel
theorem dX11_fewestOver_54 : decode cX11_fewestOver 54 = .ok (.imul, 1) := by decide +kernel
theorem dX11_fewestOver_55 : decode cX11_fewestOver 55 = .ok (.iload_n 1, 1) := by decide +kernel
theorem dX11_fewestOver_56 : decode cX11_fewestOver 56 = .ok (.if_icmp .le 16, 3) := by decide +kernel
theorem dX11_fewestOver_59 : decode cX11_fewestOver 59 = .ok (.iload_n 3, 1) := by decide +kernel
theorem dX11_fewestOver_60 : decode cX11_fewestOver 60 = .ok (.invokestatic 389, 3) := by decide +kernel
theorem dX11_fewestOver_63 : decode cX11_fewestOver 63 = .ok (.iload_n 2, 1) := by decide +kernel
theorem dX11_fewestOver_64 : decode cX11_fewestOver 64 = .ok (.invokestatic 389, 3) := by decide +kernel
theorem dX11_fewestOver_67 : decode cX11_fewestOver 67 = .ok (.if_icmp .ge 5, 3) := by decide +kernel
theorem dX11_fewestOver_70 : decode cX11_fewestOver 70 = .ok (.iload_n 3, 1) := by decide +kernel
theorem dX11_fewestOver_71 : decode cX11_fewestOver 71 = .ok (.istore_n 2, 1) := by decide +kernel
theorem dX11_fewestOver_72 : decode cX11_fewestOver 72 = .ok (.iinc 3 1, 3) := by decide +kernel
theorem dX11_fewestOver_75 : decode cX11_fewestOver 75 = .ok (.goto (-69), 3) := by decide +kernel
theorem dX11_fewestOver_78 : decode cX11_fewestOver 78 = .ok (.iload_n 2, 1) := by decide +kernel
theorem dX11_fewestOver_79 : decode cX11_fewestOver 79 = .ok (.ireturn, 1) := by decide +kernel
abbrev mX11_sumUp_0_e1 : ByteArray := .mk #[0x2c, 0x03, 0xb8, 0x00, 0x76, 0x03, 0x3e, 0x1d, 0x2a, 0xb4, 0x00, 0x24, 0xa2, 0x00, 0x65, 0x2a, 0xb4, 0x00, 0x1a, 0xb4, 0x00, 0xac, 0x9e, 0x00, 0x5b, 0x2a, 0x1d, 0xb6, 0x00, 0x6f, 0x3a, 0x04, 0x19, 0x04, 0xc7, 0x00, 0x06, 0xa7, 0x00, 0x46, 0x19, 0x04, 0xb4, 0x01, 0x07, 0x19, 0x04, 0xb4, 0x00, 0xd5, 0x19, 0x04, 0xb4, 0x00, 0xc4, 0x1b, 0xb6, 0x01, 0x0b, 0x19, 0x04, 0xb4, 0x01, 0x07, 0xb6, 0x01, 0x10, 0x37, 0x05, 0x16, 0x05, 0x14]
theorem kmX11_sumUp_0_e1 : CK cX11_sumUp 0 mX11_sumUp_0_e1 := ck_of (by decide +kernel)
theorem dX11_sumUp_0 : decode cX11_sumUp 0 = .ok (.aload_n 2, 1) := rd_chunk (k := 0) (i := 0) kmX11_sumUp_0_e1 (by decide +kernel)
theorem dX11_sumUp_1 : decode cX11_sumUp 1 = .ok (.iconst 0, 1) := rd_chunk (k := 0) (i := 1) kmX11_sumUp_0_e1 (by decide +kernel)
theorem dX11_sumUp_2 : decode cX11_sumUp 2 = .ok (.invokestatic 118, 3) := rd_chunk (k := 0) (i := 2) kmX11_sumUp_0_e1 (by decide +kernel)
theorem dX11_sumUp_5 : decode cX11_sumUp 5 = .ok (.iconst 0, 1) := rd_chunk (k := 0) (i := 5) kmX11_sumUp_0_e1 (by decide +kernel)
theorem dX11_sumUp_6 : decode cX11_sumUp 6 = .ok (.istore_n 3, 1) := rd_chunk (k := 0) (i := 6) kmX11_sumUp_0_e1 (by decide +kernel)
theorem dX11_sumUp_7 : decode cX11_sumUp 7 = .ok (.iload_n 3, 1) := rd_chunk (k := 0) (i := 7) kmX11_sumUp_0_e1 (by decide +kernel)
theorem dX11_sumUp_8 : decode cX11_sumUp 8 = .ok (.aload_n 0, 1) := rd_chunk (k := 0) (i := 8) kmX11_sumUp_0_e1 (by decide +kernel)
theorem dX11_sumUp_9 : decode cX11_sumUp 9 = .ok (.getfield 36, 3) := rd_chunk (k := 0) (i := 9) kmX11_sumUp_0_e1 (by decide +kernel)
theorem dX11_sumUp_12 : decode cX11_sumUp 12 = .ok (.if_icmp .ge 101, 3) := rd_chunk (k := 0) (i := 12) kmX11_sumUp_0_e1 (by decide +kernel)
theorem dX11_sumUp_15 : decode cX11_sumUp 15 = .ok (.aload_n 0, 1) := rd_chunk (k := 0) (i := 15) kmX11_sumUp_0_e1 (by decide +kernel)
theorem dX11_sumUp_16 : decode cX11_sumUp 16 = .ok (.getfield 26, 3) := rd_chunk (k := 0) (i := 16) kmX11_sumUp_0_e1 (by decide +kernel)
theorem dX11_sumUp_19 : decode cX11_sumUp 19 = .ok (.getfield 172, 3) := rd_chunk (k := 0) (i := 19) kmX11_sumUp_0_e1 (by decide +kernel)
theorem dX11_sumUp_22 : decode cX11_sumUp 22 = .ok (.ifCond .le 91, 3) := rd_chunk (k := 0) (i := 22) kmX11_sumUp_0_e1 (by decide +kernel)
theorem dX11_sumUp_25 : decode cX11_sumUp 25 = .ok (.aload_n 0, 1) := rd_chunk (k := 0) (i := 25) kmX11_sumUp_0_e1 (by decide +kernel)
theorem dX11_sumUp_26 : decode cX11_sumUp 26 = .ok (.iload_n 3, 1) := rd_chunk (k := 0) (i := 26) kmX11_sumUp_0_e1 (by decide +kernel)
theorem dX11_sumUp_27 : decode cX11_sumUp 27 = .ok (.invokevirtual 111, 3) := rd_chunk (k := 0) (i := 27) kmX11_sumUp_0_e1 (by decide +kernel)
theorem dX11_sumUp_30 : decode cX11_sumUp 30 = .ok (.astore 4, 2) := rd_chunk (k := 0) (i := 30) kmX11_sumUp_0_e1 (by decide +kernel)
theorem dX11_sumUp_32 : decode cX11_sumUp 32 = .ok (.aload 4, 2) := rd_chunk (k := 0) (i := 32) kmX11_sumUp_0_e1 (by decide +kernel)
theorem dX11_sumUp_34 : decode cX11_sumUp 34 = .ok (.ifnonnull 6, 3) := rd_chunk (k := 0) (i := 34) kmX11_sumUp_0_e1 (by decide +kernel)
theorem dX11_sumUp_37 : decode cX11_sumUp 37 = .ok (.goto 70, 3) := rd_chunk (k := 0) (i := 37) kmX11_sumUp_0_e1 (by decide +kernel)
theorem dX11_sumUp_40 : decode cX11_sumUp 40 = .ok (.aload 4, 2) := rd_chunk (k := 0) (i := 40) kmX11_sumUp_0_e1 (by decide +kernel)
theorem dX11_sumUp_42 : decode cX11_sumUp 42 = .ok (.getfield 263, 3) := rd_chunk (k := 0) (i := 42) kmX11_sumUp_0_e1 (by decide +kernel)
theorem dX11_sumUp_45 : decode cX11_sumUp 45 = .ok (.aload 4, 2) := rd_chunk (k := 0) (i := 45) kmX11_sumUp_0_e1 (by decide +kernel)
theorem dX11_sumUp_47 : decode cX11_sumUp 47 = .ok (.getfield 213, 3) := rd_chunk (k := 0) (i := 47) kmX11_sumUp_0_e1 (by decide +kernel)
theorem dX11_sumUp_50 : decode cX11_sumUp 50 = .ok (.aload 4, 2) := rd_chunk (k := 0) (i := 50) kmX11_sumUp_0_e1 (by decide +kernel)
theorem dX11_sumUp_52 : decode cX11_sumUp 52 = .ok (.getfield 196, 3) := rd_chunk (k := 0) (i := 52) kmX11_sumUp_0_e1 (by decide +kernel)
theorem dX11_sumUp_55 : decode cX11_sumUp 55 = .ok (.iload_n 1, 1) := rd_chunk (k := 0) (i := 55) kmX11_sumUp_0_e1 (by decide +kernel)
theorem dX11_sumUp_56 : decode cX11_sumUp 56 = .ok (.invokevirtual 267, 3) := rd_chunk (k := 0) (i := 56) kmX11_sumUp_0_e1 (by decide +kernel)
theorem dX11_sumUp_59 : decode cX11_sumUp 59 = .ok (.aload 4, 2) := rd_chunk (k := 0) (i := 59) kmX11_sumUp_0_e1 (by decide +kernel)
theorem dX11_sumUp_61 : decode cX11_sumUp 61 = .ok (.getfield 263, 3) := rd_chunk (k := 0) (i := 61) kmX11_sumUp_0_e1 (by decide +kernel)
abbrev mX11_sumUp_64_e1 : ByteArray := .mk #[0xb6, 0x01, 0x10, 0x37, 0x05, 0x16, 0x05, 0x14, 0x01, 0x14, 0x94, 0x99, 0x00, 0x20, 0x2c, 0x03, 0x5c, 0x2e, 0x04, 0x60, 0x4f, 0x2c, 0x04, 0x5c, 0x2e, 0x16, 0x05, 0xb8, 0x01, 0x24, 0x60, 0x4f, 0x2c, 0x05, 0x5c, 0x2e, 0x16, 0x05, 0xb8, 0x01, 0x16, 0x60, 0x4f, 0x84, 0x03, 0x01, 0xa7, 0xff, 0x99, 0xb1]
theorem kmX11_sumUp_64_e1 : CK cX11_sumUp 64 mX11_sumUp_64_e1 := ck_of (by decide +kernel)
theorem dX11_sumUp_64 : decode cX11_sumUp 64 = .ok (.invokevirtual 272, 3) := rd_chunk (k := 64) (i := 0) kmX11_sumUp_64_e1 (by decide +kernel)
theorem dX11_sumUp_67 : decode cX11_sumUp 67 = .ok (.lstore 5, 2) := rd_chunk (k := 64) (i := 3) kmX11_sumUp_64_e1 (by decide +kernel)
theorem dX11_sumUp_69 : decode cX11_sumUp 69 = .ok (.lload 5, 2) := rd_chunk (k := 64) (i := 5) kmX11_sumUp_64_e1 (by decide +kernel)
theorem dX11_sumUp_71 : decode cX11_sumUp 71 = .ok (.ldc2_w 276, 3) := rd_chunk (k := 64) (i := 7) kmX11_sumUp_64_e1 (by decide +kernel)
theorem dX11_sumUp_74 : decode cX11_sumUp 74 = .ok (.lcmp, 1) := rd_chunk (k := 64) (i := 10) kmX11_sumUp_64_e1 (by decide +kernel)
theorem dX11_sumUp_75 : decode cX11_sumUp 75 = .ok (.ifCond .eq 32, 3) := rd_chunk (k := 64) (i := 11) kmX11_sumUp_64_e1 (by decide +kernel)
theorem dX11_sumUp_78 : decode cX11_sumUp 78 = .ok (.aload_n 2, 1) := rd_chunk (k := 64) (i := 14) kmX11_sumUp_64_e1 (by decide +kernel)
theorem dX11_sumUp_79 : decode cX11_sumUp 79 = .ok (.iconst 0, 1) := rd_chunk (k := 64) (i := 15) kmX11_sumUp_64_e1 (by decide +kernel)
theorem dX11_sumUp_80 : decode cX11_sumUp 80 = .ok (.dup2, 1) := rd_chunk (k := 64) (i := 16) kmX11_sumUp_64_e1 (by decide +kernel)
theorem dX11_sumUp_81 : decode cX11_sumUp 81 = .ok (.iaload, 1) := rd_chunk (k := 64) (i := 17) kmX11_sumUp_64_e1 (by decide +kernel)
theorem dX11_sumUp_82 : decode cX11_sumUp 82 = .ok (.iconst 1, 1) := rd_chunk (k := 64) (i := 18) kmX11_sumUp_64_e1 (by decide +kernel)
theorem dX11_sumUp_83 : decode cX11_sumUp 83 = .ok (.iadd, 1) := rd_chunk (k := 64) (i := 19) kmX11_sumUp_64_e1 (by decide +kernel)
theorem dX11_sumUp_84 : decode cX11_sumUp 84 = .ok (.iastore, 1) := rd_chunk (k := 64) (i := 20) kmX11_sumUp_64_e1 (by decide +kernel)
theorem dX11_sumUp_85 : decode cX11_sumUp 85 = .ok (.aload_n 2, 1) := rd_chunk (k := 64) (i := 21) kmX11_sumUp_64_e1 (by decide +kernel)
theorem dX11_sumUp_86 : decode cX11_sumUp 86 = .ok (.iconst 1, 1) := rd_chunk (k := 64) (i := 22) kmX11_sumUp_64_e1 (by decide +kernel)
theorem dX11_sumUp_87 : decode cX11_sumUp 87 = .ok (.dup2, 1) := rd_chunk (k := 64) (i := 23) kmX11_sumUp_64_e1 (by decide +kernel)
theorem dX11_sumUp_88 : decode cX11_sumUp 88 = .ok (.iaload, 1) := rd_chunk (k := 64) (i := 24) kmX11_sumUp_64_e1 (by decide +kernel)
theorem dX11_sumUp_89 : decode cX11_sumUp 89 = .ok (.lload 5, 2) := rd_chunk (k := 64) (i := 25) kmX11_sumUp_64_e1 (by decide +kernel)
theorem dX11_sumUp_91 : decode cX11_sumUp 91 = .ok (.invokestatic 292, 3) := rd_chunk (k := 64) (i := 27) kmX11_sumUp_64_e1 (by decide +kernel)
theorem dX11_sumUp_94 : decode cX11_sumUp 94 = .ok (.iadd, 1) := rd_chunk (k := 64) (i := 30) kmX11_sumUp_64_e1 (by decide +kernel)
theorem dX11_sumUp_95 : decode cX11_sumUp 95 = .ok (.iastore, 1) := rd_chunk (k := 64) (i := 31) kmX11_sumUp_64_e1 (by decide +kernel)
theorem dX11_sumUp_96 : decode cX11_sumUp 96 = .ok (.aload_n 2, 1) := rd_chunk (k := 64) (i := 32) kmX11_sumUp_64_e1 (by decide +kernel)
theorem dX11_sumUp_97 : decode cX11_sumUp 97 = .ok (.iconst 2, 1) := rd_chunk (k := 64) (i := 33) kmX11_sumUp_64_e1 (by decide +kernel)
theorem dX11_sumUp_98 : decode cX11_sumUp 98 = .ok (.dup2, 1) := rd_chunk (k := 64) (i := 34) kmX11_sumUp_64_e1 (by decide +kernel)
theorem dX11_sumUp_99 : decode cX11_sumUp 99 = .ok (.iaload, 1) := rd_chunk (k := 64) (i := 35) kmX11_sumUp_64_e1 (by decide +kernel)
theorem dX11_sumUp_100 : decode cX11_sumUp 100 = .ok (.lload 5, 2) := rd_chunk (k := 64) (i := 36) kmX11_sumUp_64_e1 (by decide +kernel)
theorem dX11_sumUp_102 : decode cX11_sumUp 102 = .ok (.invokestatic 278, 3) := rd_chunk (k := 64) (i := 38) kmX11_sumUp_64_e1 (by decide +kernel)
theorem dX11_sumUp_105 : decode cX11_sumUp 105 = .ok (.iadd, 1) := rd_chunk (k := 64) (i := 41) kmX11_sumUp_64_e1 (by decide +kernel)
theorem dX11_sumUp_106 : decode cX11_sumUp 106 = .ok (.iastore, 1) := rd_chunk (k := 64) (i := 42) kmX11_sumUp_64_e1 (by decide +kernel)
theorem dX11_sumUp_107 : decode cX11_sumUp 107 = .ok (.iinc 3 1, 3) := rd_chunk (k := 64) (i := 43) kmX11_sumUp_64_e1 (by decide +kernel)
theorem dX11_sumUp_110 : decode cX11_sumUp 110 = .ok (.goto (-103), 3) := rd_chunk (k := 64) (i := 46) kmX11_sumUp_64_e1 (by decide +kernel)
theorem dX11_sumUp_113 : decode cX11_sumUp 113 = .ok (.return_, 1) := rd_chunk (k := 64) (i := 49) kmX11_sumUp_64_e1 (by decide +kernel)
theorem dX11_weighAlone_0 : decode cX11_weighAlone 0 = .ok (.iconst 0, 1) := by decide +kernel
theorem dX11_weighAlone_1 : decode cX11_weighAlone 1 = .ok (.istore_n 2, 1) := by decide +kernel
theorem dX11_weighAlone_2 : decode cX11_weighAlone 2 = .ok (.iload_n 2, 1) := by decide +kernel
theorem dX11_weighAlone_3 : decode cX11_weighAlone 3 = .ok (.aload_n 0, 1) := by decide +kernel
theorem dX11_weighAlone_4 : decode cX11_weighAlone 4 = .ok (.getfield 36, 3) := by decide +kernel
theorem dX11_weighAlone_7 : decode cX11_weighAlone 7 = .ok (.if_icmp .ge 50, 3) := by decide +kernel
theorem dX11_weighAlone_10 : decode cX11_weighAlone 10 = .ok (.aload_n 0, 1) := by decide +kernel
theorem dX11_weighAlone_11 : decode cX11_weighAlone 11 = .ok (.iload_n 2, 1) := by decide +kernel
theorem dX11_weighAlone_12 : decode cX11_weighAlone 12 = .ok (.invokevirtual 111, 3) := by decide +kernel
theorem dX11_weighAlone_15 : decode cX11_weighAlone 15 = .ok (.astore_n 3, 1) := by decide +kernel
theorem dX11_weighAlone_16 : decode cX11_weighAlone 16 = .ok (.aload_n 3, 1) := by decide +kernel
theorem dX11_weighAlone_17 : decode cX11_weighAlone 17 = .ok (.ifnull 34, 3) := by decide +kernel
theorem dX11_weighAlone_20 : decode cX11_weighAlone 20 = .ok (.aload_n 3, 1) := by decide +kernel
theorem dX11_weighAlone_21 : decode cX11_weighAlone 21 = .ok (.getfield 263, 3) := by decide +kernel
theorem dX11_weighAlone_24 : decode cX11_weighAlone 24 = .ok (.aload_n 3, 1) := by decide +kernel
theorem dX11_weighAlone_25 : decode cX11_weighAlone 25 = .ok (.getfield 213, 3) := by decide +kernel
theorem dX11_weighAlone_28 : decode cX11_weighAlone 28 = .ok (.aload_n 3, 1) := by decide +kernel
theorem dX11_weighAlone_29 : decode cX11_weighAlone 29 = .ok (.getfield 196, 3) := by decide +kernel
theorem dX11_weighAlone_32 : decode cX11_weighAlone 32 = .ok (.iconst (-1), 1) := by decide +kernel
theorem dX11_weighAlone_33 : decode cX11_weighAlone 33 = .ok (.invokevirtual 267, 3) := by decide +kernel
theorem dX11_weighAlone_36 : decode cX11_weighAlone 36 = .ok (.aload_n 3, 1) := by decide +kernel
theorem dX11_weighAlone_37 : decode cX11_weighAlone 37 = .ok (.getfield 263, 3) := by decide +kernel
theorem dX11_weighAlone_40 : decode cX11_weighAlone 40 = .ok (.invokevirtual 445, 3) := by decide +kernel
theorem dX11_weighAlone_43 : decode cX11_weighAlone 43 = .ok (.aload_n 3, 1) := by decide +kernel
theorem dX11_weighAlone_44 : decode cX11_weighAlone 44 = .ok (.getfield 263, 3) := by decide +kernel
theorem dX11_weighAlone_47 : decode cX11_weighAlone 47 = .ok (.iload_n 1, 1) := by decide +kernel
theorem dX11_weighAlone_48 : decode cX11_weighAlone 48 = .ok (.invokevirtual 448, 3) := by decide +kernel
theorem dX11_weighAlone_51 : decode cX11_weighAlone 51 = .ok (.iinc 2 1, 3) := by decide +kernel
theorem dX11_weighAlone_54 : decode cX11_weighAlone 54 = .ok (.goto (-52), 3) := by decide +kernel
theorem dX11_weighAlone_57 : decode cX11_weighAlone 57 = .ok (.aload_n 0, 1) := by decide +kernel
theorem dX11_weighAlone_58 : decode cX11_weighAlone 58 = .ok (.iload_n 1, 1) := by decide +kernel
theorem dX11_weighAlone_59 : decode cX11_weighAlone 59 = .ok (.invokevirtual 451, 3) := by decide +kernel
theorem dX11_weighAlone_62 : decode cX11_weighAlone 62 = .ok (.return_, 1) := by decide +kernel
theorem dX11_weigh_0 : decode cX11_weigh 0 = .ok (.aload_n 0, 1) := by decide +kernel
theorem dX11_weigh_1 : decode cX11_weigh 1 = .ok (.getfield 77, 3) := by decide +kernel
theorem dX11_weigh_4 : decode cX11_weigh 4 = .ok (.iconst 0, 1) := by decide +kernel
theorem dX11_weigh_5 : decode cX11_weigh 5 = .ok (.invokestatic 118, 3) := by decide +kernel
theorem dX11_weigh_8 : decode cX11_weigh 8 = .ok (.aload_n 0, 1) := by decide +kernel
theorem dX11_weigh_9 : decode cX11_weigh 9 = .ok (.getfield 80, 3) := by decide +kernel
theorem dX11_weigh_12 : decode cX11_weigh 12 = .ok (.iconst 0, 1) := by decide +kernel
theorem dX11_weigh_13 : decode cX11_weigh 13 = .ok (.invokestatic 118, 3) := by decide +kernel
theorem dX11_weigh_16 : decode cX11_weigh 16 = .ok (.iconst 0, 1) := by decide +kernel
theorem dX11_weigh_17 : decode cX11_weigh 17 = .ok (.istore_n 2, 1) := by decide +kernel
theorem dX11_weigh_18 : decode cX11_weigh 18 = .ok (.iload_n 2, 1) := by decide +kernel
theorem dX11_weigh_19 : decode cX11_weigh 19 = .ok (.aload_n 0, 1) := by decide +kernel
theorem dX11_weigh_20 : decode cX11_weigh 20 = .ok (.getfield 36, 3) := by decide +kernel
theorem dX11_weigh_23 : decode cX11_weigh 23 = .ok (.if_icmp .ge 35, 3) := by decide +kernel
theorem dX11_weigh_26 : decode cX11_weigh 26 = .ok (.aload_n 0, 1) := by decide +kernel
theorem dX11_weigh_27 : decode cX11_weigh 27 = .ok (.iload_n 2, 1) := by decide +kernel
theorem dX11_weigh_28 : decode cX11_weigh 28 = .ok (.invokevirtual 111, 3) := by decide +kernel
theorem dX11_weigh_31 : decode cX11_weigh 31 = .ok (.astore_n 3, 1) := by decide +kernel
theorem dX11_weigh_32 : decode cX11_weigh 32 = .ok (.aload_n 3, 1) := by decide +kernel
theorem dX11_weigh_33 : decode cX11_weigh 33 = .ok (.ifnull 19, 3) := by decide +kernel
theorem dX11_weigh_36 : decode cX11_weigh 36 = .ok (.aload_n 3, 1) := by decide +kernel
theorem dX11_weigh_37 : decode cX11_weigh 37 = .ok (.getfield 263, 3) := by decide +kernel
theorem dX11_weigh_40 : decode cX11_weigh 40 = .ok (.iload_n 1, 1) := by decide +kernel
theorem dX11_weigh_41 : decode cX11_weigh 41 = .ok (.aload_n 0, 1) := by decide +kernel
theorem dX11_weigh_42 : decode cX11_weigh 42 = .ok (.getfield 77, 3) := by decide +kernel
theorem dX11_weigh_45 : decode cX11_weigh 45 = .ok (.aload_n 0, 1) := by decide +kernel
theorem dX11_weigh_46 : decode cX11_weigh 46 = .ok (.getfield 80, 3) := by decide +kernel
theorem dX11_weigh_49 : decode cX11_weigh 49 = .ok (.invokevirtual 454, 3) := by decide +kernel
theorem dX11_weigh_52 : decode cX11_weigh 52 = .ok (.iinc 2 1, 3) := by decide +kernel
theorem dX11_weigh_55 : decode cX11_weigh 55 = .ok (.goto (-37), 3) := by decide +kernel
theorem dX11_weigh_58 : decode cX11_weigh 58 = .ok (.return_, 1) := by decide +kernel
theorem dX11_mostPaid_0 : decode cX11_mostPaid 0 = .ok (.iconst 0, 1) := by decide +kernel
theorem dX11_mostPaid_1 : decode cX11_mostPaid 1 = .ok (.istore_n 1, 1) := by decide +kernel
theorem dX11_mostPaid_2 : decode cX11_mostPaid 2 = .ok (.iconst 1, 1) := by decide +kernel
theorem dX11_mostPaid_3 : decode cX11_mostPaid 3 = .ok (.istore_n 2, 1) := by decide +kernel
theorem dX11_mostPaid_4 : decode cX11_mostPaid 4 = .ok (.iload_n 2, 1) := by decide +kernel
theorem dX11_mostPaid_5 : decode cX11_mostPaid 5 = .ok (.bipush 20, 2) := by decide +kernel
theorem dX11_mostPaid_7 : decode cX11_mostPaid 7 = .ok (.if_icmp .gt 30, 3) := by decide +kernel
theorem dX11_mostPaid_10 : decode cX11_mostPaid 10 = .ok (.aload_n 0, 1) := by decide +kernel
theorem dX11_mostPaid_11 : decode cX11_mostPaid 11 = .ok (.getfield 77, 3) := by decide +kernel
theorem dX11_mostPaid_14 : decode cX11_mostPaid 14 = .ok (.iload_n 2, 1) := by decide +kernel
theorem dX11_mostPaid_15 : decode cX11_mostPaid 15 = .ok (.iaload, 1) := by decide +kernel
theorem dX11_mostPaid_16 : decode cX11_mostPaid 16 = .ok (.aload_n 0, 1) := by decide +kernel
theorem dX11_mostPaid_17 : decode cX11_mostPaid 17 = .ok (.getfield 77, 3) := by decide +kernel
theorem dX11_mostPaid_20 : decode cX11_mostPaid 20 = .ok (.iload_n 1, 1) := by decide +kernel
theorem dX11_mostPaid_21 : decode cX11_mostPaid 21 = .ok (.iaload, 1) := by decide +kernel
theorem dX11_mostPaid_22 : decode cX11_mostPaid 22 = .ok (.if_icmp .le 7, 3) := by decide +kernel
theorem dX11_mostPaid_25 : decode cX11_mostPaid 25 = .ok (.iload_n 2, 1) := by decide +kernel
theorem dX11_mostPaid_26 : decode cX11_mostPaid 26 = .ok (.goto 4, 3) := by decide +kernel
theorem dX11_mostPaid_29 : decode cX11_mostPaid 29 = .ok (.iload_n 1, 1) := by decide +kernel
theorem dX11_mostPaid_30 : decode cX11_mostPaid 30 = .ok (.istore_n 1, 1) := by decide +kernel
theorem dX11_mostPaid_31 : decode cX11_mostPaid 31 = .ok (.iinc 2 1, 3) := by decide +kernel
theorem dX11_mostPaid_34 : decode cX11_mostPaid 34 = .ok (.goto (-30), 3) := by decide +kernel
theorem dX11_mostPaid_37 : decode cX11_mostPaid 37 = .ok (.iload_n 1, 1) := by decide +kernel
theorem dX11_mostPaid_38 : decode cX11_mostPaid 38 = .ok (.ireturn, 1) := by decide +kernel
abbrev mX11_haggle_0_e1 : ByteArray := .mk #[0x03, 0x3c, 0x03, 0x3d, 0x1c, 0x2a, 0xb4, 0x00, 0x24, 0xa2, 0x00, 0x2a, 0x2a, 0x1c, 0xb6, 0x00, 0x6f, 0x4e, 0x2d, 0xc6, 0x00, 0x1a, 0x2d, 0xb4, 0x01, 0x07, 0x2d, 0xb4, 0x00, 0xd5, 0x2d, 0xb4, 0x00, 0xc4, 0x02, 0xb6, 0x01, 0x0b, 0x2d, 0xb4, 0x01, 0x07, 0xb6, 0x01, 0xbd, 0x84, 0x02, 0x01, 0xa7, 0xff, 0xd4, 0x03, 0x3d, 0x1c, 0x2a, 0xb4, 0x00, 0x1a, 0xb4, 0x00, 0xac, 0xa2, 0x00, 0x4c, 0x2a, 0x1c, 0xb6, 0x01, 0xca, 0x2a, 0x1c, 0xb6]
theorem kmX11_haggle_0_e1 : CK cX11_haggle 0 mX11_haggle_0_e1 := ck_of (by decide +kernel)
theorem dX11_haggle_0 : decode cX11_haggle 0 = .ok (.iconst 0, 1) := rd_chunk (k := 0) (i := 0) kmX11_haggle_0_e1 (by decide +kernel)
theorem dX11_haggle_1 : decode cX11_haggle 1 = .ok (.istore_n 1, 1) := rd_chunk (k := 0) (i := 1) kmX11_haggle_0_e1 (by decide +kernel)
theorem dX11_haggle_2 : decode cX11_haggle 2 = .ok (.iconst 0, 1) := rd_chunk (k := 0) (i := 2) kmX11_haggle_0_e1 (by decide +kernel)
theorem dX11_haggle_3 : decode cX11_haggle 3 = .ok (.istore_n 2, 1) := rd_chunk (k := 0) (i := 3) kmX11_haggle_0_e1 (by decide +kernel)
theorem dX11_haggle_4 : decode cX11_haggle 4 = .ok (.iload_n 2, 1) := rd_chunk (k := 0) (i := 4) kmX11_haggle_0_e1 (by decide +kernel)
theorem dX11_haggle_5 : decode cX11_haggle 5 = .ok (.aload_n 0, 1) := rd_chunk (k := 0) (i := 5) kmX11_haggle_0_e1 (by decide +kernel)
theorem dX11_haggle_6 : decode cX11_haggle 6 = .ok (.getfield 36, 3) := rd_chunk (k := 0) (i := 6) kmX11_haggle_0_e1 (by decide +kernel)
theorem dX11_haggle_9 : decode cX11_haggle 9 = .ok (.if_icmp .ge 42, 3) := rd_chunk (k := 0) (i := 9) kmX11_haggle_0_e1 (by decide +kernel)
theorem dX11_haggle_12 : decode cX11_haggle 12 = .ok (.aload_n 0, 1) := rd_chunk (k := 0) (i := 12) kmX11_haggle_0_e1 (by decide +kernel)
theorem dX11_haggle_13 : decode cX11_haggle 13 = .ok (.iload_n 2, 1) := rd_chunk (k := 0) (i := 13) kmX11_haggle_0_e1 (by decide +kernel)
theorem dX11_haggle_14 : decode cX11_haggle 14 = .ok (.invokevirtual 111, 3) := rd_chunk (k := 0) (i := 14) kmX11_haggle_0_e1 (by decide +kernel)
theorem dX11_haggle_17 : decode cX11_haggle 17 = .ok (.astore_n 3, 1) := rd_chunk (k := 0) (i := 17) kmX11_haggle_0_e1 (by decide +kernel)
theorem dX11_haggle_18 : decode cX11_haggle 18 = .ok (.aload_n 3, 1) := rd_chunk (k := 0) (i := 18) kmX11_haggle_0_e1 (by decide +kernel)
theorem dX11_haggle_19 : decode cX11_haggle 19 = .ok (.ifnull 26, 3) := rd_chunk (k := 0) (i := 19) kmX11_haggle_0_e1 (by decide +kernel)
theorem dX11_haggle_22 : decode cX11_haggle 22 = .ok (.aload_n 3, 1) := rd_chunk (k := 0) (i := 22) kmX11_haggle_0_e1 (by decide +kernel)
theorem dX11_haggle_23 : decode cX11_haggle 23 = .ok (.getfield 263, 3) := rd_chunk (k := 0) (i := 23) kmX11_haggle_0_e1 (by decide +kernel)
theorem dX11_haggle_26 : decode cX11_haggle 26 = .ok (.aload_n 3, 1) := rd_chunk (k := 0) (i := 26) kmX11_haggle_0_e1 (by decide +kernel)
theorem dX11_haggle_27 : decode cX11_haggle 27 = .ok (.getfield 213, 3) := rd_chunk (k := 0) (i := 27) kmX11_haggle_0_e1 (by decide +kernel)
theorem dX11_haggle_30 : decode cX11_haggle 30 = .ok (.aload_n 3, 1) := rd_chunk (k := 0) (i := 30) kmX11_haggle_0_e1 (by decide +kernel)
theorem dX11_haggle_31 : decode cX11_haggle 31 = .ok (.getfield 196, 3) := rd_chunk (k := 0) (i := 31) kmX11_haggle_0_e1 (by decide +kernel)
theorem dX11_haggle_34 : decode cX11_haggle 34 = .ok (.iconst (-1), 1) := rd_chunk (k := 0) (i := 34) kmX11_haggle_0_e1 (by decide +kernel)
theorem dX11_haggle_35 : decode cX11_haggle 35 = .ok (.invokevirtual 267, 3) := rd_chunk (k := 0) (i := 35) kmX11_haggle_0_e1 (by decide +kernel)
theorem dX11_haggle_38 : decode cX11_haggle 38 = .ok (.aload_n 3, 1) := rd_chunk (k := 0) (i := 38) kmX11_haggle_0_e1 (by decide +kernel)
theorem dX11_haggle_39 : decode cX11_haggle 39 = .ok (.getfield 263, 3) := rd_chunk (k := 0) (i := 39) kmX11_haggle_0_e1 (by decide +kernel)
theorem dX11_haggle_42 : decode cX11_haggle 42 = .ok (.invokevirtual 445, 3) := rd_chunk (k := 0) (i := 42) kmX11_haggle_0_e1 (by decide +kernel)
theorem dX11_haggle_45 : decode cX11_haggle 45 = .ok (.iinc 2 1, 3) := rd_chunk (k := 0) (i := 45) kmX11_haggle_0_e1 (by decide +kernel)
theorem dX11_haggle_48 : decode cX11_haggle 48 = .ok (.goto (-44), 3) := rd_chunk (k := 0) (i := 48) kmX11_haggle_0_e1 (by decide +kernel)
theorem dX11_haggle_51 : decode cX11_haggle 51 = .ok (.iconst 0, 1) := rd_chunk (k := 0) (i := 51) kmX11_haggle_0_e1 (by decide +kernel)
theorem dX11_haggle_52 : decode cX11_haggle 52 = .ok (.istore_n 2, 1) := rd_chunk (k := 0) (i := 52) kmX11_haggle_0_e1 (by decide +kernel)
theorem dX11_haggle_53 : decode cX11_haggle 53 = .ok (.iload_n 2, 1) := rd_chunk (k := 0) (i := 53) kmX11_haggle_0_e1 (by decide +kernel)
theorem dX11_haggle_54 : decode cX11_haggle 54 = .ok (.aload_n 0, 1) := rd_chunk (k := 0) (i := 54) kmX11_haggle_0_e1 (by decide +kernel)
theorem dX11_haggle_55 : decode cX11_haggle 55 = .ok (.getfield 26, 3) := rd_chunk (k := 0) (i := 55) kmX11_haggle_0_e1 (by decide +kernel)
theorem dX11_haggle_58 : decode cX11_haggle 58 = .ok (.getfield 172, 3) := rd_chunk (k := 0) (i := 58) kmX11_haggle_0_e1 (by decide +kernel)
theorem dX11_haggle_61 : decode cX11_haggle 61 = .ok (.if_icmp .ge 76, 3) := rd_chunk (k := 0) (i := 61) kmX11_haggle_0_e1 (by decide +kernel)
abbrev mX11_haggle_64_e1 : ByteArray := .mk #[0x2a, 0x1c, 0xb6, 0x01, 0xca, 0x2a, 0x1c, 0xb6, 0x01, 0xc3, 0x2a, 0xb6, 0x01, 0x5a, 0x3e, 0x2a, 0xb4, 0x00, 0x1a, 0xb4, 0x00, 0x9a, 0x1c, 0x2e, 0x36, 0x04, 0x15, 0x04, 0xb8, 0x01, 0x57, 0x99, 0x00, 0x24, 0x2a, 0xb4, 0x00, 0x4d, 0x1d, 0x2e, 0x2a, 0xb4, 0x00, 0x4d, 0x15, 0x04, 0x2e, 0xa4, 0x00, 0x14, 0x04, 0x3c, 0x2a, 0xb4, 0x00, 0x1a, 0xb4, 0x00, 0x9a, 0x1c, 0x1d, 0x4f, 0x2a, 0x1c, 0xb6, 0x01, 0xcd, 0x84, 0x02, 0x01, 0xa7, 0xff]
theorem kmX11_haggle_64_e1 : CK cX11_haggle 64 mX11_haggle_64_e1 := ck_of (by decide +kernel)
theorem dX11_haggle_64 : decode cX11_haggle 64 = .ok (.aload_n 0, 1) := rd_chunk (k := 64) (i := 0) kmX11_haggle_64_e1 (by decide +kernel)
theorem dX11_haggle_65 : decode cX11_haggle 65 = .ok (.iload_n 2, 1) := rd_chunk (k := 64) (i := 1) kmX11_haggle_64_e1 (by decide +kernel)
theorem dX11_haggle_66 : decode cX11_haggle 66 = .ok (.invokevirtual 458, 3) := rd_chunk (k := 64) (i := 2) kmX11_haggle_64_e1 (by decide +kernel)
theorem dX11_haggle_69 : decode cX11_haggle 69 = .ok (.aload_n 0, 1) := rd_chunk (k := 64) (i := 5) kmX11_haggle_64_e1 (by decide +kernel)
theorem dX11_haggle_70 : decode cX11_haggle 70 = .ok (.iload_n 2, 1) := rd_chunk (k := 64) (i := 6) kmX11_haggle_64_e1 (by decide +kernel)
theorem dX11_haggle_71 : decode cX11_haggle 71 = .ok (.invokevirtual 451, 3) := rd_chunk (k := 64) (i := 7) kmX11_haggle_64_e1 (by decide +kernel)
theorem dX11_haggle_74 : decode cX11_haggle 74 = .ok (.aload_n 0, 1) := rd_chunk (k := 64) (i := 10) kmX11_haggle_64_e1 (by decide +kernel)
theorem dX11_haggle_75 : decode cX11_haggle 75 = .ok (.invokevirtual 346, 3) := rd_chunk (k := 64) (i := 11) kmX11_haggle_64_e1 (by decide +kernel)
theorem dX11_haggle_78 : decode cX11_haggle 78 = .ok (.istore_n 3, 1) := rd_chunk (k := 64) (i := 14) kmX11_haggle_64_e1 (by decide +kernel)
theorem dX11_haggle_79 : decode cX11_haggle 79 = .ok (.aload_n 0, 1) := rd_chunk (k := 64) (i := 15) kmX11_haggle_64_e1 (by decide +kernel)
theorem dX11_haggle_80 : decode cX11_haggle 80 = .ok (.getfield 26, 3) := rd_chunk (k := 64) (i := 16) kmX11_haggle_64_e1 (by decide +kernel)
theorem dX11_haggle_83 : decode cX11_haggle 83 = .ok (.getfield 154, 3) := rd_chunk (k := 64) (i := 19) kmX11_haggle_64_e1 (by decide +kernel)
theorem dX11_haggle_86 : decode cX11_haggle 86 = .ok (.iload_n 2, 1) := rd_chunk (k := 64) (i := 22) kmX11_haggle_64_e1 (by decide +kernel)
theorem dX11_haggle_87 : decode cX11_haggle 87 = .ok (.iaload, 1) := rd_chunk (k := 64) (i := 23) kmX11_haggle_64_e1 (by decide +kernel)
theorem dX11_haggle_88 : decode cX11_haggle 88 = .ok (.istore 4, 2) := rd_chunk (k := 64) (i := 24) kmX11_haggle_64_e1 (by decide +kernel)
theorem dX11_haggle_90 : decode cX11_haggle 90 = .ok (.iload 4, 2) := rd_chunk (k := 64) (i := 26) kmX11_haggle_64_e1 (by decide +kernel)
theorem dX11_haggle_92 : decode cX11_haggle 92 = .ok (.invokestatic 343, 3) := rd_chunk (k := 64) (i := 28) kmX11_haggle_64_e1 (by decide +kernel)
theorem dX11_haggle_95 : decode cX11_haggle 95 = .ok (.ifCond .eq 36, 3) := rd_chunk (k := 64) (i := 31) kmX11_haggle_64_e1 (by decide +kernel)
theorem dX11_haggle_98 : decode cX11_haggle 98 = .ok (.aload_n 0, 1) := rd_chunk (k := 64) (i := 34) kmX11_haggle_64_e1 (by decide +kernel)
theorem dX11_haggle_99 : decode cX11_haggle 99 = .ok (.getfield 77, 3) := rd_chunk (k := 64) (i := 35) kmX11_haggle_64_e1 (by decide +kernel)
theorem dX11_haggle_102 : decode cX11_haggle 102 = .ok (.iload_n 3, 1) := rd_chunk (k := 64) (i := 38) kmX11_haggle_64_e1 (by decide +kernel)
theorem dX11_haggle_103 : decode cX11_haggle 103 = .ok (.iaload, 1) := rd_chunk (k := 64) (i := 39) kmX11_haggle_64_e1 (by decide +kernel)
theorem dX11_haggle_104 : decode cX11_haggle 104 = .ok (.aload_n 0, 1) := rd_chunk (k := 64) (i := 40) kmX11_haggle_64_e1 (by decide +kernel)
theorem dX11_haggle_105 : decode cX11_haggle 105 = .ok (.getfield 77, 3) := rd_chunk (k := 64) (i := 41) kmX11_haggle_64_e1 (by decide +kernel)
theorem dX11_haggle_108 : decode cX11_haggle 108 = .ok (.iload 4, 2) := rd_chunk (k := 64) (i := 44) kmX11_haggle_64_e1 (by decide +kernel)
theorem dX11_haggle_110 : decode cX11_haggle 110 = .ok (.iaload, 1) := rd_chunk (k := 64) (i := 46) kmX11_haggle_64_e1 (by decide +kernel)
theorem dX11_haggle_111 : decode cX11_haggle 111 = .ok (.if_icmp .le 20, 3) := rd_chunk (k := 64) (i := 47) kmX11_haggle_64_e1 (by decide +kernel)
theorem dX11_haggle_114 : decode cX11_haggle 114 = .ok (.iconst 1, 1) := rd_chunk (k := 64) (i := 50) kmX11_haggle_64_e1 (by decide +kernel)
theorem dX11_haggle_115 : decode cX11_haggle 115 = .ok (.istore_n 1, 1) := rd_chunk (k := 64) (i := 51) kmX11_haggle_64_e1 (by decide +kernel)
theorem dX11_haggle_116 : decode cX11_haggle 116 = .ok (.aload_n 0, 1) := rd_chunk (k := 64) (i := 52) kmX11_haggle_64_e1 (by decide +kernel)
theorem dX11_haggle_117 : decode cX11_haggle 117 = .ok (.getfield 26, 3) := rd_chunk (k := 64) (i := 53) kmX11_haggle_64_e1 (by decide +kernel)
theorem dX11_haggle_120 : decode cX11_haggle 120 = .ok (.getfield 154, 3) := rd_chunk (k := 64) (i := 56) kmX11_haggle_64_e1 (by decide +kernel)
theorem dX11_haggle_123 : decode cX11_haggle 123 = .ok (.iload_n 2, 1) := rd_chunk (k := 64) (i := 59) kmX11_haggle_64_e1 (by decide +kernel)
theorem dX11_haggle_124 : decode cX11_haggle 124 = .ok (.iload_n 3, 1) := rd_chunk (k := 64) (i := 60) kmX11_haggle_64_e1 (by decide +kernel)
theorem dX11_haggle_125 : decode cX11_haggle 125 = .ok (.iastore, 1) := rd_chunk (k := 64) (i := 61) kmX11_haggle_64_e1 (by decide +kernel)
theorem dX11_haggle_126 : decode cX11_haggle 126 = .ok (.aload_n 0, 1) := rd_chunk (k := 64) (i := 62) kmX11_haggle_64_e1 (by decide +kernel)
theorem dX11_haggle_127 : decode cX11_haggle 127 = .ok (.iload_n 2, 1) := rd_chunk (k := 64) (i := 63) kmX11_haggle_64_e1 (by decide +kernel)
abbrev mX11_haggle_128_e1 : ByteArray := .mk #[0xb6, 0x01, 0xcd, 0x84, 0x02, 0x01, 0xa7, 0xff, 0xaf, 0x1b, 0xac]
theorem kmX11_haggle_128_e1 : CK cX11_haggle 128 mX11_haggle_128_e1 := ck_of (by decide +kernel)
theorem dX11_haggle_128 : decode cX11_haggle 128 = .ok (.invokevirtual 461, 3) := rd_chunk (k := 128) (i := 0) kmX11_haggle_128_e1 (by decide +kernel)
theorem dX11_haggle_131 : decode cX11_haggle 131 = .ok (.iinc 2 1, 3) := rd_chunk (k := 128) (i := 3) kmX11_haggle_128_e1 (by decide +kernel)
theorem dX11_haggle_134 : decode cX11_haggle 134 = .ok (.goto (-81), 3) := rd_chunk (k := 128) (i := 6) kmX11_haggle_128_e1 (by decide +kernel)
theorem dX11_haggle_137 : decode cX11_haggle 137 = .ok (.iload_n 1, 1) := rd_chunk (k := 128) (i := 9) kmX11_haggle_128_e1 (by decide +kernel)
theorem dX11_haggle_138 : decode cX11_haggle 138 = .ok (.ireturn, 1) := rd_chunk (k := 128) (i := 10) kmX11_haggle_128_e1 (by decide +kernel)
theorem dX11_climbAllTo_0 : decode cX11_climbAllTo 0 = .ok (.iconst 0, 1) := by decide +kernel
theorem dX11_climbAllTo_1 : decode cX11_climbAllTo 1 = .ok (.istore_n 2, 1) := by decide +kernel
theorem dX11_climbAllTo_2 : decode cX11_climbAllTo 2 = .ok (.iload_n 2, 1) := by decide +kernel
theorem dX11_climbAllTo_3 : decode cX11_climbAllTo 3 = .ok (.aload_n 0, 1) := by decide +kernel
theorem dX11_climbAllTo_4 : decode cX11_climbAllTo 4 = .ok (.getfield 36, 3) := by decide +kernel
theorem dX11_climbAllTo_7 : decode cX11_climbAllTo 7 = .ok (.if_icmp .ge 27, 3) := by decide +kernel
theorem dX11_climbAllTo_10 : decode cX11_climbAllTo 10 = .ok (.aload_n 0, 1) := by decide +kernel
theorem dX11_climbAllTo_11 : decode cX11_climbAllTo 11 = .ok (.iload_n 2, 1) := by decide +kernel
theorem dX11_climbAllTo_12 : decode cX11_climbAllTo 12 = .ok (.invokevirtual 111, 3) := by decide +kernel
theorem dX11_climbAllTo_15 : decode cX11_climbAllTo 15 = .ok (.astore_n 3, 1) := by decide +kernel
theorem dX11_climbAllTo_16 : decode cX11_climbAllTo 16 = .ok (.aload_n 3, 1) := by decide +kernel
theorem dX11_climbAllTo_17 : decode cX11_climbAllTo 17 = .ok (.ifnull 11, 3) := by decide +kernel
theorem dX11_climbAllTo_20 : decode cX11_climbAllTo 20 = .ok (.aload_n 3, 1) := by decide +kernel
theorem dX11_climbAllTo_21 : decode cX11_climbAllTo 21 = .ok (.getfield 263, 3) := by decide +kernel
theorem dX11_climbAllTo_24 : decode cX11_climbAllTo 24 = .ok (.iload_n 1, 1) := by decide +kernel
theorem dX11_climbAllTo_25 : decode cX11_climbAllTo 25 = .ok (.invokevirtual 464, 3) := by decide +kernel
theorem dX11_climbAllTo_28 : decode cX11_climbAllTo 28 = .ok (.iinc 2 1, 3) := by decide +kernel
theorem dX11_climbAllTo_31 : decode cX11_climbAllTo 31 = .ok (.goto (-29), 3) := by decide +kernel
theorem dX11_climbAllTo_34 : decode cX11_climbAllTo 34 = .ok (.return_, 1) := by decide +kernel
theorem dX11_measureAllAt_0 : decode cX11_measureAllAt 0 = .ok (.iconst 0, 1) := by decide +kernel
theorem dX11_measureAllAt_1 : decode cX11_measureAllAt 1 = .ok (.istore_n 2, 1) := by decide +kernel
theorem dX11_measureAllAt_2 : decode cX11_measureAllAt 2 = .ok (.iload_n 2, 1) := by decide +kernel
theorem dX11_measureAllAt_3 : decode cX11_measureAllAt 3 = .ok (.aload_n 0, 1) := by decide +kernel
theorem dX11_measureAllAt_4 : decode cX11_measureAllAt 4 = .ok (.getfield 36, 3) := by decide +kernel
theorem dX11_measureAllAt_7 : decode cX11_measureAllAt 7 = .ok (.if_icmp .ge 32, 3) := by decide +kernel
theorem dX11_measureAllAt_10 : decode cX11_measureAllAt 10 = .ok (.aload_n 0, 1) := by decide +kernel
theorem dX11_measureAllAt_11 : decode cX11_measureAllAt 11 = .ok (.iload_n 2, 1) := by decide +kernel
theorem dX11_measureAllAt_12 : decode cX11_measureAllAt 12 = .ok (.invokevirtual 111, 3) := by decide +kernel
theorem dX11_measureAllAt_15 : decode cX11_measureAllAt 15 = .ok (.astore_n 3, 1) := by decide +kernel
theorem dX11_measureAllAt_16 : decode cX11_measureAllAt 16 = .ok (.aload_n 3, 1) := by decide +kernel
theorem dX11_measureAllAt_17 : decode cX11_measureAllAt 17 = .ok (.ifnull 16, 3) := by decide +kernel
theorem dX11_measureAllAt_20 : decode cX11_measureAllAt 20 = .ok (.aload_n 3, 1) := by decide +kernel
theorem dX11_measureAllAt_21 : decode cX11_measureAllAt 21 = .ok (.getfield 263, 3) := by decide +kernel
theorem dX11_measureAllAt_24 : decode cX11_measureAllAt 24 = .ok (.iload_n 1, 1) := by decide +kernel
theorem dX11_measureAllAt_25 : decode cX11_measureAllAt 25 = .ok (.iconst 1, 1) := by decide +kernel
theorem dX11_measureAllAt_26 : decode cX11_measureAllAt 26 = .ok (.iadd, 1) := by decide +kernel
theorem dX11_measureAllAt_27 : decode cX11_measureAllAt 27 = .ok (.iload_n 1, 1) := by decide +kernel
theorem dX11_measureAllAt_28 : decode cX11_measureAllAt 28 = .ok (.iconst 3, 1) := by decide +kernel
theorem dX11_measureAllAt_29 : decode cX11_measureAllAt 29 = .ok (.iadd, 1) := by decide +kernel
theorem dX11_measureAllAt_30 : decode cX11_measureAllAt 30 = .ok (.invokevirtual 467, 3) := by decide +kernel
theorem dX11_measureAllAt_33 : decode cX11_measureAllAt 33 = .ok (.iinc 2 1, 3) := by decide +kernel
theorem dX11_measureAllAt_36 : decode cX11_measureAllAt 36 = .ok (.goto (-34), 3) := by decide +kernel
theorem dX11_measureAllAt_39 : decode cX11_measureAllAt 39 = .ok (.return_, 1) := by decide +kernel
theorem dX11_hold_0 : decode cX11_hold 0 = .ok (.aload_n 0, 1) := by decide +kernel
theorem dX11_hold_1 : decode cX11_hold 1 = .ok (.getfield 67, 3) := by decide +kernel
theorem dX11_hold_4 : decode cX11_hold 4 = .ok (.aload_n 0, 1) := by decide +kernel
theorem dX11_hold_5 : decode cX11_hold 5 = .ok (.getfield 26, 3) := by decide +kernel
theorem dX11_hold_8 : decode cX11_hold 8 = .ok (.getfield 172, 3) := by decide +kernel
theorem dX11_hold_11 : decode cX11_hold 11 = .ok (.invokevirtual 470, 3) := by decide +kernel
theorem dX11_hold_14 : decode cX11_hold 14 = .ok (.iconst 0, 1) := by decide +kernel
theorem dX11_hold_15 : decode cX11_hold 15 = .ok (.istore_n 2, 1) := by decide +kernel
theorem dX11_hold_16 : decode cX11_hold 16 = .ok (.iload_n 2, 1) := by decide +kernel
theorem dX11_hold_17 : decode cX11_hold 17 = .ok (.aload_n 0, 1) := by decide +kernel
theorem dX11_hold_18 : decode cX11_hold 18 = .ok (.getfield 36, 3) := by decide +kernel
theorem dX11_hold_21 : decode cX11_hold 21 = .ok (.if_icmp .ge 66, 3) := by decide +kernel
theorem dX11_hold_24 : decode cX11_hold 24 = .ok (.aload_n 0, 1) := by decide +kernel
theorem dX11_hold_25 : decode cX11_hold 25 = .ok (.iload_n 2, 1) := by decide +kernel
theorem dX11_hold_26 : decode cX11_hold 26 = .ok (.invokevirtual 111, 3) := by decide +kernel
theorem dX11_hold_29 : decode cX11_hold 29 = .ok (.astore_n 3, 1) := by decide +kernel
theorem dX11_hold_30 : decode cX11_hold 30 = .ok (.aload_n 3, 1) := by decide +kernel
theorem dX11_hold_31 : decode cX11_hold 31 = .ok (.ifnonnull 6, 3) := by decide +kernel
theorem dX11_hold_34 : decode cX11_hold 34 = .ok (.goto 47, 3) := by decide +kernel
theorem dX11_hold_37 : decode cX11_hold 37 = .ok (.aload_n 3, 1) := by decide +kernel
theorem dX11_hold_38 : decode cX11_hold 38 = .ok (.getfield 263, 3) := by decide +kernel
theorem dX11_hold_41 : decode cX11_hold 41 = .ok (.aload_n 3, 1) := by decide +kernel
theorem dX11_hold_42 : decode cX11_hold 42 = .ok (.getfield 213, 3) := by decide +kernel
theorem dX11_hold_45 : decode cX11_hold 45 = .ok (.aload_n 3, 1) := by decide +kernel
theorem dX11_hold_46 : decode cX11_hold 46 = .ok (.getfield 196, 3) := by decide +kernel
theorem dX11_hold_49 : decode cX11_hold 49 = .ok (.iconst (-1), 1) := by decide +kernel
theorem dX11_hold_50 : decode cX11_hold 50 = .ok (.invokevirtual 267, 3) := by decide +kernel
theorem dX11_hold_53 : decode cX11_hold 53 = .ok (.aload_n 3, 1) := by decide +kernel
theorem dX11_hold_54 : decode cX11_hold 54 = .ok (.getfield 263, 3) := by decide +kernel
theorem dX11_hold_57 : decode cX11_hold 57 = .ok (.invokevirtual 272, 3) := by decide +kernel
theorem dX11_hold_60 : decode cX11_hold 60 = .ok (.lstore 4, 2) := by decide +kernel
theorem dX11_hold_62 : decode cX11_hold 62 = .ok (.lload 4, 2) := by decide +kernel
theorem dX11_hold_64 : decode cX11_hold 64 = .ok (.ldc2_w 276, 3) := by decide +kernel
theorem dX11_hold_67 : decode cX11_hold 67 = .ok (.lcmp, 1) := by decide +kernel
theorem dX11_hold_68 : decode cX11_hold 68 = .ok (.ifCond .eq 13, 3) := by decide +kernel
theorem dX11_hold_71 : decode cX11_hold 71 = .ok (.aload_n 0, 1) := by decide +kernel
theorem dX11_hold_72 : decode cX11_hold 72 = .ok (.getfield 67, 3) := by decide +kernel
theorem dX11_hold_75 : decode cX11_hold 75 = .ok (.iload_n 2, 1) := by decide +kernel
theorem dX11_hold_76 : decode cX11_hold 76 = .ok (.lload 4, 2) := by decide +kernel
theorem dX11_hold_78 : decode cX11_hold 78 = .ok (.invokevirtual 473, 3) := by decide +kernel
theorem dX11_hold_81 : decode cX11_hold 81 = .ok (.iinc 2 1, 3) := by decide +kernel
theorem dX11_hold_84 : decode cX11_hold 84 = .ok (.goto (-68), 3) := by decide +kernel
theorem dX11_hold_87 : decode cX11_hold 87 = .ok (.aload_n 0, 1) := by decide +kernel
theorem dX11_hold_88 : decode cX11_hold 88 = .ok (.getfield 67, 3) := by decide +kernel
theorem dX11_hold_91 : decode cX11_hold 91 = .ok (.iload_n 1, 1) := by decide +kernel
theorem dX11_hold_92 : decode cX11_hold 92 = .ok (.invokevirtual 477, 3) := by decide +kernel
theorem dX11_hold_95 : decode cX11_hold 95 = .ok (.return_, 1) := by decide +kernel
abbrev mX12_init_0_e1 : ByteArray := .mk #[0x2a, 0xb7, 0x00, 0x03, 0x2a, 0x10, 0x18, 0xbc, 0x0a, 0xb5, 0x00, 0x09, 0x2a, 0x10, 0x18, 0xbc, 0x0a, 0xb5, 0x00, 0x0d, 0x2a, 0x10, 0x18, 0xbc, 0x0a, 0xb5, 0x00, 0x10, 0x2a, 0x10, 0x18, 0xbc, 0x04, 0xb5, 0x00, 0x13, 0x2a, 0x11, 0x00, 0xc0, 0xbc, 0x0a, 0xb5, 0x00, 0x17, 0x2a, 0x10, 0x40, 0xbc, 0x04, 0xb5, 0x00, 0x1a, 0x2a, 0x10, 0x06, 0xbc, 0x0a, 0xb5, 0x00, 0x1d, 0x2a, 0x10, 0x06, 0xbc, 0x0a, 0xb5, 0x00, 0x20, 0x2a, 0x10, 0x06]
theorem kmX12_init_0_e1 : CK cX12_init 0 mX12_init_0_e1 := ck_of (by decide +kernel)
theorem dX12_init_0 : decode cX12_init 0 = .ok (.aload_n 0, 1) := rd_chunk (k := 0) (i := 0) kmX12_init_0_e1 (by decide +kernel)
theorem dX12_init_1 : decode cX12_init 1 = .ok (.invokespecial 3, 3) := rd_chunk (k := 0) (i := 1) kmX12_init_0_e1 (by decide +kernel)
theorem dX12_init_4 : decode cX12_init 4 = .ok (.aload_n 0, 1) := rd_chunk (k := 0) (i := 4) kmX12_init_0_e1 (by decide +kernel)
theorem dX12_init_5 : decode cX12_init 5 = .ok (.bipush 24, 2) := rd_chunk (k := 0) (i := 5) kmX12_init_0_e1 (by decide +kernel)
theorem dX12_init_7 : decode cX12_init 7 = .ok (.newarray .int, 2) := by decide +kernel
theorem dX12_init_9 : decode cX12_init 9 = .ok (.putfield 9, 3) := rd_chunk (k := 0) (i := 9) kmX12_init_0_e1 (by decide +kernel)
theorem dX12_init_12 : decode cX12_init 12 = .ok (.aload_n 0, 1) := rd_chunk (k := 0) (i := 12) kmX12_init_0_e1 (by decide +kernel)
theorem dX12_init_13 : decode cX12_init 13 = .ok (.bipush 24, 2) := rd_chunk (k := 0) (i := 13) kmX12_init_0_e1 (by decide +kernel)
theorem dX12_init_15 : decode cX12_init 15 = .ok (.newarray .int, 2) := by decide +kernel
theorem dX12_init_17 : decode cX12_init 17 = .ok (.putfield 13, 3) := rd_chunk (k := 0) (i := 17) kmX12_init_0_e1 (by decide +kernel)
theorem dX12_init_20 : decode cX12_init 20 = .ok (.aload_n 0, 1) := rd_chunk (k := 0) (i := 20) kmX12_init_0_e1 (by decide +kernel)
theorem dX12_init_21 : decode cX12_init 21 = .ok (.bipush 24, 2) := rd_chunk (k := 0) (i := 21) kmX12_init_0_e1 (by decide +kernel)
theorem dX12_init_23 : decode cX12_init 23 = .ok (.newarray .int, 2) := by decide +kernel
theorem dX12_init_25 : decode cX12_init 25 = .ok (.putfield 16, 3) := rd_chunk (k := 0) (i := 25) kmX12_init_0_e1 (by decide +kernel)
theorem dX12_init_28 : decode cX12_init 28 = .ok (.aload_n 0, 1) := rd_chunk (k := 0) (i := 28) kmX12_init_0_e1 (by decide +kernel)
theorem dX12_init_29 : decode cX12_init 29 = .ok (.bipush 24, 2) := rd_chunk (k := 0) (i := 29) kmX12_init_0_e1 (by decide +kernel)
theorem dX12_init_31 : decode cX12_init 31 = .ok (.newarray .boolean, 2) := by decide +kernel
theorem dX12_init_33 : decode cX12_init 33 = .ok (.putfield 19, 3) := rd_chunk (k := 0) (i := 33) kmX12_init_0_e1 (by decide +kernel)
theorem dX12_init_36 : decode cX12_init 36 = .ok (.aload_n 0, 1) := rd_chunk (k := 0) (i := 36) kmX12_init_0_e1 (by decide +kernel)
theorem dX12_init_37 : decode cX12_init 37 = .ok (.sipush 192, 3) := rd_chunk (k := 0) (i := 37) kmX12_init_0_e1 (by decide +kernel)
theorem dX12_init_40 : decode cX12_init 40 = .ok (.newarray .int, 2) := by decide +kernel
theorem dX12_init_42 : decode cX12_init 42 = .ok (.putfield 23, 3) := rd_chunk (k := 0) (i := 42) kmX12_init_0_e1 (by decide +kernel)
theorem dX12_init_45 : decode cX12_init 45 = .ok (.aload_n 0, 1) := rd_chunk (k := 0) (i := 45) kmX12_init_0_e1 (by decide +kernel)
theorem dX12_init_46 : decode cX12_init 46 = .ok (.bipush 64, 2) := rd_chunk (k := 0) (i := 46) kmX12_init_0_e1 (by decide +kernel)
theorem dX12_init_48 : decode cX12_init 48 = .ok (.newarray .boolean, 2) := by decide +kernel
theorem dX12_init_50 : decode cX12_init 50 = .ok (.putfield 26, 3) := rd_chunk (k := 0) (i := 50) kmX12_init_0_e1 (by decide +kernel)
theorem dX12_init_53 : decode cX12_init 53 = .ok (.aload_n 0, 1) := rd_chunk (k := 0) (i := 53) kmX12_init_0_e1 (by decide +kernel)
theorem dX12_init_54 : decode cX12_init 54 = .ok (.bipush 6, 2) := rd_chunk (k := 0) (i := 54) kmX12_init_0_e1 (by decide +kernel)
theorem dX12_init_56 : decode cX12_init 56 = .ok (.newarray .int, 2) := by decide +kernel
theorem dX12_init_58 : decode cX12_init 58 = .ok (.putfield 29, 3) := rd_chunk (k := 0) (i := 58) kmX12_init_0_e1 (by decide +kernel)
theorem dX12_init_61 : decode cX12_init 61 = .ok (.aload_n 0, 1) := rd_chunk (k := 0) (i := 61) kmX12_init_0_e1 (by decide +kernel)
theorem dX12_init_62 : decode cX12_init 62 = .ok (.bipush 6, 2) := rd_chunk (k := 0) (i := 62) kmX12_init_0_e1 (by decide +kernel)
theorem dX12_init_64 : decode cX12_init 64 = .ok (.newarray .int, 2) := by decide +kernel
abbrev mX12_init_64_e1 : ByteArray := .mk #[0xbc, 0x0a, 0xb5, 0x00, 0x20, 0x2a, 0x10, 0x06, 0xbc, 0x0a, 0xb5, 0x00, 0x23, 0x2a, 0x10, 0x06, 0xbc, 0x0a, 0xb5, 0x00, 0x26, 0x2a, 0x10, 0x06, 0xbc, 0x0a, 0xb5, 0x00, 0x29, 0x2a, 0x10, 0x06, 0xbc, 0x0a, 0xb5, 0x00, 0x2c, 0x2a, 0x10, 0x06, 0xbc, 0x0a, 0xb5, 0x00, 0x2f, 0x2a, 0x10, 0x06, 0xbc, 0x0a, 0xb5, 0x00, 0x32, 0x2a, 0x10, 0x08, 0xbc, 0x0a, 0xb5, 0x00, 0x35, 0x2a, 0x10, 0x50, 0xbc, 0x08, 0xb5, 0x00, 0x38, 0x2a, 0x10, 0x28]
theorem kmX12_init_64_e1 : CK cX12_init 64 mX12_init_64_e1 := ck_of (by decide +kernel)
theorem dX12_init_66 : decode cX12_init 66 = .ok (.putfield 32, 3) := rd_chunk (k := 64) (i := 2) kmX12_init_64_e1 (by decide +kernel)
theorem dX12_init_69 : decode cX12_init 69 = .ok (.aload_n 0, 1) := rd_chunk (k := 64) (i := 5) kmX12_init_64_e1 (by decide +kernel)
theorem dX12_init_70 : decode cX12_init 70 = .ok (.bipush 6, 2) := rd_chunk (k := 64) (i := 6) kmX12_init_64_e1 (by decide +kernel)
theorem dX12_init_72 : decode cX12_init 72 = .ok (.newarray .int, 2) := by decide +kernel
theorem dX12_init_74 : decode cX12_init 74 = .ok (.putfield 35, 3) := rd_chunk (k := 64) (i := 10) kmX12_init_64_e1 (by decide +kernel)
theorem dX12_init_77 : decode cX12_init 77 = .ok (.aload_n 0, 1) := rd_chunk (k := 64) (i := 13) kmX12_init_64_e1 (by decide +kernel)
theorem dX12_init_78 : decode cX12_init 78 = .ok (.bipush 6, 2) := rd_chunk (k := 64) (i := 14) kmX12_init_64_e1 (by decide +kernel)
theorem dX12_init_80 : decode cX12_init 80 = .ok (.newarray .int, 2) := by decide +kernel
theorem dX12_init_82 : decode cX12_init 82 = .ok (.putfield 38, 3) := rd_chunk (k := 64) (i := 18) kmX12_init_64_e1 (by decide +kernel)
theorem dX12_init_85 : decode cX12_init 85 = .ok (.aload_n 0, 1) := rd_chunk (k := 64) (i := 21) kmX12_init_64_e1 (by decide +kernel)
theorem dX12_init_86 : decode cX12_init 86 = .ok (.bipush 6, 2) := rd_chunk (k := 64) (i := 22) kmX12_init_64_e1 (by decide +kernel)
theorem dX12_init_88 : decode cX12_init 88 = .ok (.newarray .int, 2) := by decide +kernel
theorem dX12_init_90 : decode cX12_init 90 = .ok (.putfield 41, 3) := rd_chunk (k := 64) (i := 26) kmX12_init_64_e1 (by decide +kernel)
theorem dX12_init_93 : decode cX12_init 93 = .ok (.aload_n 0, 1) := rd_chunk (k := 64) (i := 29) kmX12_init_64_e1 (by decide +kernel)
theorem dX12_init_94 : decode cX12_init 94 = .ok (.bipush 6, 2) := rd_chunk (k := 64) (i := 30) kmX12_init_64_e1 (by decide +kernel)
theorem dX12_init_96 : decode cX12_init 96 = .ok (.newarray .int, 2) := by decide +kernel
theorem dX12_init_98 : decode cX12_init 98 = .ok (.putfield 44, 3) := rd_chunk (k := 64) (i := 34) kmX12_init_64_e1 (by decide +kernel)
theorem dX12_init_101 : decode cX12_init 101 = .ok (.aload_n 0, 1) := rd_chunk (k := 64) (i := 37) kmX12_init_64_e1 (by decide +kernel)
theorem dX12_init_102 : decode cX12_init 102 = .ok (.bipush 6, 2) := rd_chunk (k := 64) (i := 38) kmX12_init_64_e1 (by decide +kernel)
theorem dX12_init_104 : decode cX12_init 104 = .ok (.newarray .int, 2) := by decide +kernel
theorem dX12_init_106 : decode cX12_init 106 = .ok (.putfield 47, 3) := rd_chunk (k := 64) (i := 42) kmX12_init_64_e1 (by decide +kernel)
theorem dX12_init_109 : decode cX12_init 109 = .ok (.aload_n 0, 1) := rd_chunk (k := 64) (i := 45) kmX12_init_64_e1 (by decide +kernel)
theorem dX12_init_110 : decode cX12_init 110 = .ok (.bipush 6, 2) := rd_chunk (k := 64) (i := 46) kmX12_init_64_e1 (by decide +kernel)
theorem dX12_init_112 : decode cX12_init 112 = .ok (.newarray .int, 2) := by decide +kernel
theorem dX12_init_114 : decode cX12_init 114 = .ok (.putfield 50, 3) := rd_chunk (k := 64) (i := 50) kmX12_init_64_e1 (by decide +kernel)
theorem dX12_init_117 : decode cX12_init 117 = .ok (.aload_n 0, 1) := rd_chunk (k := 64) (i := 53) kmX12_init_64_e1 (by decide +kernel)
theorem dX12_init_118 : decode cX12_init 118 = .ok (.bipush 8, 2) := rd_chunk (k := 64) (i := 54) kmX12_init_64_e1 (by decide +kernel)
theorem dX12_init_120 : decode cX12_init 120 = .ok (.newarray .int, 2) := by decide +kernel
theorem dX12_init_122 : decode cX12_init 122 = .ok (.putfield 53, 3) := rd_chunk (k := 64) (i := 58) kmX12_init_64_e1 (by decide +kernel)
theorem dX12_init_125 : decode cX12_init 125 = .ok (.aload_n 0, 1) := rd_chunk (k := 64) (i := 61) kmX12_init_64_e1 (by decide +kernel)
theorem dX12_init_126 : decode cX12_init 126 = .ok (.bipush 80, 2) := rd_chunk (k := 64) (i := 62) kmX12_init_64_e1 (by decide +kernel)
theorem dX12_init_128 : decode cX12_init 128 = .ok (.newarray .byte, 2) := by decide +kernel
abbrev mX12_init_128_e1 : ByteArray := .mk #[0xbc, 0x08, 0xb5, 0x00, 0x38, 0x2a, 0x10, 0x28, 0xbc, 0x0b, 0xb5, 0x00, 0x3c, 0x2a, 0x10, 0x78, 0xbc, 0x0a, 0xb5, 0x00, 0x40, 0x2a, 0x05, 0x10, 0x28, 0xc5, 0x00, 0x43, 0x02, 0xb5, 0x00, 0x45, 0x2a, 0x05, 0xbc, 0x0a, 0xb5, 0x00, 0x48, 0x2a, 0x02, 0xb5, 0x00, 0x4b, 0x2a, 0x10, 0x08, 0xbc, 0x0a, 0xb5, 0x00, 0x4f, 0x2a, 0x10, 0x08, 0xbc, 0x0b, 0xb5, 0x00, 0x52, 0x2a, 0x10, 0x4b, 0xbc, 0x0a, 0xb5, 0x00, 0x55, 0x2a, 0x10, 0x4b, 0xbc]
theorem kmX12_init_128_e1 : CK cX12_init 128 mX12_init_128_e1 := ck_of (by decide +kernel)
theorem dX12_init_130 : decode cX12_init 130 = .ok (.putfield 56, 3) := rd_chunk (k := 128) (i := 2) kmX12_init_128_e1 (by decide +kernel)
theorem dX12_init_133 : decode cX12_init 133 = .ok (.aload_n 0, 1) := rd_chunk (k := 128) (i := 5) kmX12_init_128_e1 (by decide +kernel)
theorem dX12_init_134 : decode cX12_init 134 = .ok (.bipush 40, 2) := rd_chunk (k := 128) (i := 6) kmX12_init_128_e1 (by decide +kernel)
theorem dX12_init_136 : decode cX12_init 136 = .ok (.newarray .long, 2) := by decide +kernel
theorem dX12_init_138 : decode cX12_init 138 = .ok (.putfield 60, 3) := rd_chunk (k := 128) (i := 10) kmX12_init_128_e1 (by decide +kernel)
theorem dX12_init_141 : decode cX12_init 141 = .ok (.aload_n 0, 1) := rd_chunk (k := 128) (i := 13) kmX12_init_128_e1 (by decide +kernel)
theorem dX12_init_142 : decode cX12_init 142 = .ok (.bipush 120, 2) := rd_chunk (k := 128) (i := 14) kmX12_init_128_e1 (by decide +kernel)
theorem dX12_init_144 : decode cX12_init 144 = .ok (.newarray .int, 2) := by decide +kernel
theorem dX12_init_146 : decode cX12_init 146 = .ok (.putfield 64, 3) := rd_chunk (k := 128) (i := 18) kmX12_init_128_e1 (by decide +kernel)
theorem dX12_init_149 : decode cX12_init 149 = .ok (.aload_n 0, 1) := rd_chunk (k := 128) (i := 21) kmX12_init_128_e1 (by decide +kernel)
theorem dX12_init_150 : decode cX12_init 150 = .ok (.iconst 2, 1) := rd_chunk (k := 128) (i := 22) kmX12_init_128_e1 (by decide +kernel)
theorem dX12_init_151 : decode cX12_init 151 = .ok (.bipush 40, 2) := rd_chunk (k := 128) (i := 23) kmX12_init_128_e1 (by decide +kernel)
theorem dX12_init_153 : decode cX12_init 153 = .ok (.multianewarray 67 2, 4) := by decide +kernel
theorem dX12_init_157 : decode cX12_init 157 = .ok (.putfield 69, 3) := rd_chunk (k := 128) (i := 29) kmX12_init_128_e1 (by decide +kernel)
theorem dX12_init_160 : decode cX12_init 160 = .ok (.aload_n 0, 1) := rd_chunk (k := 128) (i := 32) kmX12_init_128_e1 (by decide +kernel)
theorem dX12_init_161 : decode cX12_init 161 = .ok (.iconst 2, 1) := rd_chunk (k := 128) (i := 33) kmX12_init_128_e1 (by decide +kernel)
theorem dX12_init_162 : decode cX12_init 162 = .ok (.newarray .int, 2) := by decide +kernel
theorem dX12_init_164 : decode cX12_init 164 = .ok (.putfield 72, 3) := rd_chunk (k := 128) (i := 36) kmX12_init_128_e1 (by decide +kernel)
theorem dX12_init_167 : decode cX12_init 167 = .ok (.aload_n 0, 1) := rd_chunk (k := 128) (i := 39) kmX12_init_128_e1 (by decide +kernel)
theorem dX12_init_168 : decode cX12_init 168 = .ok (.iconst (-1), 1) := rd_chunk (k := 128) (i := 40) kmX12_init_128_e1 (by decide +kernel)
theorem dX12_init_169 : decode cX12_init 169 = .ok (.putfield 75, 3) := rd_chunk (k := 128) (i := 41) kmX12_init_128_e1 (by decide +kernel)
theorem dX12_init_172 : decode cX12_init 172 = .ok (.aload_n 0, 1) := rd_chunk (k := 128) (i := 44) kmX12_init_128_e1 (by decide +kernel)
theorem dX12_init_173 : decode cX12_init 173 = .ok (.bipush 8, 2) := rd_chunk (k := 128) (i := 45) kmX12_init_128_e1 (by decide +kernel)
theorem dX12_init_175 : decode cX12_init 175 = .ok (.newarray .int, 2) := by decide +kernel
theorem dX12_init_177 : decode cX12_init 177 = .ok (.putfield 79, 3) := rd_chunk (k := 128) (i := 49) kmX12_init_128_e1 (by decide +kernel)
theorem dX12_init_180 : decode cX12_init 180 = .ok (.aload_n 0, 1) := rd_chunk (k := 128) (i := 52) kmX12_init_128_e1 (by decide +kernel)
theorem dX12_init_181 : decode cX12_init 181 = .ok (.bipush 8, 2) := rd_chunk (k := 128) (i := 53) kmX12_init_128_e1 (by decide +kernel)
theorem dX12_init_183 : decode cX12_init 183 = .ok (.newarray .long, 2) := by decide +kernel
theorem dX12_init_185 : decode cX12_init 185 = .ok (.putfield 82, 3) := rd_chunk (k := 128) (i := 57) kmX12_init_128_e1 (by decide +kernel)
theorem dX12_init_188 : decode cX12_init 188 = .ok (.aload_n 0, 1) := rd_chunk (k := 128) (i := 60) kmX12_init_128_e1 (by decide +kernel)
theorem dX12_init_189 : decode cX12_init 189 = .ok (.bipush 75, 2) := rd_chunk (k := 128) (i := 61) kmX12_init_128_e1 (by decide +kernel)
theorem dX12_init_191 : decode cX12_init 191 = .ok (.newarray .int, 2) := by decide +kernel
abbrev mX12_init_192_e1 : ByteArray := .mk #[0x0a, 0xb5, 0x00, 0x55, 0x2a, 0x10, 0x4b, 0xbc, 0x0a, 0xb5, 0x00, 0x58, 0x2a, 0x02, 0xb5, 0x00, 0x5b, 0x2a, 0x11, 0x61, 0xa8, 0xbc, 0x0a, 0xb5, 0x00, 0x5e, 0x2a, 0x10, 0x18, 0xbc, 0x0a, 0xb5, 0x00, 0x61, 0x2a, 0x12, 0x64, 0xbc, 0x0a, 0xb5, 0x00, 0x65, 0x2a, 0x11, 0x06, 0x00, 0xbc, 0x0a, 0xb5, 0x00, 0x68, 0x2a, 0x11, 0x00, 0xc0, 0xbc, 0x0a, 0xb5, 0x00, 0x6b, 0x2a, 0x11, 0x00, 0x90, 0xbc, 0x0a, 0xb5, 0x00, 0x6e, 0x2a, 0x10, 0x06]
theorem kmX12_init_192_e1 : CK cX12_init 192 mX12_init_192_e1 := ck_of (by decide +kernel)
theorem dX12_init_193 : decode cX12_init 193 = .ok (.putfield 85, 3) := rd_chunk (k := 192) (i := 1) kmX12_init_192_e1 (by decide +kernel)
theorem dX12_init_196 : decode cX12_init 196 = .ok (.aload_n 0, 1) := rd_chunk (k := 192) (i := 4) kmX12_init_192_e1 (by decide +kernel)
theorem dX12_init_197 : decode cX12_init 197 = .ok (.bipush 75, 2) := rd_chunk (k := 192) (i := 5) kmX12_init_192_e1 (by decide +kernel)
theorem dX12_init_199 : decode cX12_init 199 = .ok (.newarray .int, 2) := by decide +kernel
theorem dX12_init_201 : decode cX12_init 201 = .ok (.putfield 88, 3) := rd_chunk (k := 192) (i := 9) kmX12_init_192_e1 (by decide +kernel)
theorem dX12_init_204 : decode cX12_init 204 = .ok (.aload_n 0, 1) := rd_chunk (k := 192) (i := 12) kmX12_init_192_e1 (by decide +kernel)
theorem dX12_init_205 : decode cX12_init 205 = .ok (.iconst (-1), 1) := rd_chunk (k := 192) (i := 13) kmX12_init_192_e1 (by decide +kernel)
theorem dX12_init_206 : decode cX12_init 206 = .ok (.putfield 91, 3) := rd_chunk (k := 192) (i := 14) kmX12_init_192_e1 (by decide +kernel)
theorem dX12_init_209 : decode cX12_init 209 = .ok (.aload_n 0, 1) := rd_chunk (k := 192) (i := 17) kmX12_init_192_e1 (by decide +kernel)
theorem dX12_init_210 : decode cX12_init 210 = .ok (.sipush 25000, 3) := rd_chunk (k := 192) (i := 18) kmX12_init_192_e1 (by decide +kernel)
theorem dX12_init_213 : decode cX12_init 213 = .ok (.newarray .int, 2) := by decide +kernel
theorem dX12_init_215 : decode cX12_init 215 = .ok (.putfield 94, 3) := rd_chunk (k := 192) (i := 23) kmX12_init_192_e1 (by decide +kernel)
theorem dX12_init_218 : decode cX12_init 218 = .ok (.aload_n 0, 1) := rd_chunk (k := 192) (i := 26) kmX12_init_192_e1 (by decide +kernel)
theorem dX12_init_219 : decode cX12_init 219 = .ok (.bipush 24, 2) := rd_chunk (k := 192) (i := 27) kmX12_init_192_e1 (by decide +kernel)
theorem dX12_init_221 : decode cX12_init 221 = .ok (.newarray .int, 2) := by decide +kernel
theorem dX12_init_223 : decode cX12_init 223 = .ok (.putfield 97, 3) := rd_chunk (k := 192) (i := 31) kmX12_init_192_e1 (by decide +kernel)
theorem dX12_init_226 : decode cX12_init 226 = .ok (.aload_n 0, 1) := rd_chunk (k := 192) (i := 34) kmX12_init_192_e1 (by decide +kernel)
theorem dX12_init_227 : decode cX12_init 227 = .ok (.ldc 100, 2) := rd_chunk (k := 192) (i := 35) kmX12_init_192_e1 (by decide +kernel)
theorem dX12_init_229 : decode cX12_init 229 = .ok (.newarray .int, 2) := by decide +kernel
theorem dX12_init_231 : decode cX12_init 231 = .ok (.putfield 101, 3) := rd_chunk (k := 192) (i := 39) kmX12_init_192_e1 (by decide +kernel)
theorem dX12_init_234 : decode cX12_init 234 = .ok (.aload_n 0, 1) := rd_chunk (k := 192) (i := 42) kmX12_init_192_e1 (by decide +kernel)
theorem dX12_init_235 : decode cX12_init 235 = .ok (.sipush 1536, 3) := rd_chunk (k := 192) (i := 43) kmX12_init_192_e1 (by decide +kernel)
theorem dX12_init_238 : decode cX12_init 238 = .ok (.newarray .int, 2) := by decide +kernel
theorem dX12_init_240 : decode cX12_init 240 = .ok (.putfield 104, 3) := rd_chunk (k := 192) (i := 48) kmX12_init_192_e1 (by decide +kernel)
theorem dX12_init_243 : decode cX12_init 243 = .ok (.aload_n 0, 1) := rd_chunk (k := 192) (i := 51) kmX12_init_192_e1 (by decide +kernel)
theorem dX12_init_244 : decode cX12_init 244 = .ok (.sipush 192, 3) := rd_chunk (k := 192) (i := 52) kmX12_init_192_e1 (by decide +kernel)
theorem dX12_init_247 : decode cX12_init 247 = .ok (.newarray .int, 2) := by decide +kernel
theorem dX12_init_249 : decode cX12_init 249 = .ok (.putfield 107, 3) := rd_chunk (k := 192) (i := 57) kmX12_init_192_e1 (by decide +kernel)
theorem dX12_init_252 : decode cX12_init 252 = .ok (.aload_n 0, 1) := rd_chunk (k := 192) (i := 60) kmX12_init_192_e1 (by decide +kernel)
theorem dX12_init_253 : decode cX12_init 253 = .ok (.sipush 144, 3) := rd_chunk (k := 192) (i := 61) kmX12_init_192_e1 (by decide +kernel)
theorem dX12_init_256 : decode cX12_init 256 = .ok (.newarray .int, 2) := by decide +kernel
abbrev mX12_init_256_e1 : ByteArray := .mk #[0xbc, 0x0a, 0xb5, 0x00, 0x6e, 0x2a, 0x10, 0x06, 0xbc, 0x0a, 0xb5, 0x00, 0x71, 0x2a, 0x10, 0x06, 0xbc, 0x0a, 0xb5, 0x00, 0x74, 0x2a, 0x10, 0x06, 0xbc, 0x0a, 0xb5, 0x00, 0x77, 0x2a, 0x10, 0x18, 0xbc, 0x0a, 0xb5, 0x00, 0x7a, 0x2a, 0x10, 0x06, 0xbc, 0x0a, 0xb5, 0x00, 0x7d, 0x2a, 0x11, 0x02, 0x14, 0xbc, 0x0a, 0xb5, 0x00, 0x80, 0x2a, 0x05, 0xbc, 0x04, 0xb5, 0x00, 0x83, 0x2a, 0x05, 0xbc, 0x0a, 0xb5, 0x00, 0x86, 0x2a, 0x05, 0xbc, 0x0a]
theorem kmX12_init_256_e1 : CK cX12_init 256 mX12_init_256_e1 := ck_of (by decide +kernel)
theorem dX12_init_258 : decode cX12_init 258 = .ok (.putfield 110, 3) := rd_chunk (k := 256) (i := 2) kmX12_init_256_e1 (by decide +kernel)
theorem dX12_init_261 : decode cX12_init 261 = .ok (.aload_n 0, 1) := rd_chunk (k := 256) (i := 5) kmX12_init_256_e1 (by decide +kernel)
theorem dX12_init_262 : decode cX12_init 262 = .ok (.bipush 6, 2) := rd_chunk (k := 256) (i := 6) kmX12_init_256_e1 (by decide +kernel)
theorem dX12_init_264 : decode cX12_init 264 = .ok (.newarray .int, 2) := by decide +kernel
theorem dX12_init_266 : decode cX12_init 266 = .ok (.putfield 113, 3) := rd_chunk (k := 256) (i := 10) kmX12_init_256_e1 (by decide +kernel)
theorem dX12_init_269 : decode cX12_init 269 = .ok (.aload_n 0, 1) := rd_chunk (k := 256) (i := 13) kmX12_init_256_e1 (by decide +kernel)
theorem dX12_init_270 : decode cX12_init 270 = .ok (.bipush 6, 2) := rd_chunk (k := 256) (i := 14) kmX12_init_256_e1 (by decide +kernel)
theorem dX12_init_272 : decode cX12_init 272 = .ok (.newarray .int, 2) := by decide +kernel
theorem dX12_init_274 : decode cX12_init 274 = .ok (.putfield 116, 3) := rd_chunk (k := 256) (i := 18) kmX12_init_256_e1 (by decide +kernel)
theorem dX12_init_277 : decode cX12_init 277 = .ok (.aload_n 0, 1) := rd_chunk (k := 256) (i := 21) kmX12_init_256_e1 (by decide +kernel)
theorem dX12_init_278 : decode cX12_init 278 = .ok (.bipush 6, 2) := rd_chunk (k := 256) (i := 22) kmX12_init_256_e1 (by decide +kernel)
theorem dX12_init_280 : decode cX12_init 280 = .ok (.newarray .int, 2) := by decide +kernel
theorem dX12_init_282 : decode cX12_init 282 = .ok (.putfield 119, 3) := rd_chunk (k := 256) (i := 26) kmX12_init_256_e1 (by decide +kernel)
theorem dX12_init_285 : decode cX12_init 285 = .ok (.aload_n 0, 1) := rd_chunk (k := 256) (i := 29) kmX12_init_256_e1 (by decide +kernel)
theorem dX12_init_286 : decode cX12_init 286 = .ok (.bipush 24, 2) := rd_chunk (k := 256) (i := 30) kmX12_init_256_e1 (by decide +kernel)
theorem dX12_init_288 : decode cX12_init 288 = .ok (.newarray .int, 2) := by decide +kernel
theorem dX12_init_290 : decode cX12_init 290 = .ok (.putfield 122, 3) := rd_chunk (k := 256) (i := 34) kmX12_init_256_e1 (by decide +kernel)
theorem dX12_init_293 : decode cX12_init 293 = .ok (.aload_n 0, 1) := rd_chunk (k := 256) (i := 37) kmX12_init_256_e1 (by decide +kernel)
theorem dX12_init_294 : decode cX12_init 294 = .ok (.bipush 6, 2) := rd_chunk (k := 256) (i := 38) kmX12_init_256_e1 (by decide +kernel)
theorem dX12_init_296 : decode cX12_init 296 = .ok (.newarray .int, 2) := by decide +kernel
theorem dX12_init_298 : decode cX12_init 298 = .ok (.putfield 125, 3) := rd_chunk (k := 256) (i := 42) kmX12_init_256_e1 (by decide +kernel)
theorem dX12_init_301 : decode cX12_init 301 = .ok (.aload_n 0, 1) := rd_chunk (k := 256) (i := 45) kmX12_init_256_e1 (by decide +kernel)
theorem dX12_init_302 : decode cX12_init 302 = .ok (.sipush 532, 3) := rd_chunk (k := 256) (i := 46) kmX12_init_256_e1 (by decide +kernel)
theorem dX12_init_305 : decode cX12_init 305 = .ok (.newarray .int, 2) := by decide +kernel
theorem dX12_init_307 : decode cX12_init 307 = .ok (.putfield 128, 3) := rd_chunk (k := 256) (i := 51) kmX12_init_256_e1 (by decide +kernel)
theorem dX12_init_310 : decode cX12_init 310 = .ok (.aload_n 0, 1) := rd_chunk (k := 256) (i := 54) kmX12_init_256_e1 (by decide +kernel)
theorem dX12_init_311 : decode cX12_init 311 = .ok (.iconst 2, 1) := rd_chunk (k := 256) (i := 55) kmX12_init_256_e1 (by decide +kernel)
theorem dX12_init_312 : decode cX12_init 312 = .ok (.newarray .boolean, 2) := by decide +kernel
theorem dX12_init_314 : decode cX12_init 314 = .ok (.putfield 131, 3) := rd_chunk (k := 256) (i := 58) kmX12_init_256_e1 (by decide +kernel)
theorem dX12_init_317 : decode cX12_init 317 = .ok (.aload_n 0, 1) := rd_chunk (k := 256) (i := 61) kmX12_init_256_e1 (by decide +kernel)
theorem dX12_init_318 : decode cX12_init 318 = .ok (.iconst 2, 1) := rd_chunk (k := 256) (i := 62) kmX12_init_256_e1 (by decide +kernel)
theorem dX12_init_319 : decode cX12_init 319 = .ok (.newarray .int, 2) := by decide +kernel
abbrev mX12_init_320_e1 : ByteArray := .mk #[0x0a, 0xb5, 0x00, 0x86, 0x2a, 0x05, 0xbc, 0x0a, 0xb5, 0x00, 0x89, 0xb1]
theorem kmX12_init_320_e1 : CK cX12_init 320 mX12_init_320_e1 := ck_of (by decide +kernel)
theorem dX12_init_321 : decode cX12_init 321 = .ok (.putfield 134, 3) := rd_chunk (k := 320) (i := 1) kmX12_init_320_e1 (by decide +kernel)
theorem dX12_init_324 : decode cX12_init 324 = .ok (.aload_n 0, 1) := rd_chunk (k := 320) (i := 4) kmX12_init_320_e1 (by decide +kernel)
theorem dX12_init_325 : decode cX12_init 325 = .ok (.iconst 2, 1) := rd_chunk (k := 320) (i := 5) kmX12_init_320_e1 (by decide +kernel)
theorem dX12_init_326 : decode cX12_init 326 = .ok (.newarray .int, 2) := by decide +kernel
theorem dX12_init_328 : decode cX12_init 328 = .ok (.putfield 137, 3) := rd_chunk (k := 320) (i := 8) kmX12_init_320_e1 (by decide +kernel)
theorem dX12_init_331 : decode cX12_init 331 = .ok (.return_, 1) := rd_chunk (k := 320) (i := 11) kmX12_init_320_e1 (by decide +kernel)
theorem dX12_thrown_0 : decode cX12_thrown 0 = .ok (.aload_n 0, 1) := by decide +kernel
theorem dX12_thrown_1 : decode cX12_thrown 1 = .ok (.getfield 140, 3) := by decide +kernel
theorem dX12_thrown_4 : decode cX12_thrown 4 = .ok (.ireturn, 1) := by decide +kernel
theorem dX12_in_0 : decode cX12_in 0 = .ok (.iload_n 0, 1) := by decide +kernel
theorem dX12_in_1 : decode cX12_in 1 = .ok (.iload_n 1, 1) := by decide +kernel
theorem dX12_in_2 : decode cX12_in 2 = .ok (.if_icmp .lt 12, 3) := by decide +kernel
theorem dX12_in_5 : decode cX12_in 5 = .ok (.iload_n 0, 1) := by decide +kernel
theorem dX12_in_6 : decode cX12_in 6 = .ok (.iload_n 2, 1) := by decide +kernel
theorem dX12_in_7 : decode cX12_in 7 = .ok (.if_icmp .gt 7, 3) := by decide +kernel
theorem dX12_in_10 : decode cX12_in 10 = .ok (.iconst 1, 1) := by decide +kernel
theorem dX12_in_11 : decode cX12_in 11 = .ok (.goto 4, 3) := by decide +kernel
theorem dX12_in_14 : decode cX12_in 14 = .ok (.iconst 0, 1) := by decide +kernel
theorem dX12_in_15 : decode cX12_in 15 = .ok (.ireturn, 1) := by decide +kernel
theorem dX12_has_0 : decode cX12_has 0 = .ok (.iload_n 0, 1) := by decide +kernel
theorem dX12_has_1 : decode cX12_has 1 = .ok (.iload_n 1, 1) := by decide +kernel
theorem dX12_has_2 : decode cX12_has 2 = .ok (.ishr, 1) := by decide +kernel
theorem dX12_has_3 : decode cX12_has 3 = .ok (.iconst 1, 1) := by decide +kernel
theorem dX12_has_4 : decode cX12_has 4 = .ok (.iand, 1) := by decide +kernel
theorem dX12_has_5 : decode cX12_has 5 = .ok (.iconst 1, 1) := by decide +kernel
theorem dX12_has_6 : decode cX12_has 6 = .ok (.if_icmp .ne 7, 3) := by decide +kernel
theorem dX12_has_9 : decode cX12_has 9 = .ok (.iconst 1, 1) := by decide +kernel
theorem dX12_has_10 : decode cX12_has 10 = .ok (.goto 4, 3) := by decide +kernel
theorem dX12_has_13 : decode cX12_has 13 = .ok (.iconst 0, 1) := by decide +kernel
theorem dX12_has_14 : decode cX12_has 14 = .ok (.ireturn, 1) := by decide +kernel
theorem dX12_lost_0 : decode cX12_lost 0 = .ok (.aload_n 0, 1) := by decide +kernel
theorem dX12_lost_1 : decode cX12_lost 1 = .ok (.iconst 1, 1) := by decide +kernel
theorem dX12_lost_2 : decode cX12_lost 2 = .ok (.putfield 140, 3) := by decide +kernel
theorem dX12_lost_5 : decode cX12_lost 5 = .ok (.iconst 0, 1) := by decide +kernel
theorem dX12_lost_6 : decode cX12_lost 6 = .ok (.ireturn, 1) := by decide +kernel
theorem dX12_tell_0 : decode cX12_tell 0 = .ok (.aload_n 0, 1) := by decide +kernel
theorem dX12_tell_1 : decode cX12_tell 1 = .ok (.getfield 60, 3) := by decide +kernel
theorem dX12_tell_4 : decode cX12_tell 4 = .ok (.aload_n 0, 1) := by decide +kernel
theorem dX12_tell_5 : decode cX12_tell 5 = .ok (.getfield 143, 3) := by decide +kernel
theorem dX12_tell_8 : decode cX12_tell 8 = .ok (.lload_n 1, 1) := by decide +kernel
theorem dX12_tell_9 : decode cX12_tell 9 = .ok (.lastore, 1) := by decide +kernel
theorem dX12_tell_10 : decode cX12_tell 10 = .ok (.aload_n 0, 1) := by decide +kernel
theorem dX12_tell_11 : decode cX12_tell 11 = .ok (.dup, 1) := by decide +kernel
theorem dX12_tell_12 : decode cX12_tell 12 = .ok (.getfield 143, 3) := by decide +kernel
theorem dX12_tell_15 : decode cX12_tell 15 = .ok (.iconst 1, 1) := by decide +kernel
theorem dX12_tell_16 : decode cX12_tell 16 = .ok (.iadd, 1) := by decide +kernel
theorem dX12_tell_17 : decode cX12_tell 17 = .ok (.putfield 143, 3) := by decide +kernel
theorem dX12_tell_20 : decode cX12_tell 20 = .ok (.return_, 1) := by decide +kernel
theorem dX12_isStep_0 : decode cX12_isStep 0 = .ok (.iload_n 1, 1) := by decide +kernel
theorem dX12_isStep_1 : decode cX12_isStep 1 = .ok (.iconst 0, 1) := by decide +kernel
theorem dX12_isStep_2 : decode cX12_isStep 2 = .ok (.aload_n 0, 1) := by decide +kernel
theorem dX12_isStep_3 : decode cX12_isStep 3 = .ok (.getfield 146, 3) := by decide +kernel
theorem dX12_isStep_6 : decode cX12_isStep 6 = .ok (.iconst 1, 1) := by decide +kernel
theorem dX12_isStep_7 : decode cX12_isStep 7 = .ok (.isub, 1) := by decide +kernel
theorem dX12_isStep_8 : decode cX12_isStep 8 = .ok (.invokestatic 149, 3) := by decide +kernel
theorem dX12_isStep_11 : decode cX12_isStep 11 = .ok (.ireturn, 1) := by decide +kernel
theorem dX12_isFamily_0 : decode cX12_isFamily 0 = .ok (.iload_n 0, 1) := by decide +kernel
theorem dX12_isFamily_1 : decode cX12_isFamily 1 = .ok (.iconst 0, 1) := by decide +kernel
theorem dX12_isFamily_2 : decode cX12_isFamily 2 = .ok (.bipush 7, 2) := by decide +kernel
theorem dX12_isFamily_4 : decode cX12_isFamily 4 = .ok (.invokestatic 149, 3) := by decide +kernel
theorem dX12_isFamily_7 : decode cX12_isFamily 7 = .ok (.ireturn, 1) := by decide +kernel
theorem dX12_isOne_0 : decode cX12_isOne 0 = .ok (.iload_n 1, 1) := by decide +kernel
theorem dX12_isOne_1 : decode cX12_isOne 1 = .ok (.iconst 0, 1) := by decide +kernel
theorem dX12_isOne_2 : decode cX12_isOne 2 = .ok (.aload_n 0, 1) := by decide +kernel
theorem dX12_isOne_3 : decode cX12_isOne 3 = .ok (.getfield 153, 3) := by decide +kernel
theorem dX12_isOne_6 : decode cX12_isOne 6 = .ok (.iconst 1, 1) := by decide +kernel
theorem dX12_isOne_7 : decode cX12_isOne 7 = .ok (.isub, 1) := by decide +kernel
theorem dX12_isOne_8 : decode cX12_isOne 8 = .ok (.invokestatic 149, 3) := by decide +kernel
theorem dX12_isOne_11 : decode cX12_isOne 11 = .ok (.ireturn, 1) := by decide +kernel
theorem dX12_mainOf_0 : decode cX12_mainOf 0 = .ok (.iconst 0, 1) := by decide +kernel
theorem dX12_mainOf_1 : decode cX12_mainOf 1 = .ok (.istore_n 2, 1) := by decide +kernel
theorem dX12_mainOf_2 : decode cX12_mainOf 2 = .ok (.iconst 1, 1) := by decide +kernel
theorem dX12_mainOf_3 : decode cX12_mainOf 3 = .ok (.istore_n 3, 1) := by decide +kernel
theorem dX12_mainOf_4 : decode cX12_mainOf 4 = .ok (.iload_n 3, 1) := by decide +kernel
theorem dX12_mainOf_5 : decode cX12_mainOf 5 = .ok (.bipush 8, 2) := by decide +kernel
theorem dX12_mainOf_7 : decode cX12_mainOf 7 = .ok (.if_icmp .ge 36, 3) := by decide +kernel
theorem dX12_mainOf_10 : decode cX12_mainOf 10 = .ok (.aload_n 0, 1) := by decide +kernel
theorem dX12_mainOf_11 : decode cX12_mainOf 11 = .ok (.getfield 23, 3) := by decide +kernel
theorem dX12_mainOf_14 : decode cX12_mainOf 14 = .ok (.bipush 8, 2) := by decide +kernel
theorem dX12_mainOf_16 : decode cX12_mainOf 16 = .ok (.iload_n 1, 1) := by decide +kernel
theorem dX12_mainOf_17 : decode cX12_mainOf 17 = .ok (.imul, 1) := by decide +kernel
theorem dX12_mainOf_18 : decode cX12_mainOf 18 = .ok (.iload_n 3, 1) := by decide +kernel
theorem dX12_mainOf_19 : decode cX12_mainOf 19 = .ok (.iadd, 1) := by decide +kernel
theorem dX12_mainOf_20 : decode cX12_mainOf 20 = .ok (.iaload, 1) := by decide +kernel
theorem dX12_mainOf_21 : decode cX12_mainOf 21 = .ok (.aload_n 0, 1) := by decide +kernel
theorem dX12_mainOf_22 : decode cX12_mainOf 22 = .ok (.getfield 23, 3) := by decide +kernel
theorem dX12_mainOf_25 : decode cX12_mainOf 25 = .ok (.bipush 8, 2) := by decide +kernel
theorem dX12_mainOf_27 : decode cX12_mainOf 27 = .ok (.iload_n 1, 1) := by decide +kernel
theorem dX12_mainOf_28 : decode cX12_mainOf 28 = .ok (.imul, 1) := by decide +kernel
theorem dX12_mainOf_29 : decode cX12_mainOf 29 = .ok (.iload_n 2, 1) := by decide +kernel
theorem dX12_mainOf_30 : decode cX12_mainOf 30 = .ok (.iadd, 1) := by decide +kernel
theorem dX12_mainOf_31 : decode cX12_mainOf 31 = .ok (.iaload, 1) := by decide +kernel
theorem dX12_mainOf_32 : decode cX12_mainOf 32 = .ok (.if_icmp .le 5, 3) := by decide +kernel
theorem dX12_mainOf_35 : decode cX12_mainOf 35 = .ok (.iload_n 3, 1) := by decide +kernel
theorem dX12_mainOf_36 : decode cX12_mainOf 36 = .ok (.istore_n 2, 1) := by decide +kernel
theorem dX12_mainOf_37 : decode cX12_mainOf 37 = .ok (.iinc 3 1, 3) := by decide +kernel
theorem dX12_mainOf_40 : decode cX12_mainOf 40 = .ok (.goto (-36), 3) := by decide +kernel
theorem dX12_mainOf_43 : decode cX12_mainOf 43 = .ok (.iload_n 2, 1) := by decide +kernel
theorem dX12_mainOf_44 : decode cX12_mainOf 44 = .ok (.ireturn, 1) := by decide +kernel
theorem dX12_sign_0 : decode cX12_sign 0 = .ok (.aload_n 0, 1) := by decide +kernel
theorem dX12_sign_1 : decode cX12_sign 1 = .ok (.iconst 0, 1) := by decide +kernel
theorem dX12_sign_2 : decode cX12_sign 2 = .ok (.putfield 140, 3) := by decide +kernel
theorem dX12_sign_5 : decode cX12_sign 5 = .ok (.aload_n 0, 1) := by decide +kernel
theorem dX12_sign_6 : decode cX12_sign 6 = .ok (.getfield 156, 3) := by decide +kernel
theorem dX12_sign_9 : decode cX12_sign 9 = .ok (.iconst 4, 1) := by decide +kernel
theorem dX12_sign_10 : decode cX12_sign 10 = .ok (.iadd, 1) := by decide +kernel
theorem dX12_sign_11 : decode cX12_sign 11 = .ok (.bipush 80, 2) := by decide +kernel
theorem dX12_sign_13 : decode cX12_sign 13 = .ok (.if_icmp .le 5, 3) := by decide +kernel
theorem dX12_sign_16 : decode cX12_sign 16 = .ok (.iconst (-1), 1) := by decide +kernel
theorem dX12_sign_17 : decode cX12_sign 17 = .ok (.ireturn, 1) := by decide +kernel
theorem dX12_sign_18 : decode cX12_sign 18 = .ok (.iconst 3, 1) := by decide +kernel
theorem dX12_sign_19 : decode cX12_sign 19 = .ok (.istore_n 2, 1) := by decide +kernel
theorem dX12_sign_20 : decode cX12_sign 20 = .ok (.iload_n 2, 1) := by decide +kernel
theorem dX12_sign_21 : decode cX12_sign 21 = .ok (.ifCond .lt 32, 3) := by decide +kernel
theorem dX12_sign_24 : decode cX12_sign 24 = .ok (.aload_n 0, 1) := by decide +kernel
theorem dX12_sign_25 : decode cX12_sign 25 = .ok (.getfield 56, 3) := by decide +kernel
theorem dX12_sign_28 : decode cX12_sign 28 = .ok (.aload_n 0, 1) := by decide +kernel
theorem dX12_sign_29 : decode cX12_sign 29 = .ok (.dup, 1) := by decide +kernel
theorem dX12_sign_30 : decode cX12_sign 30 = .ok (.getfield 156, 3) := by decide +kernel
theorem dX12_sign_33 : decode cX12_sign 33 = .ok (.dup_x1, 1) := by decide +kernel
theorem dX12_sign_34 : decode cX12_sign 34 = .ok (.iconst 1, 1) := by decide +kernel
theorem dX12_sign_35 : decode cX12_sign 35 = .ok (.iadd, 1) := by decide +kernel
theorem dX12_sign_36 : decode cX12_sign 36 = .ok (.putfield 156, 3) := by decide +kernel
theorem dX12_sign_39 : decode cX12_sign 39 = .ok (.iload_n 1, 1) := by decide +kernel
theorem dX12_sign_40 : decode cX12_sign 40 = .ok (.bipush 8, 2) := by decide +kernel
theorem dX12_sign_42 : decode cX12_sign 42 = .ok (.iload_n 2, 1) := by decide +kernel
theorem dX12_sign_43 : decode cX12_sign 43 = .ok (.imul, 1) := by decide +kernel
theorem dX12_sign_44 : decode cX12_sign 44 = .ok (.ishr, 1) := by decide +kernel
theorem dX12_sign_45 : decode cX12_sign 45 = .ok (.i2b, 1) := by decide +kernel
theorem dX12_sign_46 : decode cX12_sign 46 = .ok (.bastore, 1) := by decide +kernel
theorem dX12_sign_47 : decode cX12_sign 47 = .ok (.iinc 2 (-1), 3) := by decide +kernel
theorem dX12_sign_50 : decode cX12_sign 50 = .ok (.goto (-30), 3) := by decide +kernel
theorem dX12_sign_53 : decode cX12_sign 53 = .ok (.aload_n 0, 1) := by decide +kernel
theorem dX12_sign_54 : decode cX12_sign 54 = .ok (.getfield 156, 3) := by decide +kernel
theorem dX12_sign_57 : decode cX12_sign 57 = .ok (.ireturn, 1) := by decide +kernel
theorem dX12_end_0 : decode cX12_end 0 = .ok (.aload_n 0, 1) := by decide +kernel
theorem dX12_end_1 : decode cX12_end 1 = .ok (.iconst 0, 1) := by decide +kernel
theorem dX12_end_2 : decode cX12_end 2 = .ok (.putfield 140, 3) := by decide +kernel
theorem dX12_end_5 : decode cX12_end 5 = .ok (.iload_n 1, 1) := by decide +kernel
theorem dX12_end_6 : decode cX12_end 6 = .ok (.iconst 0, 1) := by decide +kernel
theorem dX12_end_7 : decode cX12_end 7 = .ok (.aload_n 0, 1) := by decide +kernel
theorem dX12_end_8 : decode cX12_end 8 = .ok (.getfield 156, 3) := by decide +kernel
theorem dX12_end_11 : decode cX12_end 11 = .ok (.invokestatic 149, 3) := by decide +kernel
theorem dX12_end_14 : decode cX12_end 14 = .ok (.ifCond .ne 5, 3) := by decide +kernel
theorem dX12_end_17 : decode cX12_end 17 = .ok (.iconst 0, 1) := by decide +kernel
theorem dX12_end_18 : decode cX12_end 18 = .ok (.ireturn, 1) := by decide +kernel
theorem dX12_end_19 : decode cX12_end 19 = .ok (.aload_n 0, 1) := by decide +kernel
theorem dX12_end_20 : decode cX12_end 20 = .ok (.iload_n 1, 1) := by decide +kernel
theorem dX12_end_21 : decode cX12_end 21 = .ok (.putfield 156, 3) := by decide +kernel
theorem dX12_end_24 : decode cX12_end 24 = .ok (.iconst 1, 1) := by decide +kernel
theorem dX12_end_25 : decode cX12_end 25 = .ok (.ireturn, 1) := by decide +kernel
theorem dX12_begin_0 : decode cX12_begin 0 = .ok (.aload_n 0, 1) := by decide +kernel
theorem dX12_begin_1 : decode cX12_begin 1 = .ok (.aload_n 1, 1) := by decide +kernel
theorem dX12_begin_2 : decode cX12_begin 2 = .ok (.putfield 159, 3) := by decide +kernel
theorem dX12_begin_5 : decode cX12_begin 5 = .ok (.aload_n 0, 1) := by decide +kernel
theorem dX12_begin_6 : decode cX12_begin 6 = .ok (.iload_n 2, 1) := by decide +kernel
theorem dX12_begin_7 : decode cX12_begin 7 = .ok (.putfield 162, 3) := by decide +kernel
theorem dX12_begin_10 : decode cX12_begin 10 = .ok (.aload_n 0, 1) := by decide +kernel
theorem dX12_begin_11 : decode cX12_begin 11 = .ok (.iload_n 3, 1) := by decide +kernel
theorem dX12_begin_12 : decode cX12_begin 12 = .ok (.putfield 165, 3) := by decide +kernel
theorem dX12_begin_15 : decode cX12_begin 15 = .ok (.aload_n 0, 1) := by decide +kernel
theorem dX12_begin_16 : decode cX12_begin 16 = .ok (.iconst 0, 1) := by decide +kernel
theorem dX12_begin_17 : decode cX12_begin 17 = .ok (.putfield 168, 3) := by decide +kernel
theorem dX12_begin_20 : decode cX12_begin 20 = .ok (.aload_n 0, 1) := by decide +kernel
theorem dX12_begin_21 : decode cX12_begin 21 = .ok (.iconst (-1), 1) := by decide +kernel
theorem dX12_begin_22 : decode cX12_begin 22 = .ok (.putfield 171, 3) := by decide +kernel
theorem dX12_begin_25 : decode cX12_begin 25 = .ok (.return_, 1) := by decide +kernel
theorem dX12_here_0 : decode cX12_here 0 = .ok (.aload_n 0, 1) := by decide +kernel
theorem dX12_here_1 : decode cX12_here 1 = .ok (.getfield 168, 3) := by decide +kernel
theorem dX12_here_4 : decode cX12_here 4 = .ok (.aload_n 0, 1) := by decide +kernel
theorem dX12_here_5 : decode cX12_here 5 = .ok (.getfield 162, 3) := by decide +kernel
theorem dX12_here_8 : decode cX12_here 8 = .ok (.if_icmp .ge 26, 3) := by decide +kernel
theorem dX12_here_11 : decode cX12_here 11 = .ok (.aload_n 0, 1) := by decide +kernel
theorem dX12_here_12 : decode cX12_here 12 = .ok (.getfield 168, 3) := by decide +kernel
theorem dX12_here_15 : decode cX12_here 15 = .ok (.aload_n 0, 1) := by decide +kernel
theorem dX12_here_16 : decode cX12_here 16 = .ok (.getfield 165, 3) := by decide +kernel
theorem dX12_here_19 : decode cX12_here 19 = .ok (.if_icmp .ge 15, 3) := by decide +kernel
theorem dX12_here_22 : decode cX12_here 22 = .ok (.aload_n 0, 1) := by decide +kernel
theorem dX12_here_23 : decode cX12_here 23 = .ok (.getfield 159, 3) := by decide +kernel
theorem dX12_here_26 : decode cX12_here 26 = .ok (.aload_n 0, 1) := by decide +kernel
theorem dX12_here_27 : decode cX12_here 27 = .ok (.getfield 168, 3) := by decide +kernel
theorem dX12_here_30 : decode cX12_here 30 = .ok (.baload, 1) := by decide +kernel
theorem dX12_here_31 : decode cX12_here 31 = .ok (.goto 4, 3) := by decide +kernel
theorem dX12_here_34 : decode cX12_here 34 = .ok (.iconst (-1), 1) := by decide +kernel
theorem dX12_here_35 : decode cX12_here 35 = .ok (.ireturn, 1) := by decide +kernel
theorem dX12_fine_0 : decode cX12_fine 0 = .ok (.aload_n 0, 1) := by decide +kernel
theorem dX12_fine_1 : decode cX12_fine 1 = .ok (.getfield 171, 3) := by decide +kernel
theorem dX12_fine_4 : decode cX12_fine 4 = .ok (.iconst (-1), 1) := by decide +kernel
theorem dX12_fine_5 : decode cX12_fine 5 = .ok (.if_icmp .ne 7, 3) := by decide +kernel
theorem dX12_fine_8 : decode cX12_fine 8 = .ok (.iconst 1, 1) := by decide +kernel
theorem dX12_fine_9 : decode cX12_fine 9 = .ok (.goto 4, 3) := by decide +kernel
theorem dX12_fine_12 : decode cX12_fine 12 = .ok (.iconst 0, 1) := by decide +kernel
theorem dX12_fine_13 : decode cX12_fine 13 = .ok (.ireturn, 1) := by decide +kernel
theorem dX12_fault_0 : decode cX12_fault 0 = .ok (.aload_n 0, 1) := by decide +kernel
theorem dX12_fault_1 : decode cX12_fault 1 = .ok (.invokevirtual 174, 3) := by decide +kernel
theorem dX12_fault_4 : decode cX12_fault 4 = .ok (.ifCond .eq 8, 3) := by decide +kernel
theorem dX12_fault_7 : decode cX12_fault 7 = .ok (.aload_n 0, 1) := by decide +kernel
theorem dX12_fault_8 : decode cX12_fault 8 = .ok (.iload_n 1, 1) := by decide +kernel
theorem dX12_fault_9 : decode cX12_fault 9 = .ok (.putfield 171, 3) := by decide +kernel
theorem dX12_fault_12 : decode cX12_fault 12 = .ok (.return_, 1) := by decide +kernel
theorem dX12_passes_0 : decode cX12_passes 0 = .ok (.aload_n 0, 1) := by decide +kernel
theorem dX12_passes_1 : decode cX12_passes 1 = .ok (.invokevirtual 174, 3) := by decide +kernel
theorem dX12_passes_4 : decode cX12_passes 4 = .ok (.ifCond .eq 11, 3) := by decide +kernel
theorem dX12_passes_7 : decode cX12_passes 7 = .ok (.aload_n 0, 1) := by decide +kernel
theorem dX12_passes_8 : decode cX12_passes 8 = .ok (.invokevirtual 178, 3) := by decide +kernel
theorem dX12_passes_11 : decode cX12_passes 11 = .ok (.iload_n 1, 1) := by decide +kernel
theorem dX12_passes_12 : decode cX12_passes 12 = .ok (.if_icmp .eq 5, 3) := by decide +kernel
theorem dX12_passes_15 : decode cX12_passes 15 = .ok (.iconst 0, 1) := by decide +kernel
theorem dX12_passes_16 : decode cX12_passes 16 = .ok (.ireturn, 1) := by decide +kernel
theorem dX12_passes_17 : decode cX12_passes 17 = .ok (.aload_n 0, 1) := by decide +kernel
theorem dX12_passes_18 : decode cX12_passes 18 = .ok (.dup, 1) := by decide +kernel
theorem dX12_passes_19 : decode cX12_passes 19 = .ok (.getfield 168, 3) := by decide +kernel
theorem dX12_passes_22 : decode cX12_passes 22 = .ok (.iconst 1, 1) := by decide +kernel
theorem dX12_passes_23 : decode cX12_passes 23 = .ok (.iadd, 1) := by decide +kernel
theorem dX12_passes_24 : decode cX12_passes 24 = .ok (.putfield 168, 3) := by decide +kernel
theorem dX12_passes_27 : decode cX12_passes 27 = .ok (.iconst 1, 1) := by decide +kernel
theorem dX12_passes_28 : decode cX12_passes 28 = .ok (.ireturn, 1) := by decide +kernel
theorem dX12_need_0 : decode cX12_need 0 = .ok (.aload_n 0, 1) := by decide +kernel
theorem dX12_need_1 : decode cX12_need 1 = .ok (.iload_n 1, 1) := by decide +kernel
theorem dX12_need_2 : decode cX12_need 2 = .ok (.invokevirtual 182, 3) := by decide +kernel
theorem dX12_need_5 : decode cX12_need 5 = .ok (.ifCond .ne 11, 3) := by decide +kernel
theorem dX12_need_8 : decode cX12_need 8 = .ok (.aload_n 0, 1) := by decide +kernel
theorem dX12_need_9 : decode cX12_need 9 = .ok (.aload_n 0, 1) := by decide +kernel
theorem dX12_need_10 : decode cX12_need 10 = .ok (.getfield 168, 3) := by decide +kernel
theorem dX12_need_13 : decode cX12_need 13 = .ok (.invokevirtual 186, 3) := by decide +kernel
theorem dX12_need_16 : decode cX12_need 16 = .ok (.return_, 1) := by decide +kernel
abbrev mX12_number_0_e1 : ByteArray := .mk #[0x2a, 0xb6, 0x00, 0xae, 0x9a, 0x00, 0x05, 0x03, 0xac, 0x2a, 0xb4, 0x00, 0xa8, 0x36, 0x04, 0x03, 0x36, 0x05, 0x2a, 0xb4, 0x00, 0xa8, 0x15, 0x04, 0x1b, 0x60, 0xa2, 0x00, 0x2d, 0x2a, 0xb6, 0x00, 0xb2, 0x10, 0x30, 0x10, 0x39, 0xb8, 0x00, 0x95, 0x99, 0x00, 0x1f, 0x10, 0x0a, 0x15, 0x05, 0x68, 0x2a, 0xb6, 0x00, 0xb2, 0x60, 0x10, 0x30, 0x64, 0x36, 0x05, 0x2a, 0x59, 0xb4, 0x00, 0xa8, 0x04, 0x60, 0xb5, 0x00, 0xa8, 0xa7, 0xff, 0xce, 0x2a]
theorem kmX12_number_0_e1 : CK cX12_number 0 mX12_number_0_e1 := ck_of (by decide +kernel)
theorem dX12_number_0 : decode cX12_number 0 = .ok (.aload_n 0, 1) := rd_chunk (k := 0) (i := 0) kmX12_number_0_e1 (by decide +kernel)
theorem dX12_number_1 : decode cX12_number 1 = .ok (.invokevirtual 174, 3) := rd_chunk (k := 0) (i := 1) kmX12_number_0_e1 (by decide +kernel)
theorem dX12_number_4 : decode cX12_number 4 = .ok (.ifCond .ne 5, 3) := rd_chunk (k := 0) (i := 4) kmX12_number_0_e1 (by decide +kernel)
theorem dX12_number_7 : decode cX12_number 7 = .ok (.iconst 0, 1) := rd_chunk (k := 0) (i := 7) kmX12_number_0_e1 (by decide +kernel)
theorem dX12_number_8 : decode cX12_number 8 = .ok (.ireturn, 1) := rd_chunk (k := 0) (i := 8) kmX12_number_0_e1 (by decide +kernel)
theorem dX12_number_9 : decode cX12_number 9 = .ok (.aload_n 0, 1) := rd_chunk (k := 0) (i := 9) kmX12_number_0_e1 (by decide +kernel)
theorem dX12_number_10 : decode cX12_number 10 = .ok (.getfield 168, 3) := rd_chunk (k := 0) (i := 10) kmX12_number_0_e1 (by decide +kernel)
theorem dX12_number_13 : decode cX12_number 13 = .ok (.istore 4, 2) := rd_chunk (k := 0) (i := 13) kmX12_number_0_e1 (by decide +kernel)
theorem dX12_number_15 : decode cX12_number 15 = .ok (.iconst 0, 1) := rd_chunk (k := 0) (i := 15) kmX12_number_0_e1 (by decide +kernel)
theorem dX12_number_16 : decode cX12_number 16 = .ok (.istore 5, 2) := rd_chunk (k := 0) (i := 16) kmX12_number_0_e1 (by decide +kernel)
theorem dX12_number_18 : decode cX12_number 18 = .ok (.aload_n 0, 1) := rd_chunk (k := 0) (i := 18) kmX12_number_0_e1 (by decide +kernel)
theorem dX12_number_19 : decode cX12_number 19 = .ok (.getfield 168, 3) := rd_chunk (k := 0) (i := 19) kmX12_number_0_e1 (by decide +kernel)
theorem dX12_number_22 : decode cX12_number 22 = .ok (.iload 4, 2) := rd_chunk (k := 0) (i := 22) kmX12_number_0_e1 (by decide +kernel)
theorem dX12_number_24 : decode cX12_number 24 = .ok (.iload_n 1, 1) := rd_chunk (k := 0) (i := 24) kmX12_number_0_e1 (by decide +kernel)
theorem dX12_number_25 : decode cX12_number 25 = .ok (.iadd, 1) := rd_chunk (k := 0) (i := 25) kmX12_number_0_e1 (by decide +kernel)
theorem dX12_number_26 : decode cX12_number 26 = .ok (.if_icmp .ge 45, 3) := rd_chunk (k := 0) (i := 26) kmX12_number_0_e1 (by decide +kernel)
theorem dX12_number_29 : decode cX12_number 29 = .ok (.aload_n 0, 1) := rd_chunk (k := 0) (i := 29) kmX12_number_0_e1 (by decide +kernel)
theorem dX12_number_30 : decode cX12_number 30 = .ok (.invokevirtual 178, 3) := rd_chunk (k := 0) (i := 30) kmX12_number_0_e1 (by decide +kernel)
theorem dX12_number_33 : decode cX12_number 33 = .ok (.bipush 48, 2) := rd_chunk (k := 0) (i := 33) kmX12_number_0_e1 (by decide +kernel)
theorem dX12_number_35 : decode cX12_number 35 = .ok (.bipush 57, 2) := rd_chunk (k := 0) (i := 35) kmX12_number_0_e1 (by decide +kernel)
theorem dX12_number_37 : decode cX12_number 37 = .ok (.invokestatic 149, 3) := rd_chunk (k := 0) (i := 37) kmX12_number_0_e1 (by decide +kernel)
theorem dX12_number_40 : decode cX12_number 40 = .ok (.ifCond .eq 31, 3) := rd_chunk (k := 0) (i := 40) kmX12_number_0_e1 (by decide +kernel)
theorem dX12_number_43 : decode cX12_number 43 = .ok (.bipush 10, 2) := rd_chunk (k := 0) (i := 43) kmX12_number_0_e1 (by decide +kernel)
theorem dX12_number_45 : decode cX12_number 45 = .ok (.iload 5, 2) := rd_chunk (k := 0) (i := 45) kmX12_number_0_e1 (by decide +kernel)
theorem dX12_number_47 : decode cX12_number 47 = .ok (.imul, 1) := rd_chunk (k := 0) (i := 47) kmX12_number_0_e1 (by decide +kernel)
theorem dX12_number_48 : decode cX12_number 48 = .ok (.aload_n 0, 1) := rd_chunk (k := 0) (i := 48) kmX12_number_0_e1 (by decide +kernel)
theorem dX12_number_49 : decode cX12_number 49 = .ok (.invokevirtual 178, 3) := rd_chunk (k := 0) (i := 49) kmX12_number_0_e1 (by decide +kernel)
theorem dX12_number_52 : decode cX12_number 52 = .ok (.iadd, 1) := rd_chunk (k := 0) (i := 52) kmX12_number_0_e1 (by decide +kernel)
theorem dX12_number_53 : decode cX12_number 53 = .ok (.bipush 48, 2) := rd_chunk (k := 0) (i := 53) kmX12_number_0_e1 (by decide +kernel)
theorem dX12_number_55 : decode cX12_number 55 = .ok (.isub, 1) := rd_chunk (k := 0) (i := 55) kmX12_number_0_e1 (by decide +kernel)
theorem dX12_number_56 : decode cX12_number 56 = .ok (.istore 5, 2) := rd_chunk (k := 0) (i := 56) kmX12_number_0_e1 (by decide +kernel)
theorem dX12_number_58 : decode cX12_number 58 = .ok (.aload_n 0, 1) := rd_chunk (k := 0) (i := 58) kmX12_number_0_e1 (by decide +kernel)
theorem dX12_number_59 : decode cX12_number 59 = .ok (.dup, 1) := rd_chunk (k := 0) (i := 59) kmX12_number_0_e1 (by decide +kernel)
theorem dX12_number_60 : decode cX12_number 60 = .ok (.getfield 168, 3) := rd_chunk (k := 0) (i := 60) kmX12_number_0_e1 (by decide +kernel)
theorem dX12_number_63 : decode cX12_number 63 = .ok (.iconst 1, 1) := rd_chunk (k := 0) (i := 63) kmX12_number_0_e1 (by decide +kernel)
abbrev mX12_number_64_e1 : ByteArray := .mk #[0x60, 0xb5, 0x00, 0xa8, 0xa7, 0xff, 0xce, 0x2a, 0xb4, 0x00, 0xa8, 0x15, 0x04, 0xa0, 0x00, 0x0e, 0x2a, 0x2a, 0xb4, 0x00, 0xa8, 0xb6, 0x00, 0xba, 0xa7, 0x00, 0x17, 0x15, 0x05, 0x1c, 0x1d, 0xb8, 0x00, 0x95, 0x9a, 0x00, 0x0d, 0x2a, 0x2a, 0xb4, 0x00, 0xa8, 0x04, 0x64, 0xb6, 0x00, 0xba, 0x2a, 0xb6, 0x00, 0xae, 0x99, 0x00, 0x08, 0x15, 0x05, 0xa7, 0x00, 0x04, 0x03, 0xac]
theorem kmX12_number_64_e1 : CK cX12_number 64 mX12_number_64_e1 := ck_of (by decide +kernel)
theorem dX12_number_64 : decode cX12_number 64 = .ok (.iadd, 1) := rd_chunk (k := 64) (i := 0) kmX12_number_64_e1 (by decide +kernel)
theorem dX12_number_65 : decode cX12_number 65 = .ok (.putfield 168, 3) := rd_chunk (k := 64) (i := 1) kmX12_number_64_e1 (by decide +kernel)
theorem dX12_number_68 : decode cX12_number 68 = .ok (.goto (-50), 3) := rd_chunk (k := 64) (i := 4) kmX12_number_64_e1 (by decide +kernel)
theorem dX12_number_71 : decode cX12_number 71 = .ok (.aload_n 0, 1) := rd_chunk (k := 64) (i := 7) kmX12_number_64_e1 (by decide +kernel)
theorem dX12_number_72 : decode cX12_number 72 = .ok (.getfield 168, 3) := rd_chunk (k := 64) (i := 8) kmX12_number_64_e1 (by decide +kernel)
theorem dX12_number_75 : decode cX12_number 75 = .ok (.iload 4, 2) := rd_chunk (k := 64) (i := 11) kmX12_number_64_e1 (by decide +kernel)
theorem dX12_number_77 : decode cX12_number 77 = .ok (.if_icmp .ne 14, 3) := rd_chunk (k := 64) (i := 13) kmX12_number_64_e1 (by decide +kernel)
theorem dX12_number_80 : decode cX12_number 80 = .ok (.aload_n 0, 1) := rd_chunk (k := 64) (i := 16) kmX12_number_64_e1 (by decide +kernel)
theorem dX12_number_81 : decode cX12_number 81 = .ok (.aload_n 0, 1) := rd_chunk (k := 64) (i := 17) kmX12_number_64_e1 (by decide +kernel)
theorem dX12_number_82 : decode cX12_number 82 = .ok (.getfield 168, 3) := rd_chunk (k := 64) (i := 18) kmX12_number_64_e1 (by decide +kernel)
theorem dX12_number_85 : decode cX12_number 85 = .ok (.invokevirtual 186, 3) := rd_chunk (k := 64) (i := 21) kmX12_number_64_e1 (by decide +kernel)
theorem dX12_number_88 : decode cX12_number 88 = .ok (.goto 23, 3) := rd_chunk (k := 64) (i := 24) kmX12_number_64_e1 (by decide +kernel)
theorem dX12_number_91 : decode cX12_number 91 = .ok (.iload 5, 2) := rd_chunk (k := 64) (i := 27) kmX12_number_64_e1 (by decide +kernel)
theorem dX12_number_93 : decode cX12_number 93 = .ok (.iload_n 2, 1) := rd_chunk (k := 64) (i := 29) kmX12_number_64_e1 (by decide +kernel)
theorem dX12_number_94 : decode cX12_number 94 = .ok (.iload_n 3, 1) := rd_chunk (k := 64) (i := 30) kmX12_number_64_e1 (by decide +kernel)
theorem dX12_number_95 : decode cX12_number 95 = .ok (.invokestatic 149, 3) := rd_chunk (k := 64) (i := 31) kmX12_number_64_e1 (by decide +kernel)
theorem dX12_number_98 : decode cX12_number 98 = .ok (.ifCond .ne 13, 3) := rd_chunk (k := 64) (i := 34) kmX12_number_64_e1 (by decide +kernel)
theorem dX12_number_101 : decode cX12_number 101 = .ok (.aload_n 0, 1) := rd_chunk (k := 64) (i := 37) kmX12_number_64_e1 (by decide +kernel)
theorem dX12_number_102 : decode cX12_number 102 = .ok (.aload_n 0, 1) := rd_chunk (k := 64) (i := 38) kmX12_number_64_e1 (by decide +kernel)
theorem dX12_number_103 : decode cX12_number 103 = .ok (.getfield 168, 3) := rd_chunk (k := 64) (i := 39) kmX12_number_64_e1 (by decide +kernel)
theorem dX12_number_106 : decode cX12_number 106 = .ok (.iconst 1, 1) := rd_chunk (k := 64) (i := 42) kmX12_number_64_e1 (by decide +kernel)
theorem dX12_number_107 : decode cX12_number 107 = .ok (.isub, 1) := rd_chunk (k := 64) (i := 43) kmX12_number_64_e1 (by decide +kernel)
theorem dX12_number_108 : decode cX12_number 108 = .ok (.invokevirtual 186, 3) := rd_chunk (k := 64) (i := 44) kmX12_number_64_e1 (by decide +kernel)
theorem dX12_number_111 : decode cX12_number 111 = .ok (.aload_n 0, 1) := rd_chunk (k := 64) (i := 47) kmX12_number_64_e1 (by decide +kernel)
theorem dX12_number_112 : decode cX12_number 112 = .ok (.invokevirtual 174, 3) := rd_chunk (k := 64) (i := 48) kmX12_number_64_e1 (by decide +kernel)
theorem dX12_number_115 : decode cX12_number 115 = .ok (.ifCond .eq 8, 3) := rd_chunk (k := 64) (i := 51) kmX12_number_64_e1 (by decide +kernel)
theorem dX12_number_118 : decode cX12_number 118 = .ok (.iload 5, 2) := rd_chunk (k := 64) (i := 54) kmX12_number_64_e1 (by decide +kernel)
theorem dX12_number_120 : decode cX12_number 120 = .ok (.goto 4, 3) := rd_chunk (k := 64) (i := 56) kmX12_number_64_e1 (by decide +kernel)
theorem dX12_number_123 : decode cX12_number 123 = .ok (.iconst 0, 1) := rd_chunk (k := 64) (i := 59) kmX12_number_64_e1 (by decide +kernel)
theorem dX12_number_124 : decode cX12_number 124 = .ok (.ireturn, 1) := rd_chunk (k := 64) (i := 60) kmX12_number_64_e1 (by decide +kernel)
abbrev mX12_stairs_0_e1 : ByteArray := .mk #[0x2a, 0x03, 0xb5, 0x00, 0x8c, 0x2a, 0x2a, 0xb4, 0x00, 0x38, 0x2a, 0xb4, 0x00, 0x9c, 0x10, 0x4c, 0xb6, 0x00, 0xbe, 0x2a, 0x03, 0xb5, 0x00, 0x9c, 0x03, 0x3c, 0x2a, 0xb4, 0x00, 0xa2, 0x9e, 0x00, 0x07, 0x04, 0xa7, 0x00, 0x04, 0x03, 0x3d, 0x1c, 0x99, 0x00, 0x2b, 0x2a, 0xb6, 0x00, 0xae, 0x99, 0x00, 0x24, 0x1b, 0x10, 0x18, 0xa0, 0x00, 0x0e, 0x2a, 0x2a, 0xb4, 0x00, 0xa8, 0xb6, 0x00, 0xba, 0xa7, 0x00, 0x13, 0x2a, 0x1b, 0xb6, 0x00, 0xc2]
theorem kmX12_stairs_0_e1 : CK cX12_stairs 0 mX12_stairs_0_e1 := ck_of (by decide +kernel)
theorem dX12_stairs_0 : decode cX12_stairs 0 = .ok (.aload_n 0, 1) := rd_chunk (k := 0) (i := 0) kmX12_stairs_0_e1 (by decide +kernel)
theorem dX12_stairs_1 : decode cX12_stairs 1 = .ok (.iconst 0, 1) := rd_chunk (k := 0) (i := 1) kmX12_stairs_0_e1 (by decide +kernel)
theorem dX12_stairs_2 : decode cX12_stairs 2 = .ok (.putfield 140, 3) := rd_chunk (k := 0) (i := 2) kmX12_stairs_0_e1 (by decide +kernel)
theorem dX12_stairs_5 : decode cX12_stairs 5 = .ok (.aload_n 0, 1) := rd_chunk (k := 0) (i := 5) kmX12_stairs_0_e1 (by decide +kernel)
theorem dX12_stairs_6 : decode cX12_stairs 6 = .ok (.aload_n 0, 1) := rd_chunk (k := 0) (i := 6) kmX12_stairs_0_e1 (by decide +kernel)
theorem dX12_stairs_7 : decode cX12_stairs 7 = .ok (.getfield 56, 3) := rd_chunk (k := 0) (i := 7) kmX12_stairs_0_e1 (by decide +kernel)
theorem dX12_stairs_10 : decode cX12_stairs 10 = .ok (.aload_n 0, 1) := rd_chunk (k := 0) (i := 10) kmX12_stairs_0_e1 (by decide +kernel)
theorem dX12_stairs_11 : decode cX12_stairs 11 = .ok (.getfield 156, 3) := rd_chunk (k := 0) (i := 11) kmX12_stairs_0_e1 (by decide +kernel)
theorem dX12_stairs_14 : decode cX12_stairs 14 = .ok (.bipush 76, 2) := rd_chunk (k := 0) (i := 14) kmX12_stairs_0_e1 (by decide +kernel)
theorem dX12_stairs_16 : decode cX12_stairs 16 = .ok (.invokevirtual 190, 3) := rd_chunk (k := 0) (i := 16) kmX12_stairs_0_e1 (by decide +kernel)
theorem dX12_stairs_19 : decode cX12_stairs 19 = .ok (.aload_n 0, 1) := rd_chunk (k := 0) (i := 19) kmX12_stairs_0_e1 (by decide +kernel)
theorem dX12_stairs_20 : decode cX12_stairs 20 = .ok (.iconst 0, 1) := rd_chunk (k := 0) (i := 20) kmX12_stairs_0_e1 (by decide +kernel)
theorem dX12_stairs_21 : decode cX12_stairs 21 = .ok (.putfield 156, 3) := rd_chunk (k := 0) (i := 21) kmX12_stairs_0_e1 (by decide +kernel)
theorem dX12_stairs_24 : decode cX12_stairs 24 = .ok (.iconst 0, 1) := rd_chunk (k := 0) (i := 24) kmX12_stairs_0_e1 (by decide +kernel)
theorem dX12_stairs_25 : decode cX12_stairs 25 = .ok (.istore_n 1, 1) := rd_chunk (k := 0) (i := 25) kmX12_stairs_0_e1 (by decide +kernel)
theorem dX12_stairs_26 : decode cX12_stairs 26 = .ok (.aload_n 0, 1) := rd_chunk (k := 0) (i := 26) kmX12_stairs_0_e1 (by decide +kernel)
theorem dX12_stairs_27 : decode cX12_stairs 27 = .ok (.getfield 162, 3) := rd_chunk (k := 0) (i := 27) kmX12_stairs_0_e1 (by decide +kernel)
theorem dX12_stairs_30 : decode cX12_stairs 30 = .ok (.ifCond .le 7, 3) := rd_chunk (k := 0) (i := 30) kmX12_stairs_0_e1 (by decide +kernel)
theorem dX12_stairs_33 : decode cX12_stairs 33 = .ok (.iconst 1, 1) := rd_chunk (k := 0) (i := 33) kmX12_stairs_0_e1 (by decide +kernel)
theorem dX12_stairs_34 : decode cX12_stairs 34 = .ok (.goto 4, 3) := rd_chunk (k := 0) (i := 34) kmX12_stairs_0_e1 (by decide +kernel)
theorem dX12_stairs_37 : decode cX12_stairs 37 = .ok (.iconst 0, 1) := rd_chunk (k := 0) (i := 37) kmX12_stairs_0_e1 (by decide +kernel)
theorem dX12_stairs_38 : decode cX12_stairs 38 = .ok (.istore_n 2, 1) := rd_chunk (k := 0) (i := 38) kmX12_stairs_0_e1 (by decide +kernel)
theorem dX12_stairs_39 : decode cX12_stairs 39 = .ok (.iload_n 2, 1) := rd_chunk (k := 0) (i := 39) kmX12_stairs_0_e1 (by decide +kernel)
theorem dX12_stairs_40 : decode cX12_stairs 40 = .ok (.ifCond .eq 43, 3) := rd_chunk (k := 0) (i := 40) kmX12_stairs_0_e1 (by decide +kernel)
theorem dX12_stairs_43 : decode cX12_stairs 43 = .ok (.aload_n 0, 1) := rd_chunk (k := 0) (i := 43) kmX12_stairs_0_e1 (by decide +kernel)
theorem dX12_stairs_44 : decode cX12_stairs 44 = .ok (.invokevirtual 174, 3) := rd_chunk (k := 0) (i := 44) kmX12_stairs_0_e1 (by decide +kernel)
theorem dX12_stairs_47 : decode cX12_stairs 47 = .ok (.ifCond .eq 36, 3) := rd_chunk (k := 0) (i := 47) kmX12_stairs_0_e1 (by decide +kernel)
theorem dX12_stairs_50 : decode cX12_stairs 50 = .ok (.iload_n 1, 1) := rd_chunk (k := 0) (i := 50) kmX12_stairs_0_e1 (by decide +kernel)
theorem dX12_stairs_51 : decode cX12_stairs 51 = .ok (.bipush 24, 2) := rd_chunk (k := 0) (i := 51) kmX12_stairs_0_e1 (by decide +kernel)
theorem dX12_stairs_53 : decode cX12_stairs 53 = .ok (.if_icmp .ne 14, 3) := rd_chunk (k := 0) (i := 53) kmX12_stairs_0_e1 (by decide +kernel)
theorem dX12_stairs_56 : decode cX12_stairs 56 = .ok (.aload_n 0, 1) := rd_chunk (k := 0) (i := 56) kmX12_stairs_0_e1 (by decide +kernel)
theorem dX12_stairs_57 : decode cX12_stairs 57 = .ok (.aload_n 0, 1) := rd_chunk (k := 0) (i := 57) kmX12_stairs_0_e1 (by decide +kernel)
theorem dX12_stairs_58 : decode cX12_stairs 58 = .ok (.getfield 168, 3) := rd_chunk (k := 0) (i := 58) kmX12_stairs_0_e1 (by decide +kernel)
theorem dX12_stairs_61 : decode cX12_stairs 61 = .ok (.invokevirtual 186, 3) := rd_chunk (k := 0) (i := 61) kmX12_stairs_0_e1 (by decide +kernel)
abbrev mX12_stairs_64_e1 : ByteArray := .mk #[0xa7, 0x00, 0x13, 0x2a, 0x1b, 0xb6, 0x00, 0xc2, 0x3c, 0x2a, 0x10, 0x3b, 0xb6, 0x00, 0xb6, 0x3d, 0xa7, 0xff, 0xd7, 0x2a, 0xb4, 0x00, 0xa8, 0x2a, 0xb4, 0x00, 0xa2, 0xa2, 0x00, 0x0b, 0x2a, 0x2a, 0xb4, 0x00, 0xa8, 0xb6, 0x00, 0xba, 0x2a, 0xb6, 0x00, 0xae, 0x9a, 0x00, 0x0a, 0x02, 0x2a, 0xb4, 0x00, 0xab, 0x64, 0xac, 0x1b, 0x05, 0xa2, 0x00, 0x06, 0x10, 0x9c, 0xac, 0x2a, 0x1b, 0xb5, 0x00, 0x92, 0x03, 0x3e, 0x1d, 0x1b, 0xa2, 0x00, 0x82]
theorem kmX12_stairs_64_e1 : CK cX12_stairs 64 mX12_stairs_64_e1 := ck_of (by decide +kernel)
theorem dX12_stairs_64 : decode cX12_stairs 64 = .ok (.goto 19, 3) := rd_chunk (k := 64) (i := 0) kmX12_stairs_64_e1 (by decide +kernel)
theorem dX12_stairs_67 : decode cX12_stairs 67 = .ok (.aload_n 0, 1) := rd_chunk (k := 64) (i := 3) kmX12_stairs_64_e1 (by decide +kernel)
theorem dX12_stairs_68 : decode cX12_stairs 68 = .ok (.iload_n 1, 1) := rd_chunk (k := 64) (i := 4) kmX12_stairs_64_e1 (by decide +kernel)
theorem dX12_stairs_69 : decode cX12_stairs 69 = .ok (.invokevirtual 194, 3) := rd_chunk (k := 64) (i := 5) kmX12_stairs_64_e1 (by decide +kernel)
theorem dX12_stairs_72 : decode cX12_stairs 72 = .ok (.istore_n 1, 1) := rd_chunk (k := 64) (i := 8) kmX12_stairs_64_e1 (by decide +kernel)
theorem dX12_stairs_73 : decode cX12_stairs 73 = .ok (.aload_n 0, 1) := rd_chunk (k := 64) (i := 9) kmX12_stairs_64_e1 (by decide +kernel)
theorem dX12_stairs_74 : decode cX12_stairs 74 = .ok (.bipush 59, 2) := rd_chunk (k := 64) (i := 10) kmX12_stairs_64_e1 (by decide +kernel)
theorem dX12_stairs_76 : decode cX12_stairs 76 = .ok (.invokevirtual 182, 3) := rd_chunk (k := 64) (i := 12) kmX12_stairs_64_e1 (by decide +kernel)
theorem dX12_stairs_79 : decode cX12_stairs 79 = .ok (.istore_n 2, 1) := rd_chunk (k := 64) (i := 15) kmX12_stairs_64_e1 (by decide +kernel)
theorem dX12_stairs_80 : decode cX12_stairs 80 = .ok (.goto (-41), 3) := rd_chunk (k := 64) (i := 16) kmX12_stairs_64_e1 (by decide +kernel)
theorem dX12_stairs_83 : decode cX12_stairs 83 = .ok (.aload_n 0, 1) := rd_chunk (k := 64) (i := 19) kmX12_stairs_64_e1 (by decide +kernel)
theorem dX12_stairs_84 : decode cX12_stairs 84 = .ok (.getfield 168, 3) := rd_chunk (k := 64) (i := 20) kmX12_stairs_64_e1 (by decide +kernel)
theorem dX12_stairs_87 : decode cX12_stairs 87 = .ok (.aload_n 0, 1) := rd_chunk (k := 64) (i := 23) kmX12_stairs_64_e1 (by decide +kernel)
theorem dX12_stairs_88 : decode cX12_stairs 88 = .ok (.getfield 162, 3) := rd_chunk (k := 64) (i := 24) kmX12_stairs_64_e1 (by decide +kernel)
theorem dX12_stairs_91 : decode cX12_stairs 91 = .ok (.if_icmp .ge 11, 3) := rd_chunk (k := 64) (i := 27) kmX12_stairs_64_e1 (by decide +kernel)
theorem dX12_stairs_94 : decode cX12_stairs 94 = .ok (.aload_n 0, 1) := rd_chunk (k := 64) (i := 30) kmX12_stairs_64_e1 (by decide +kernel)
theorem dX12_stairs_95 : decode cX12_stairs 95 = .ok (.aload_n 0, 1) := rd_chunk (k := 64) (i := 31) kmX12_stairs_64_e1 (by decide +kernel)
theorem dX12_stairs_96 : decode cX12_stairs 96 = .ok (.getfield 168, 3) := rd_chunk (k := 64) (i := 32) kmX12_stairs_64_e1 (by decide +kernel)
theorem dX12_stairs_99 : decode cX12_stairs 99 = .ok (.invokevirtual 186, 3) := rd_chunk (k := 64) (i := 35) kmX12_stairs_64_e1 (by decide +kernel)
theorem dX12_stairs_102 : decode cX12_stairs 102 = .ok (.aload_n 0, 1) := rd_chunk (k := 64) (i := 38) kmX12_stairs_64_e1 (by decide +kernel)
theorem dX12_stairs_103 : decode cX12_stairs 103 = .ok (.invokevirtual 174, 3) := rd_chunk (k := 64) (i := 39) kmX12_stairs_64_e1 (by decide +kernel)
theorem dX12_stairs_106 : decode cX12_stairs 106 = .ok (.ifCond .ne 10, 3) := rd_chunk (k := 64) (i := 42) kmX12_stairs_64_e1 (by decide +kernel)
theorem dX12_stairs_109 : decode cX12_stairs 109 = .ok (.iconst (-1), 1) := rd_chunk (k := 64) (i := 45) kmX12_stairs_64_e1 (by decide +kernel)
theorem dX12_stairs_110 : decode cX12_stairs 110 = .ok (.aload_n 0, 1) := rd_chunk (k := 64) (i := 46) kmX12_stairs_64_e1 (by decide +kernel)
theorem dX12_stairs_111 : decode cX12_stairs 111 = .ok (.getfield 171, 3) := rd_chunk (k := 64) (i := 47) kmX12_stairs_64_e1 (by decide +kernel)
theorem dX12_stairs_114 : decode cX12_stairs 114 = .ok (.isub, 1) := rd_chunk (k := 64) (i := 50) kmX12_stairs_64_e1 (by decide +kernel)
theorem dX12_stairs_115 : decode cX12_stairs 115 = .ok (.ireturn, 1) := rd_chunk (k := 64) (i := 51) kmX12_stairs_64_e1 (by decide +kernel)
theorem dX12_stairs_116 : decode cX12_stairs 116 = .ok (.iload_n 1, 1) := rd_chunk (k := 64) (i := 52) kmX12_stairs_64_e1 (by decide +kernel)
theorem dX12_stairs_117 : decode cX12_stairs 117 = .ok (.iconst 2, 1) := rd_chunk (k := 64) (i := 53) kmX12_stairs_64_e1 (by decide +kernel)
theorem dX12_stairs_118 : decode cX12_stairs 118 = .ok (.if_icmp .ge 6, 3) := rd_chunk (k := 64) (i := 54) kmX12_stairs_64_e1 (by decide +kernel)
theorem dX12_stairs_121 : decode cX12_stairs 121 = .ok (.bipush (-100), 2) := rd_chunk (k := 64) (i := 57) kmX12_stairs_64_e1 (by decide +kernel)
theorem dX12_stairs_123 : decode cX12_stairs 123 = .ok (.ireturn, 1) := rd_chunk (k := 64) (i := 59) kmX12_stairs_64_e1 (by decide +kernel)
theorem dX12_stairs_124 : decode cX12_stairs 124 = .ok (.aload_n 0, 1) := rd_chunk (k := 64) (i := 60) kmX12_stairs_64_e1 (by decide +kernel)
theorem dX12_stairs_125 : decode cX12_stairs 125 = .ok (.iload_n 1, 1) := rd_chunk (k := 64) (i := 61) kmX12_stairs_64_e1 (by decide +kernel)
theorem dX12_stairs_126 : decode cX12_stairs 126 = .ok (.putfield 146, 3) := rd_chunk (k := 64) (i := 62) kmX12_stairs_64_e1 (by decide +kernel)
abbrev mX12_stairs_128_e1 : ByteArray := .mk #[0x92, 0x03, 0x3e, 0x1d, 0x1b, 0xa2, 0x00, 0x82, 0x2a, 0xb4, 0x00, 0x09, 0x1d, 0x2a, 0xb4, 0x00, 0x40, 0x08, 0x1d, 0x68, 0x2e, 0x4f, 0x2a, 0xb4, 0x00, 0x0d, 0x1d, 0x2a, 0xb4, 0x00, 0x40, 0x08, 0x1d, 0x68, 0x04, 0x60, 0x2e, 0x4f, 0x2a, 0xb4, 0x00, 0x10, 0x1d, 0x2a, 0xb4, 0x00, 0x40, 0x08, 0x1d, 0x68, 0x05, 0x60, 0x2e, 0x4f, 0x03, 0x36, 0x04, 0x15, 0x04, 0x10, 0x08, 0xa2, 0x00, 0x2b, 0x2a, 0xb4, 0x00, 0x17, 0x10, 0x08, 0x1d, 0x68]
theorem kmX12_stairs_128_e1 : CK cX12_stairs 128 mX12_stairs_128_e1 := ck_of (by decide +kernel)
theorem dX12_stairs_129 : decode cX12_stairs 129 = .ok (.iconst 0, 1) := rd_chunk (k := 128) (i := 1) kmX12_stairs_128_e1 (by decide +kernel)
theorem dX12_stairs_130 : decode cX12_stairs 130 = .ok (.istore_n 3, 1) := rd_chunk (k := 128) (i := 2) kmX12_stairs_128_e1 (by decide +kernel)
theorem dX12_stairs_131 : decode cX12_stairs 131 = .ok (.iload_n 3, 1) := rd_chunk (k := 128) (i := 3) kmX12_stairs_128_e1 (by decide +kernel)
theorem dX12_stairs_132 : decode cX12_stairs 132 = .ok (.iload_n 1, 1) := rd_chunk (k := 128) (i := 4) kmX12_stairs_128_e1 (by decide +kernel)
theorem dX12_stairs_133 : decode cX12_stairs 133 = .ok (.if_icmp .ge 130, 3) := rd_chunk (k := 128) (i := 5) kmX12_stairs_128_e1 (by decide +kernel)
theorem dX12_stairs_136 : decode cX12_stairs 136 = .ok (.aload_n 0, 1) := rd_chunk (k := 128) (i := 8) kmX12_stairs_128_e1 (by decide +kernel)
theorem dX12_stairs_137 : decode cX12_stairs 137 = .ok (.getfield 9, 3) := rd_chunk (k := 128) (i := 9) kmX12_stairs_128_e1 (by decide +kernel)
theorem dX12_stairs_140 : decode cX12_stairs 140 = .ok (.iload_n 3, 1) := rd_chunk (k := 128) (i := 12) kmX12_stairs_128_e1 (by decide +kernel)
theorem dX12_stairs_141 : decode cX12_stairs 141 = .ok (.aload_n 0, 1) := rd_chunk (k := 128) (i := 13) kmX12_stairs_128_e1 (by decide +kernel)
theorem dX12_stairs_142 : decode cX12_stairs 142 = .ok (.getfield 64, 3) := rd_chunk (k := 128) (i := 14) kmX12_stairs_128_e1 (by decide +kernel)
theorem dX12_stairs_145 : decode cX12_stairs 145 = .ok (.iconst 5, 1) := rd_chunk (k := 128) (i := 17) kmX12_stairs_128_e1 (by decide +kernel)
theorem dX12_stairs_146 : decode cX12_stairs 146 = .ok (.iload_n 3, 1) := rd_chunk (k := 128) (i := 18) kmX12_stairs_128_e1 (by decide +kernel)
theorem dX12_stairs_147 : decode cX12_stairs 147 = .ok (.imul, 1) := rd_chunk (k := 128) (i := 19) kmX12_stairs_128_e1 (by decide +kernel)
theorem dX12_stairs_148 : decode cX12_stairs 148 = .ok (.iaload, 1) := rd_chunk (k := 128) (i := 20) kmX12_stairs_128_e1 (by decide +kernel)
theorem dX12_stairs_149 : decode cX12_stairs 149 = .ok (.iastore, 1) := rd_chunk (k := 128) (i := 21) kmX12_stairs_128_e1 (by decide +kernel)
theorem dX12_stairs_150 : decode cX12_stairs 150 = .ok (.aload_n 0, 1) := rd_chunk (k := 128) (i := 22) kmX12_stairs_128_e1 (by decide +kernel)
theorem dX12_stairs_151 : decode cX12_stairs 151 = .ok (.getfield 13, 3) := rd_chunk (k := 128) (i := 23) kmX12_stairs_128_e1 (by decide +kernel)
theorem dX12_stairs_154 : decode cX12_stairs 154 = .ok (.iload_n 3, 1) := rd_chunk (k := 128) (i := 26) kmX12_stairs_128_e1 (by decide +kernel)
theorem dX12_stairs_155 : decode cX12_stairs 155 = .ok (.aload_n 0, 1) := rd_chunk (k := 128) (i := 27) kmX12_stairs_128_e1 (by decide +kernel)
theorem dX12_stairs_156 : decode cX12_stairs 156 = .ok (.getfield 64, 3) := rd_chunk (k := 128) (i := 28) kmX12_stairs_128_e1 (by decide +kernel)
theorem dX12_stairs_159 : decode cX12_stairs 159 = .ok (.iconst 5, 1) := rd_chunk (k := 128) (i := 31) kmX12_stairs_128_e1 (by decide +kernel)
theorem dX12_stairs_160 : decode cX12_stairs 160 = .ok (.iload_n 3, 1) := rd_chunk (k := 128) (i := 32) kmX12_stairs_128_e1 (by decide +kernel)
theorem dX12_stairs_161 : decode cX12_stairs 161 = .ok (.imul, 1) := rd_chunk (k := 128) (i := 33) kmX12_stairs_128_e1 (by decide +kernel)
theorem dX12_stairs_162 : decode cX12_stairs 162 = .ok (.iconst 1, 1) := rd_chunk (k := 128) (i := 34) kmX12_stairs_128_e1 (by decide +kernel)
theorem dX12_stairs_163 : decode cX12_stairs 163 = .ok (.iadd, 1) := rd_chunk (k := 128) (i := 35) kmX12_stairs_128_e1 (by decide +kernel)
theorem dX12_stairs_164 : decode cX12_stairs 164 = .ok (.iaload, 1) := rd_chunk (k := 128) (i := 36) kmX12_stairs_128_e1 (by decide +kernel)
theorem dX12_stairs_165 : decode cX12_stairs 165 = .ok (.iastore, 1) := rd_chunk (k := 128) (i := 37) kmX12_stairs_128_e1 (by decide +kernel)
theorem dX12_stairs_166 : decode cX12_stairs 166 = .ok (.aload_n 0, 1) := rd_chunk (k := 128) (i := 38) kmX12_stairs_128_e1 (by decide +kernel)
theorem dX12_stairs_167 : decode cX12_stairs 167 = .ok (.getfield 16, 3) := rd_chunk (k := 128) (i := 39) kmX12_stairs_128_e1 (by decide +kernel)
theorem dX12_stairs_170 : decode cX12_stairs 170 = .ok (.iload_n 3, 1) := rd_chunk (k := 128) (i := 42) kmX12_stairs_128_e1 (by decide +kernel)
theorem dX12_stairs_171 : decode cX12_stairs 171 = .ok (.aload_n 0, 1) := rd_chunk (k := 128) (i := 43) kmX12_stairs_128_e1 (by decide +kernel)
theorem dX12_stairs_172 : decode cX12_stairs 172 = .ok (.getfield 64, 3) := rd_chunk (k := 128) (i := 44) kmX12_stairs_128_e1 (by decide +kernel)
theorem dX12_stairs_175 : decode cX12_stairs 175 = .ok (.iconst 5, 1) := rd_chunk (k := 128) (i := 47) kmX12_stairs_128_e1 (by decide +kernel)
theorem dX12_stairs_176 : decode cX12_stairs 176 = .ok (.iload_n 3, 1) := rd_chunk (k := 128) (i := 48) kmX12_stairs_128_e1 (by decide +kernel)
theorem dX12_stairs_177 : decode cX12_stairs 177 = .ok (.imul, 1) := rd_chunk (k := 128) (i := 49) kmX12_stairs_128_e1 (by decide +kernel)
theorem dX12_stairs_178 : decode cX12_stairs 178 = .ok (.iconst 2, 1) := rd_chunk (k := 128) (i := 50) kmX12_stairs_128_e1 (by decide +kernel)
theorem dX12_stairs_179 : decode cX12_stairs 179 = .ok (.iadd, 1) := rd_chunk (k := 128) (i := 51) kmX12_stairs_128_e1 (by decide +kernel)
theorem dX12_stairs_180 : decode cX12_stairs 180 = .ok (.iaload, 1) := rd_chunk (k := 128) (i := 52) kmX12_stairs_128_e1 (by decide +kernel)
theorem dX12_stairs_181 : decode cX12_stairs 181 = .ok (.iastore, 1) := rd_chunk (k := 128) (i := 53) kmX12_stairs_128_e1 (by decide +kernel)
theorem dX12_stairs_182 : decode cX12_stairs 182 = .ok (.iconst 0, 1) := rd_chunk (k := 128) (i := 54) kmX12_stairs_128_e1 (by decide +kernel)
theorem dX12_stairs_183 : decode cX12_stairs 183 = .ok (.istore 4, 2) := rd_chunk (k := 128) (i := 55) kmX12_stairs_128_e1 (by decide +kernel)
theorem dX12_stairs_185 : decode cX12_stairs 185 = .ok (.iload 4, 2) := rd_chunk (k := 128) (i := 57) kmX12_stairs_128_e1 (by decide +kernel)
theorem dX12_stairs_187 : decode cX12_stairs 187 = .ok (.bipush 8, 2) := rd_chunk (k := 128) (i := 59) kmX12_stairs_128_e1 (by decide +kernel)
theorem dX12_stairs_189 : decode cX12_stairs 189 = .ok (.if_icmp .ge 43, 3) := rd_chunk (k := 128) (i := 61) kmX12_stairs_128_e1 (by decide +kernel)
abbrev mX12_stairs_192_e1 : ByteArray := .mk #[0x2a, 0xb4, 0x00, 0x17, 0x10, 0x08, 0x1d, 0x68, 0x15, 0x04, 0x60, 0x15, 0x04, 0x2a, 0xb4, 0x00, 0x40, 0x08, 0x1d, 0x68, 0x06, 0x60, 0x2e, 0xa0, 0x00, 0x09, 0x11, 0x02, 0xd0, 0xa7, 0x00, 0x04, 0x03, 0x4f, 0x84, 0x04, 0x01, 0xa7, 0xff, 0xd4, 0x2a, 0xb4, 0x00, 0x13, 0x1d, 0x2a, 0xb4, 0x00, 0x40, 0x08, 0x1d, 0x68, 0x07, 0x60, 0x2e, 0x04, 0xa0, 0x00, 0x07, 0x04, 0xa7, 0x00, 0x04, 0x03, 0x54, 0x84, 0x03, 0x01, 0xa7, 0xff, 0x7f, 0x2a]
theorem kmX12_stairs_192_e1 : CK cX12_stairs 192 mX12_stairs_192_e1 := ck_of (by decide +kernel)
theorem dX12_stairs_192 : decode cX12_stairs 192 = .ok (.aload_n 0, 1) := rd_chunk (k := 192) (i := 0) kmX12_stairs_192_e1 (by decide +kernel)
theorem dX12_stairs_193 : decode cX12_stairs 193 = .ok (.getfield 23, 3) := rd_chunk (k := 192) (i := 1) kmX12_stairs_192_e1 (by decide +kernel)
theorem dX12_stairs_196 : decode cX12_stairs 196 = .ok (.bipush 8, 2) := rd_chunk (k := 192) (i := 4) kmX12_stairs_192_e1 (by decide +kernel)
theorem dX12_stairs_198 : decode cX12_stairs 198 = .ok (.iload_n 3, 1) := rd_chunk (k := 192) (i := 6) kmX12_stairs_192_e1 (by decide +kernel)
theorem dX12_stairs_199 : decode cX12_stairs 199 = .ok (.imul, 1) := rd_chunk (k := 192) (i := 7) kmX12_stairs_192_e1 (by decide +kernel)
theorem dX12_stairs_200 : decode cX12_stairs 200 = .ok (.iload 4, 2) := rd_chunk (k := 192) (i := 8) kmX12_stairs_192_e1 (by decide +kernel)
theorem dX12_stairs_202 : decode cX12_stairs 202 = .ok (.iadd, 1) := rd_chunk (k := 192) (i := 10) kmX12_stairs_192_e1 (by decide +kernel)
theorem dX12_stairs_203 : decode cX12_stairs 203 = .ok (.iload 4, 2) := rd_chunk (k := 192) (i := 11) kmX12_stairs_192_e1 (by decide +kernel)
theorem dX12_stairs_205 : decode cX12_stairs 205 = .ok (.aload_n 0, 1) := rd_chunk (k := 192) (i := 13) kmX12_stairs_192_e1 (by decide +kernel)
theorem dX12_stairs_206 : decode cX12_stairs 206 = .ok (.getfield 64, 3) := rd_chunk (k := 192) (i := 14) kmX12_stairs_192_e1 (by decide +kernel)
theorem dX12_stairs_209 : decode cX12_stairs 209 = .ok (.iconst 5, 1) := rd_chunk (k := 192) (i := 17) kmX12_stairs_192_e1 (by decide +kernel)
theorem dX12_stairs_210 : decode cX12_stairs 210 = .ok (.iload_n 3, 1) := rd_chunk (k := 192) (i := 18) kmX12_stairs_192_e1 (by decide +kernel)
theorem dX12_stairs_211 : decode cX12_stairs 211 = .ok (.imul, 1) := rd_chunk (k := 192) (i := 19) kmX12_stairs_192_e1 (by decide +kernel)
theorem dX12_stairs_212 : decode cX12_stairs 212 = .ok (.iconst 3, 1) := rd_chunk (k := 192) (i := 20) kmX12_stairs_192_e1 (by decide +kernel)
theorem dX12_stairs_213 : decode cX12_stairs 213 = .ok (.iadd, 1) := rd_chunk (k := 192) (i := 21) kmX12_stairs_192_e1 (by decide +kernel)
theorem dX12_stairs_214 : decode cX12_stairs 214 = .ok (.iaload, 1) := rd_chunk (k := 192) (i := 22) kmX12_stairs_192_e1 (by decide +kernel)
theorem dX12_stairs_215 : decode cX12_stairs 215 = .ok (.if_icmp .ne 9, 3) := rd_chunk (k := 192) (i := 23) kmX12_stairs_192_e1 (by decide +kernel)
theorem dX12_stairs_218 : decode cX12_stairs 218 = .ok (.sipush 720, 3) := rd_chunk (k := 192) (i := 26) kmX12_stairs_192_e1 (by decide +kernel)
theorem dX12_stairs_221 : decode cX12_stairs 221 = .ok (.goto 4, 3) := rd_chunk (k := 192) (i := 29) kmX12_stairs_192_e1 (by decide +kernel)
theorem dX12_stairs_224 : decode cX12_stairs 224 = .ok (.iconst 0, 1) := rd_chunk (k := 192) (i := 32) kmX12_stairs_192_e1 (by decide +kernel)
theorem dX12_stairs_225 : decode cX12_stairs 225 = .ok (.iastore, 1) := rd_chunk (k := 192) (i := 33) kmX12_stairs_192_e1 (by decide +kernel)
theorem dX12_stairs_226 : decode cX12_stairs 226 = .ok (.iinc 4 1, 3) := rd_chunk (k := 192) (i := 34) kmX12_stairs_192_e1 (by decide +kernel)
theorem dX12_stairs_229 : decode cX12_stairs 229 = .ok (.goto (-44), 3) := rd_chunk (k := 192) (i := 37) kmX12_stairs_192_e1 (by decide +kernel)
theorem dX12_stairs_232 : decode cX12_stairs 232 = .ok (.aload_n 0, 1) := rd_chunk (k := 192) (i := 40) kmX12_stairs_192_e1 (by decide +kernel)
theorem dX12_stairs_233 : decode cX12_stairs 233 = .ok (.getfield 19, 3) := rd_chunk (k := 192) (i := 41) kmX12_stairs_192_e1 (by decide +kernel)
theorem dX12_stairs_236 : decode cX12_stairs 236 = .ok (.iload_n 3, 1) := rd_chunk (k := 192) (i := 44) kmX12_stairs_192_e1 (by decide +kernel)
theorem dX12_stairs_237 : decode cX12_stairs 237 = .ok (.aload_n 0, 1) := rd_chunk (k := 192) (i := 45) kmX12_stairs_192_e1 (by decide +kernel)
theorem dX12_stairs_238 : decode cX12_stairs 238 = .ok (.getfield 64, 3) := rd_chunk (k := 192) (i := 46) kmX12_stairs_192_e1 (by decide +kernel)
theorem dX12_stairs_241 : decode cX12_stairs 241 = .ok (.iconst 5, 1) := rd_chunk (k := 192) (i := 49) kmX12_stairs_192_e1 (by decide +kernel)
theorem dX12_stairs_242 : decode cX12_stairs 242 = .ok (.iload_n 3, 1) := rd_chunk (k := 192) (i := 50) kmX12_stairs_192_e1 (by decide +kernel)
theorem dX12_stairs_243 : decode cX12_stairs 243 = .ok (.imul, 1) := rd_chunk (k := 192) (i := 51) kmX12_stairs_192_e1 (by decide +kernel)
theorem dX12_stairs_244 : decode cX12_stairs 244 = .ok (.iconst 4, 1) := rd_chunk (k := 192) (i := 52) kmX12_stairs_192_e1 (by decide +kernel)
theorem dX12_stairs_245 : decode cX12_stairs 245 = .ok (.iadd, 1) := rd_chunk (k := 192) (i := 53) kmX12_stairs_192_e1 (by decide +kernel)
theorem dX12_stairs_246 : decode cX12_stairs 246 = .ok (.iaload, 1) := rd_chunk (k := 192) (i := 54) kmX12_stairs_192_e1 (by decide +kernel)
theorem dX12_stairs_247 : decode cX12_stairs 247 = .ok (.iconst 1, 1) := rd_chunk (k := 192) (i := 55) kmX12_stairs_192_e1 (by decide +kernel)
theorem dX12_stairs_248 : decode cX12_stairs 248 = .ok (.if_icmp .ne 7, 3) := rd_chunk (k := 192) (i := 56) kmX12_stairs_192_e1 (by decide +kernel)
theorem dX12_stairs_251 : decode cX12_stairs 251 = .ok (.iconst 1, 1) := rd_chunk (k := 192) (i := 59) kmX12_stairs_192_e1 (by decide +kernel)
theorem dX12_stairs_252 : decode cX12_stairs 252 = .ok (.goto 4, 3) := rd_chunk (k := 192) (i := 60) kmX12_stairs_192_e1 (by decide +kernel)
theorem dX12_stairs_255 : decode cX12_stairs 255 = .ok (.iconst 0, 1) := rd_chunk (k := 192) (i := 63) kmX12_stairs_192_e1 (by decide +kernel)
abbrev mX12_stairs_256_e1 : ByteArray := .mk #[0x54, 0x84, 0x03, 0x01, 0xa7, 0xff, 0x7f, 0x2a, 0x59, 0xb4, 0x00, 0xc6, 0x04, 0x60, 0xb5, 0x00, 0xc6, 0x2a, 0x03, 0xb5, 0x00, 0xc9, 0x03, 0x3e, 0x1d, 0x10, 0x08, 0xa2, 0x00, 0x10, 0x2a, 0xb4, 0x00, 0x35, 0x1d, 0x03, 0x4f, 0x84, 0x03, 0x01, 0xa7, 0xff, 0xf0, 0x03, 0x3e, 0x1d, 0x2a, 0xb4, 0x00, 0x99, 0xa2, 0x00, 0x28, 0x2a, 0xb4, 0x00, 0x2c, 0x1d, 0x02, 0x4f, 0x2a, 0xb4, 0x00, 0x2f, 0x1d, 0x2a, 0xb4, 0x00, 0x1d, 0x1d, 0x2e, 0x4f]
theorem kmX12_stairs_256_e1 : CK cX12_stairs 256 mX12_stairs_256_e1 := ck_of (by decide +kernel)
theorem dX12_stairs_256 : decode cX12_stairs 256 = .ok (.bastore, 1) := rd_chunk (k := 256) (i := 0) kmX12_stairs_256_e1 (by decide +kernel)
theorem dX12_stairs_257 : decode cX12_stairs 257 = .ok (.iinc 3 1, 3) := rd_chunk (k := 256) (i := 1) kmX12_stairs_256_e1 (by decide +kernel)
theorem dX12_stairs_260 : decode cX12_stairs 260 = .ok (.goto (-129), 3) := rd_chunk (k := 256) (i := 4) kmX12_stairs_256_e1 (by decide +kernel)
theorem dX12_stairs_263 : decode cX12_stairs 263 = .ok (.aload_n 0, 1) := rd_chunk (k := 256) (i := 7) kmX12_stairs_256_e1 (by decide +kernel)
theorem dX12_stairs_264 : decode cX12_stairs 264 = .ok (.dup, 1) := rd_chunk (k := 256) (i := 8) kmX12_stairs_256_e1 (by decide +kernel)
theorem dX12_stairs_265 : decode cX12_stairs 265 = .ok (.getfield 198, 3) := rd_chunk (k := 256) (i := 9) kmX12_stairs_256_e1 (by decide +kernel)
theorem dX12_stairs_268 : decode cX12_stairs 268 = .ok (.iconst 1, 1) := rd_chunk (k := 256) (i := 12) kmX12_stairs_256_e1 (by decide +kernel)
theorem dX12_stairs_269 : decode cX12_stairs 269 = .ok (.iadd, 1) := rd_chunk (k := 256) (i := 13) kmX12_stairs_256_e1 (by decide +kernel)
theorem dX12_stairs_270 : decode cX12_stairs 270 = .ok (.putfield 198, 3) := rd_chunk (k := 256) (i := 14) kmX12_stairs_256_e1 (by decide +kernel)
theorem dX12_stairs_273 : decode cX12_stairs 273 = .ok (.aload_n 0, 1) := rd_chunk (k := 256) (i := 17) kmX12_stairs_256_e1 (by decide +kernel)
theorem dX12_stairs_274 : decode cX12_stairs 274 = .ok (.iconst 0, 1) := rd_chunk (k := 256) (i := 18) kmX12_stairs_256_e1 (by decide +kernel)
theorem dX12_stairs_275 : decode cX12_stairs 275 = .ok (.putfield 201, 3) := rd_chunk (k := 256) (i := 19) kmX12_stairs_256_e1 (by decide +kernel)
theorem dX12_stairs_278 : decode cX12_stairs 278 = .ok (.iconst 0, 1) := rd_chunk (k := 256) (i := 22) kmX12_stairs_256_e1 (by decide +kernel)
theorem dX12_stairs_279 : decode cX12_stairs 279 = .ok (.istore_n 3, 1) := rd_chunk (k := 256) (i := 23) kmX12_stairs_256_e1 (by decide +kernel)
theorem dX12_stairs_280 : decode cX12_stairs 280 = .ok (.iload_n 3, 1) := rd_chunk (k := 256) (i := 24) kmX12_stairs_256_e1 (by decide +kernel)
theorem dX12_stairs_281 : decode cX12_stairs 281 = .ok (.bipush 8, 2) := rd_chunk (k := 256) (i := 25) kmX12_stairs_256_e1 (by decide +kernel)
theorem dX12_stairs_283 : decode cX12_stairs 283 = .ok (.if_icmp .ge 16, 3) := rd_chunk (k := 256) (i := 27) kmX12_stairs_256_e1 (by decide +kernel)
theorem dX12_stairs_286 : decode cX12_stairs 286 = .ok (.aload_n 0, 1) := rd_chunk (k := 256) (i := 30) kmX12_stairs_256_e1 (by decide +kernel)
theorem dX12_stairs_287 : decode cX12_stairs 287 = .ok (.getfield 53, 3) := rd_chunk (k := 256) (i := 31) kmX12_stairs_256_e1 (by decide +kernel)
theorem dX12_stairs_290 : decode cX12_stairs 290 = .ok (.iload_n 3, 1) := rd_chunk (k := 256) (i := 34) kmX12_stairs_256_e1 (by decide +kernel)
theorem dX12_stairs_291 : decode cX12_stairs 291 = .ok (.iconst 0, 1) := rd_chunk (k := 256) (i := 35) kmX12_stairs_256_e1 (by decide +kernel)
theorem dX12_stairs_292 : decode cX12_stairs 292 = .ok (.iastore, 1) := rd_chunk (k := 256) (i := 36) kmX12_stairs_256_e1 (by decide +kernel)
theorem dX12_stairs_293 : decode cX12_stairs 293 = .ok (.iinc 3 1, 3) := rd_chunk (k := 256) (i := 37) kmX12_stairs_256_e1 (by decide +kernel)
theorem dX12_stairs_296 : decode cX12_stairs 296 = .ok (.goto (-16), 3) := rd_chunk (k := 256) (i := 40) kmX12_stairs_256_e1 (by decide +kernel)
theorem dX12_stairs_299 : decode cX12_stairs 299 = .ok (.iconst 0, 1) := rd_chunk (k := 256) (i := 43) kmX12_stairs_256_e1 (by decide +kernel)
theorem dX12_stairs_300 : decode cX12_stairs 300 = .ok (.istore_n 3, 1) := rd_chunk (k := 256) (i := 44) kmX12_stairs_256_e1 (by decide +kernel)
theorem dX12_stairs_301 : decode cX12_stairs 301 = .ok (.iload_n 3, 1) := rd_chunk (k := 256) (i := 45) kmX12_stairs_256_e1 (by decide +kernel)
theorem dX12_stairs_302 : decode cX12_stairs 302 = .ok (.aload_n 0, 1) := rd_chunk (k := 256) (i := 46) kmX12_stairs_256_e1 (by decide +kernel)
theorem dX12_stairs_303 : decode cX12_stairs 303 = .ok (.getfield 153, 3) := rd_chunk (k := 256) (i := 47) kmX12_stairs_256_e1 (by decide +kernel)
theorem dX12_stairs_306 : decode cX12_stairs 306 = .ok (.if_icmp .ge 40, 3) := rd_chunk (k := 256) (i := 50) kmX12_stairs_256_e1 (by decide +kernel)
theorem dX12_stairs_309 : decode cX12_stairs 309 = .ok (.aload_n 0, 1) := rd_chunk (k := 256) (i := 53) kmX12_stairs_256_e1 (by decide +kernel)
theorem dX12_stairs_310 : decode cX12_stairs 310 = .ok (.getfield 44, 3) := rd_chunk (k := 256) (i := 54) kmX12_stairs_256_e1 (by decide +kernel)
theorem dX12_stairs_313 : decode cX12_stairs 313 = .ok (.iload_n 3, 1) := rd_chunk (k := 256) (i := 57) kmX12_stairs_256_e1 (by decide +kernel)
theorem dX12_stairs_314 : decode cX12_stairs 314 = .ok (.iconst (-1), 1) := rd_chunk (k := 256) (i := 58) kmX12_stairs_256_e1 (by decide +kernel)
theorem dX12_stairs_315 : decode cX12_stairs 315 = .ok (.iastore, 1) := rd_chunk (k := 256) (i := 59) kmX12_stairs_256_e1 (by decide +kernel)
theorem dX12_stairs_316 : decode cX12_stairs 316 = .ok (.aload_n 0, 1) := rd_chunk (k := 256) (i := 60) kmX12_stairs_256_e1 (by decide +kernel)
theorem dX12_stairs_317 : decode cX12_stairs 317 = .ok (.getfield 47, 3) := rd_chunk (k := 256) (i := 61) kmX12_stairs_256_e1 (by decide +kernel)
abbrev mX12_stairs_320_e1 : ByteArray := .mk #[0x1d, 0x2a, 0xb4, 0x00, 0x1d, 0x1d, 0x2e, 0x4f, 0x2a, 0xb4, 0x00, 0x32, 0x1d, 0x2a, 0xb4, 0x00, 0x20, 0x1d, 0x2e, 0x4f, 0x84, 0x03, 0x01, 0xa7, 0xff, 0xd6, 0x1b, 0xac]
theorem kmX12_stairs_320_e1 : CK cX12_stairs 320 mX12_stairs_320_e1 := ck_of (by decide +kernel)
theorem dX12_stairs_320 : decode cX12_stairs 320 = .ok (.iload_n 3, 1) := rd_chunk (k := 320) (i := 0) kmX12_stairs_320_e1 (by decide +kernel)
theorem dX12_stairs_321 : decode cX12_stairs 321 = .ok (.aload_n 0, 1) := rd_chunk (k := 320) (i := 1) kmX12_stairs_320_e1 (by decide +kernel)
theorem dX12_stairs_322 : decode cX12_stairs 322 = .ok (.getfield 29, 3) := rd_chunk (k := 320) (i := 2) kmX12_stairs_320_e1 (by decide +kernel)
theorem dX12_stairs_325 : decode cX12_stairs 325 = .ok (.iload_n 3, 1) := rd_chunk (k := 320) (i := 5) kmX12_stairs_320_e1 (by decide +kernel)
theorem dX12_stairs_326 : decode cX12_stairs 326 = .ok (.iaload, 1) := rd_chunk (k := 320) (i := 6) kmX12_stairs_320_e1 (by decide +kernel)
theorem dX12_stairs_327 : decode cX12_stairs 327 = .ok (.iastore, 1) := rd_chunk (k := 320) (i := 7) kmX12_stairs_320_e1 (by decide +kernel)
theorem dX12_stairs_328 : decode cX12_stairs 328 = .ok (.aload_n 0, 1) := rd_chunk (k := 320) (i := 8) kmX12_stairs_320_e1 (by decide +kernel)
theorem dX12_stairs_329 : decode cX12_stairs 329 = .ok (.getfield 50, 3) := rd_chunk (k := 320) (i := 9) kmX12_stairs_320_e1 (by decide +kernel)
theorem dX12_stairs_332 : decode cX12_stairs 332 = .ok (.iload_n 3, 1) := rd_chunk (k := 320) (i := 12) kmX12_stairs_320_e1 (by decide +kernel)
theorem dX12_stairs_333 : decode cX12_stairs 333 = .ok (.aload_n 0, 1) := rd_chunk (k := 320) (i := 13) kmX12_stairs_320_e1 (by decide +kernel)
theorem dX12_stairs_334 : decode cX12_stairs 334 = .ok (.getfield 32, 3) := rd_chunk (k := 320) (i := 14) kmX12_stairs_320_e1 (by decide +kernel)
theorem dX12_stairs_337 : decode cX12_stairs 337 = .ok (.iload_n 3, 1) := rd_chunk (k := 320) (i := 17) kmX12_stairs_320_e1 (by decide +kernel)
theorem dX12_stairs_338 : decode cX12_stairs 338 = .ok (.iaload, 1) := rd_chunk (k := 320) (i := 18) kmX12_stairs_320_e1 (by decide +kernel)
theorem dX12_stairs_339 : decode cX12_stairs 339 = .ok (.iastore, 1) := rd_chunk (k := 320) (i := 19) kmX12_stairs_320_e1 (by decide +kernel)
theorem dX12_stairs_340 : decode cX12_stairs 340 = .ok (.iinc 3 1, 3) := rd_chunk (k := 320) (i := 20) kmX12_stairs_320_e1 (by decide +kernel)
theorem dX12_stairs_343 : decode cX12_stairs 343 = .ok (.goto (-42), 3) := rd_chunk (k := 320) (i := 23) kmX12_stairs_320_e1 (by decide +kernel)
theorem dX12_stairs_346 : decode cX12_stairs 346 = .ok (.iload_n 1, 1) := rd_chunk (k := 320) (i := 26) kmX12_stairs_320_e1 (by decide +kernel)
theorem dX12_stairs_347 : decode cX12_stairs 347 = .ok (.ireturn, 1) := rd_chunk (k := 320) (i := 27) kmX12_stairs_320_e1 (by decide +kernel)
abbrev mX12_readLine_0_e1 : ByteArray := .mk #[0x2a, 0x05, 0x04, 0x10, 0x1e, 0xb6, 0x00, 0xcc, 0x3d, 0x2a, 0x10, 0x2c, 0xb6, 0x00, 0xd0, 0x2a, 0x05, 0x03, 0x10, 0x09, 0xb6, 0x00, 0xcc, 0x3e, 0x2a, 0x10, 0x2c, 0xb6, 0x00, 0xd0, 0x2a, 0x05, 0x03, 0x10, 0x14, 0xb6, 0x00, 0xcc, 0x36, 0x04, 0x2a, 0x10, 0x40, 0xb6, 0x00, 0xd0, 0x2a, 0x04, 0x03, 0x10, 0x07, 0xb6, 0x00, 0xcc, 0x36, 0x05, 0x2a, 0x10, 0x77, 0xb6, 0x00, 0xb6, 0x99, 0x00, 0x07, 0x04, 0xa7, 0x00, 0x04, 0x03, 0x36, 0x06]
theorem kmX12_readLine_0_e1 : CK cX12_readLine 0 mX12_readLine_0_e1 := ck_of (by decide +kernel)
theorem dX12_readLine_0 : decode cX12_readLine 0 = .ok (.aload_n 0, 1) := rd_chunk (k := 0) (i := 0) kmX12_readLine_0_e1 (by decide +kernel)
theorem dX12_readLine_1 : decode cX12_readLine 1 = .ok (.iconst 2, 1) := rd_chunk (k := 0) (i := 1) kmX12_readLine_0_e1 (by decide +kernel)
theorem dX12_readLine_2 : decode cX12_readLine 2 = .ok (.iconst 1, 1) := rd_chunk (k := 0) (i := 2) kmX12_readLine_0_e1 (by decide +kernel)
theorem dX12_readLine_3 : decode cX12_readLine 3 = .ok (.bipush 30, 2) := rd_chunk (k := 0) (i := 3) kmX12_readLine_0_e1 (by decide +kernel)
theorem dX12_readLine_5 : decode cX12_readLine 5 = .ok (.invokevirtual 204, 3) := rd_chunk (k := 0) (i := 5) kmX12_readLine_0_e1 (by decide +kernel)
theorem dX12_readLine_8 : decode cX12_readLine 8 = .ok (.istore_n 2, 1) := rd_chunk (k := 0) (i := 8) kmX12_readLine_0_e1 (by decide +kernel)
theorem dX12_readLine_9 : decode cX12_readLine 9 = .ok (.aload_n 0, 1) := rd_chunk (k := 0) (i := 9) kmX12_readLine_0_e1 (by decide +kernel)
theorem dX12_readLine_10 : decode cX12_readLine 10 = .ok (.bipush 44, 2) := rd_chunk (k := 0) (i := 10) kmX12_readLine_0_e1 (by decide +kernel)
theorem dX12_readLine_12 : decode cX12_readLine 12 = .ok (.invokevirtual 208, 3) := rd_chunk (k := 0) (i := 12) kmX12_readLine_0_e1 (by decide +kernel)
theorem dX12_readLine_15 : decode cX12_readLine 15 = .ok (.aload_n 0, 1) := rd_chunk (k := 0) (i := 15) kmX12_readLine_0_e1 (by decide +kernel)
theorem dX12_readLine_16 : decode cX12_readLine 16 = .ok (.iconst 2, 1) := rd_chunk (k := 0) (i := 16) kmX12_readLine_0_e1 (by decide +kernel)
theorem dX12_readLine_17 : decode cX12_readLine 17 = .ok (.iconst 0, 1) := rd_chunk (k := 0) (i := 17) kmX12_readLine_0_e1 (by decide +kernel)
theorem dX12_readLine_18 : decode cX12_readLine 18 = .ok (.bipush 9, 2) := rd_chunk (k := 0) (i := 18) kmX12_readLine_0_e1 (by decide +kernel)
theorem dX12_readLine_20 : decode cX12_readLine 20 = .ok (.invokevirtual 204, 3) := rd_chunk (k := 0) (i := 20) kmX12_readLine_0_e1 (by decide +kernel)
theorem dX12_readLine_23 : decode cX12_readLine 23 = .ok (.istore_n 3, 1) := rd_chunk (k := 0) (i := 23) kmX12_readLine_0_e1 (by decide +kernel)
theorem dX12_readLine_24 : decode cX12_readLine 24 = .ok (.aload_n 0, 1) := rd_chunk (k := 0) (i := 24) kmX12_readLine_0_e1 (by decide +kernel)
theorem dX12_readLine_25 : decode cX12_readLine 25 = .ok (.bipush 44, 2) := rd_chunk (k := 0) (i := 25) kmX12_readLine_0_e1 (by decide +kernel)
theorem dX12_readLine_27 : decode cX12_readLine 27 = .ok (.invokevirtual 208, 3) := rd_chunk (k := 0) (i := 27) kmX12_readLine_0_e1 (by decide +kernel)
theorem dX12_readLine_30 : decode cX12_readLine 30 = .ok (.aload_n 0, 1) := rd_chunk (k := 0) (i := 30) kmX12_readLine_0_e1 (by decide +kernel)
theorem dX12_readLine_31 : decode cX12_readLine 31 = .ok (.iconst 2, 1) := rd_chunk (k := 0) (i := 31) kmX12_readLine_0_e1 (by decide +kernel)
theorem dX12_readLine_32 : decode cX12_readLine 32 = .ok (.iconst 0, 1) := rd_chunk (k := 0) (i := 32) kmX12_readLine_0_e1 (by decide +kernel)
theorem dX12_readLine_33 : decode cX12_readLine 33 = .ok (.bipush 20, 2) := rd_chunk (k := 0) (i := 33) kmX12_readLine_0_e1 (by decide +kernel)
theorem dX12_readLine_35 : decode cX12_readLine 35 = .ok (.invokevirtual 204, 3) := rd_chunk (k := 0) (i := 35) kmX12_readLine_0_e1 (by decide +kernel)
theorem dX12_readLine_38 : decode cX12_readLine 38 = .ok (.istore 4, 2) := rd_chunk (k := 0) (i := 38) kmX12_readLine_0_e1 (by decide +kernel)
theorem dX12_readLine_40 : decode cX12_readLine 40 = .ok (.aload_n 0, 1) := rd_chunk (k := 0) (i := 40) kmX12_readLine_0_e1 (by decide +kernel)
theorem dX12_readLine_41 : decode cX12_readLine 41 = .ok (.bipush 64, 2) := rd_chunk (k := 0) (i := 41) kmX12_readLine_0_e1 (by decide +kernel)
theorem dX12_readLine_43 : decode cX12_readLine 43 = .ok (.invokevirtual 208, 3) := rd_chunk (k := 0) (i := 43) kmX12_readLine_0_e1 (by decide +kernel)
theorem dX12_readLine_46 : decode cX12_readLine 46 = .ok (.aload_n 0, 1) := rd_chunk (k := 0) (i := 46) kmX12_readLine_0_e1 (by decide +kernel)
theorem dX12_readLine_47 : decode cX12_readLine 47 = .ok (.iconst 1, 1) := rd_chunk (k := 0) (i := 47) kmX12_readLine_0_e1 (by decide +kernel)
theorem dX12_readLine_48 : decode cX12_readLine 48 = .ok (.iconst 0, 1) := rd_chunk (k := 0) (i := 48) kmX12_readLine_0_e1 (by decide +kernel)
theorem dX12_readLine_49 : decode cX12_readLine 49 = .ok (.bipush 7, 2) := rd_chunk (k := 0) (i := 49) kmX12_readLine_0_e1 (by decide +kernel)
theorem dX12_readLine_51 : decode cX12_readLine 51 = .ok (.invokevirtual 204, 3) := rd_chunk (k := 0) (i := 51) kmX12_readLine_0_e1 (by decide +kernel)
theorem dX12_readLine_54 : decode cX12_readLine 54 = .ok (.istore 5, 2) := rd_chunk (k := 0) (i := 54) kmX12_readLine_0_e1 (by decide +kernel)
theorem dX12_readLine_56 : decode cX12_readLine 56 = .ok (.aload_n 0, 1) := rd_chunk (k := 0) (i := 56) kmX12_readLine_0_e1 (by decide +kernel)
theorem dX12_readLine_57 : decode cX12_readLine 57 = .ok (.bipush 119, 2) := rd_chunk (k := 0) (i := 57) kmX12_readLine_0_e1 (by decide +kernel)
theorem dX12_readLine_59 : decode cX12_readLine 59 = .ok (.invokevirtual 182, 3) := rd_chunk (k := 0) (i := 59) kmX12_readLine_0_e1 (by decide +kernel)
theorem dX12_readLine_62 : decode cX12_readLine 62 = .ok (.ifCond .eq 7, 3) := rd_chunk (k := 0) (i := 62) kmX12_readLine_0_e1 (by decide +kernel)
abbrev mX12_readLine_64_e1 : ByteArray := .mk #[0x07, 0x04, 0xa7, 0x00, 0x04, 0x03, 0x36, 0x06, 0x2a, 0x10, 0x2a, 0xb6, 0x00, 0xb6, 0x99, 0x00, 0x10, 0x2a, 0x05, 0x04, 0x10, 0x18, 0x1b, 0x64, 0xb6, 0x00, 0xcc, 0xa7, 0x00, 0x04, 0x04, 0x36, 0x07, 0x2a, 0xb6, 0x00, 0xae, 0x9a, 0x00, 0x05, 0x1b, 0xac, 0x03, 0x36, 0x08, 0x15, 0x08, 0x15, 0x07, 0xa2, 0x00, 0x44, 0x08, 0x1b, 0x15, 0x08, 0x60, 0x68, 0x36, 0x09, 0x2a, 0xb4, 0x00, 0x40, 0x15, 0x09, 0x1c, 0x4f, 0x2a, 0xb4, 0x00, 0x40]
theorem kmX12_readLine_64_e1 : CK cX12_readLine 64 mX12_readLine_64_e1 := ck_of (by decide +kernel)
theorem dX12_readLine_65 : decode cX12_readLine 65 = .ok (.iconst 1, 1) := rd_chunk (k := 64) (i := 1) kmX12_readLine_64_e1 (by decide +kernel)
theorem dX12_readLine_66 : decode cX12_readLine 66 = .ok (.goto 4, 3) := rd_chunk (k := 64) (i := 2) kmX12_readLine_64_e1 (by decide +kernel)
theorem dX12_readLine_69 : decode cX12_readLine 69 = .ok (.iconst 0, 1) := rd_chunk (k := 64) (i := 5) kmX12_readLine_64_e1 (by decide +kernel)
theorem dX12_readLine_70 : decode cX12_readLine 70 = .ok (.istore 6, 2) := rd_chunk (k := 64) (i := 6) kmX12_readLine_64_e1 (by decide +kernel)
theorem dX12_readLine_72 : decode cX12_readLine 72 = .ok (.aload_n 0, 1) := rd_chunk (k := 64) (i := 8) kmX12_readLine_64_e1 (by decide +kernel)
theorem dX12_readLine_73 : decode cX12_readLine 73 = .ok (.bipush 42, 2) := rd_chunk (k := 64) (i := 9) kmX12_readLine_64_e1 (by decide +kernel)
theorem dX12_readLine_75 : decode cX12_readLine 75 = .ok (.invokevirtual 182, 3) := rd_chunk (k := 64) (i := 11) kmX12_readLine_64_e1 (by decide +kernel)
theorem dX12_readLine_78 : decode cX12_readLine 78 = .ok (.ifCond .eq 16, 3) := rd_chunk (k := 64) (i := 14) kmX12_readLine_64_e1 (by decide +kernel)
theorem dX12_readLine_81 : decode cX12_readLine 81 = .ok (.aload_n 0, 1) := rd_chunk (k := 64) (i := 17) kmX12_readLine_64_e1 (by decide +kernel)
theorem dX12_readLine_82 : decode cX12_readLine 82 = .ok (.iconst 2, 1) := rd_chunk (k := 64) (i := 18) kmX12_readLine_64_e1 (by decide +kernel)
theorem dX12_readLine_83 : decode cX12_readLine 83 = .ok (.iconst 1, 1) := rd_chunk (k := 64) (i := 19) kmX12_readLine_64_e1 (by decide +kernel)
theorem dX12_readLine_84 : decode cX12_readLine 84 = .ok (.bipush 24, 2) := rd_chunk (k := 64) (i := 20) kmX12_readLine_64_e1 (by decide +kernel)
theorem dX12_readLine_86 : decode cX12_readLine 86 = .ok (.iload_n 1, 1) := rd_chunk (k := 64) (i := 22) kmX12_readLine_64_e1 (by decide +kernel)
theorem dX12_readLine_87 : decode cX12_readLine 87 = .ok (.isub, 1) := rd_chunk (k := 64) (i := 23) kmX12_readLine_64_e1 (by decide +kernel)
theorem dX12_readLine_88 : decode cX12_readLine 88 = .ok (.invokevirtual 204, 3) := rd_chunk (k := 64) (i := 24) kmX12_readLine_64_e1 (by decide +kernel)
theorem dX12_readLine_91 : decode cX12_readLine 91 = .ok (.goto 4, 3) := rd_chunk (k := 64) (i := 27) kmX12_readLine_64_e1 (by decide +kernel)
theorem dX12_readLine_94 : decode cX12_readLine 94 = .ok (.iconst 1, 1) := rd_chunk (k := 64) (i := 30) kmX12_readLine_64_e1 (by decide +kernel)
theorem dX12_readLine_95 : decode cX12_readLine 95 = .ok (.istore 7, 2) := rd_chunk (k := 64) (i := 31) kmX12_readLine_64_e1 (by decide +kernel)
theorem dX12_readLine_97 : decode cX12_readLine 97 = .ok (.aload_n 0, 1) := rd_chunk (k := 64) (i := 33) kmX12_readLine_64_e1 (by decide +kernel)
theorem dX12_readLine_98 : decode cX12_readLine 98 = .ok (.invokevirtual 174, 3) := rd_chunk (k := 64) (i := 34) kmX12_readLine_64_e1 (by decide +kernel)
theorem dX12_readLine_101 : decode cX12_readLine 101 = .ok (.ifCond .ne 5, 3) := rd_chunk (k := 64) (i := 37) kmX12_readLine_64_e1 (by decide +kernel)
theorem dX12_readLine_104 : decode cX12_readLine 104 = .ok (.iload_n 1, 1) := rd_chunk (k := 64) (i := 40) kmX12_readLine_64_e1 (by decide +kernel)
theorem dX12_readLine_105 : decode cX12_readLine 105 = .ok (.ireturn, 1) := rd_chunk (k := 64) (i := 41) kmX12_readLine_64_e1 (by decide +kernel)
theorem dX12_readLine_106 : decode cX12_readLine 106 = .ok (.iconst 0, 1) := rd_chunk (k := 64) (i := 42) kmX12_readLine_64_e1 (by decide +kernel)
theorem dX12_readLine_107 : decode cX12_readLine 107 = .ok (.istore 8, 2) := rd_chunk (k := 64) (i := 43) kmX12_readLine_64_e1 (by decide +kernel)
theorem dX12_readLine_109 : decode cX12_readLine 109 = .ok (.iload 8, 2) := rd_chunk (k := 64) (i := 45) kmX12_readLine_64_e1 (by decide +kernel)
theorem dX12_readLine_111 : decode cX12_readLine 111 = .ok (.iload 7, 2) := rd_chunk (k := 64) (i := 47) kmX12_readLine_64_e1 (by decide +kernel)
theorem dX12_readLine_113 : decode cX12_readLine 113 = .ok (.if_icmp .ge 68, 3) := rd_chunk (k := 64) (i := 49) kmX12_readLine_64_e1 (by decide +kernel)
theorem dX12_readLine_116 : decode cX12_readLine 116 = .ok (.iconst 5, 1) := rd_chunk (k := 64) (i := 52) kmX12_readLine_64_e1 (by decide +kernel)
theorem dX12_readLine_117 : decode cX12_readLine 117 = .ok (.iload_n 1, 1) := rd_chunk (k := 64) (i := 53) kmX12_readLine_64_e1 (by decide +kernel)
theorem dX12_readLine_118 : decode cX12_readLine 118 = .ok (.iload 8, 2) := rd_chunk (k := 64) (i := 54) kmX12_readLine_64_e1 (by decide +kernel)
theorem dX12_readLine_120 : decode cX12_readLine 120 = .ok (.iadd, 1) := rd_chunk (k := 64) (i := 56) kmX12_readLine_64_e1 (by decide +kernel)
theorem dX12_readLine_121 : decode cX12_readLine 121 = .ok (.imul, 1) := rd_chunk (k := 64) (i := 57) kmX12_readLine_64_e1 (by decide +kernel)
theorem dX12_readLine_122 : decode cX12_readLine 122 = .ok (.istore 9, 2) := rd_chunk (k := 64) (i := 58) kmX12_readLine_64_e1 (by decide +kernel)
theorem dX12_readLine_124 : decode cX12_readLine 124 = .ok (.aload_n 0, 1) := rd_chunk (k := 64) (i := 60) kmX12_readLine_64_e1 (by decide +kernel)
theorem dX12_readLine_125 : decode cX12_readLine 125 = .ok (.getfield 64, 3) := rd_chunk (k := 64) (i := 61) kmX12_readLine_64_e1 (by decide +kernel)
abbrev mX12_readLine_128_e1 : ByteArray := .mk #[0x15, 0x09, 0x1c, 0x4f, 0x2a, 0xb4, 0x00, 0x40, 0x15, 0x09, 0x04, 0x60, 0x1d, 0x4f, 0x2a, 0xb4, 0x00, 0x40, 0x15, 0x09, 0x05, 0x60, 0x15, 0x04, 0x4f, 0x2a, 0xb4, 0x00, 0x40, 0x15, 0x09, 0x06, 0x60, 0x15, 0x05, 0x4f, 0x2a, 0xb4, 0x00, 0x40, 0x15, 0x09, 0x07, 0x60, 0x15, 0x06, 0x4f, 0x84, 0x08, 0x01, 0xa7, 0xff, 0xbb, 0x1b, 0x15, 0x07, 0x60, 0xac]
theorem kmX12_readLine_128_e1 : CK cX12_readLine 128 mX12_readLine_128_e1 := ck_of (by decide +kernel)
theorem dX12_readLine_128 : decode cX12_readLine 128 = .ok (.iload 9, 2) := rd_chunk (k := 128) (i := 0) kmX12_readLine_128_e1 (by decide +kernel)
theorem dX12_readLine_130 : decode cX12_readLine 130 = .ok (.iload_n 2, 1) := rd_chunk (k := 128) (i := 2) kmX12_readLine_128_e1 (by decide +kernel)
theorem dX12_readLine_131 : decode cX12_readLine 131 = .ok (.iastore, 1) := rd_chunk (k := 128) (i := 3) kmX12_readLine_128_e1 (by decide +kernel)
theorem dX12_readLine_132 : decode cX12_readLine 132 = .ok (.aload_n 0, 1) := rd_chunk (k := 128) (i := 4) kmX12_readLine_128_e1 (by decide +kernel)
theorem dX12_readLine_133 : decode cX12_readLine 133 = .ok (.getfield 64, 3) := rd_chunk (k := 128) (i := 5) kmX12_readLine_128_e1 (by decide +kernel)
theorem dX12_readLine_136 : decode cX12_readLine 136 = .ok (.iload 9, 2) := rd_chunk (k := 128) (i := 8) kmX12_readLine_128_e1 (by decide +kernel)
theorem dX12_readLine_138 : decode cX12_readLine 138 = .ok (.iconst 1, 1) := rd_chunk (k := 128) (i := 10) kmX12_readLine_128_e1 (by decide +kernel)
theorem dX12_readLine_139 : decode cX12_readLine 139 = .ok (.iadd, 1) := rd_chunk (k := 128) (i := 11) kmX12_readLine_128_e1 (by decide +kernel)
theorem dX12_readLine_140 : decode cX12_readLine 140 = .ok (.iload_n 3, 1) := rd_chunk (k := 128) (i := 12) kmX12_readLine_128_e1 (by decide +kernel)
theorem dX12_readLine_141 : decode cX12_readLine 141 = .ok (.iastore, 1) := rd_chunk (k := 128) (i := 13) kmX12_readLine_128_e1 (by decide +kernel)
theorem dX12_readLine_142 : decode cX12_readLine 142 = .ok (.aload_n 0, 1) := rd_chunk (k := 128) (i := 14) kmX12_readLine_128_e1 (by decide +kernel)
theorem dX12_readLine_143 : decode cX12_readLine 143 = .ok (.getfield 64, 3) := rd_chunk (k := 128) (i := 15) kmX12_readLine_128_e1 (by decide +kernel)
theorem dX12_readLine_146 : decode cX12_readLine 146 = .ok (.iload 9, 2) := rd_chunk (k := 128) (i := 18) kmX12_readLine_128_e1 (by decide +kernel)
theorem dX12_readLine_148 : decode cX12_readLine 148 = .ok (.iconst 2, 1) := rd_chunk (k := 128) (i := 20) kmX12_readLine_128_e1 (by decide +kernel)
theorem dX12_readLine_149 : decode cX12_readLine 149 = .ok (.iadd, 1) := rd_chunk (k := 128) (i := 21) kmX12_readLine_128_e1 (by decide +kernel)
theorem dX12_readLine_150 : decode cX12_readLine 150 = .ok (.iload 4, 2) := rd_chunk (k := 128) (i := 22) kmX12_readLine_128_e1 (by decide +kernel)
theorem dX12_readLine_152 : decode cX12_readLine 152 = .ok (.iastore, 1) := rd_chunk (k := 128) (i := 24) kmX12_readLine_128_e1 (by decide +kernel)
theorem dX12_readLine_153 : decode cX12_readLine 153 = .ok (.aload_n 0, 1) := rd_chunk (k := 128) (i := 25) kmX12_readLine_128_e1 (by decide +kernel)
theorem dX12_readLine_154 : decode cX12_readLine 154 = .ok (.getfield 64, 3) := rd_chunk (k := 128) (i := 26) kmX12_readLine_128_e1 (by decide +kernel)
theorem dX12_readLine_157 : decode cX12_readLine 157 = .ok (.iload 9, 2) := rd_chunk (k := 128) (i := 29) kmX12_readLine_128_e1 (by decide +kernel)
theorem dX12_readLine_159 : decode cX12_readLine 159 = .ok (.iconst 3, 1) := rd_chunk (k := 128) (i := 31) kmX12_readLine_128_e1 (by decide +kernel)
theorem dX12_readLine_160 : decode cX12_readLine 160 = .ok (.iadd, 1) := rd_chunk (k := 128) (i := 32) kmX12_readLine_128_e1 (by decide +kernel)
theorem dX12_readLine_161 : decode cX12_readLine 161 = .ok (.iload 5, 2) := rd_chunk (k := 128) (i := 33) kmX12_readLine_128_e1 (by decide +kernel)
theorem dX12_readLine_163 : decode cX12_readLine 163 = .ok (.iastore, 1) := rd_chunk (k := 128) (i := 35) kmX12_readLine_128_e1 (by decide +kernel)
theorem dX12_readLine_164 : decode cX12_readLine 164 = .ok (.aload_n 0, 1) := rd_chunk (k := 128) (i := 36) kmX12_readLine_128_e1 (by decide +kernel)
theorem dX12_readLine_165 : decode cX12_readLine 165 = .ok (.getfield 64, 3) := rd_chunk (k := 128) (i := 37) kmX12_readLine_128_e1 (by decide +kernel)
theorem dX12_readLine_168 : decode cX12_readLine 168 = .ok (.iload 9, 2) := rd_chunk (k := 128) (i := 40) kmX12_readLine_128_e1 (by decide +kernel)
theorem dX12_readLine_170 : decode cX12_readLine 170 = .ok (.iconst 4, 1) := rd_chunk (k := 128) (i := 42) kmX12_readLine_128_e1 (by decide +kernel)
theorem dX12_readLine_171 : decode cX12_readLine 171 = .ok (.iadd, 1) := rd_chunk (k := 128) (i := 43) kmX12_readLine_128_e1 (by decide +kernel)
theorem dX12_readLine_172 : decode cX12_readLine 172 = .ok (.iload 6, 2) := rd_chunk (k := 128) (i := 44) kmX12_readLine_128_e1 (by decide +kernel)
theorem dX12_readLine_174 : decode cX12_readLine 174 = .ok (.iastore, 1) := rd_chunk (k := 128) (i := 46) kmX12_readLine_128_e1 (by decide +kernel)
theorem dX12_readLine_175 : decode cX12_readLine 175 = .ok (.iinc 8 1, 3) := rd_chunk (k := 128) (i := 47) kmX12_readLine_128_e1 (by decide +kernel)
theorem dX12_readLine_178 : decode cX12_readLine 178 = .ok (.goto (-69), 3) := rd_chunk (k := 128) (i := 50) kmX12_readLine_128_e1 (by decide +kernel)
theorem dX12_readLine_181 : decode cX12_readLine 181 = .ok (.iload_n 1, 1) := rd_chunk (k := 128) (i := 53) kmX12_readLine_128_e1 (by decide +kernel)
theorem dX12_readLine_182 : decode cX12_readLine 182 = .ok (.iload 7, 2) := rd_chunk (k := 128) (i := 54) kmX12_readLine_128_e1 (by decide +kernel)
theorem dX12_readLine_184 : decode cX12_readLine 184 = .ok (.iadd, 1) := rd_chunk (k := 128) (i := 56) kmX12_readLine_128_e1 (by decide +kernel)
theorem dX12_readLine_185 : decode cX12_readLine 185 = .ok (.ireturn, 1) := rd_chunk (k := 128) (i := 57) kmX12_readLine_128_e1 (by decide +kernel)
theorem dX12_held_0 : decode cX12_held 0 = .ok (.aload_n 0, 1) := by decide +kernel
theorem dX12_held_1 : decode cX12_held 1 = .ok (.iload_n 1, 1) := by decide +kernel
theorem dX12_held_2 : decode cX12_held 2 = .ok (.invokevirtual 212, 3) := by decide +kernel
theorem dX12_held_5 : decode cX12_held 5 = .ok (.istore_n 2, 1) := by decide +kernel
theorem dX12_held_6 : decode cX12_held 6 = .ok (.aload_n 0, 1) := by decide +kernel
theorem dX12_held_7 : decode cX12_held 7 = .ok (.bipush 60, 2) := by decide +kernel
theorem dX12_held_9 : decode cX12_held 9 = .ok (.invokevirtual 182, 3) := by decide +kernel
theorem dX12_held_12 : decode cX12_held 12 = .ok (.ifCond .eq 18, 3) := by decide +kernel
theorem dX12_held_15 : decode cX12_held 15 = .ok (.iload_n 2, 1) := by decide +kernel
theorem dX12_held_16 : decode cX12_held 16 = .ok (.aload_n 0, 1) := by decide +kernel
theorem dX12_held_17 : decode cX12_held 17 = .ok (.iload_n 1, 1) := by decide +kernel
theorem dX12_held_18 : decode cX12_held 18 = .ok (.invokevirtual 212, 3) := by decide +kernel
theorem dX12_held_21 : decode cX12_held 21 = .ok (.if_icmp .ge 7, 3) := by decide +kernel
theorem dX12_held_24 : decode cX12_held 24 = .ok (.iconst 1, 1) := by decide +kernel
theorem dX12_held_25 : decode cX12_held 25 = .ok (.goto 4, 3) := by decide +kernel
theorem dX12_held_28 : decode cX12_held 28 = .ok (.iconst 0, 1) := by decide +kernel
theorem dX12_held_29 : decode cX12_held 29 = .ok (.ireturn, 1) := by decide +kernel
theorem dX12_held_30 : decode cX12_held 30 = .ok (.aload_n 0, 1) := by decide +kernel
theorem dX12_held_31 : decode cX12_held 31 = .ok (.bipush 62, 2) := by decide +kernel
theorem dX12_held_33 : decode cX12_held 33 = .ok (.invokevirtual 182, 3) := by decide +kernel
theorem dX12_held_36 : decode cX12_held 36 = .ok (.ifCond .eq 18, 3) := by decide +kernel
theorem dX12_held_39 : decode cX12_held 39 = .ok (.iload_n 2, 1) := by decide +kernel
theorem dX12_held_40 : decode cX12_held 40 = .ok (.aload_n 0, 1) := by decide +kernel
theorem dX12_held_41 : decode cX12_held 41 = .ok (.iload_n 1, 1) := by decide +kernel
theorem dX12_held_42 : decode cX12_held 42 = .ok (.invokevirtual 212, 3) := by decide +kernel
theorem dX12_held_45 : decode cX12_held 45 = .ok (.if_icmp .le 7, 3) := by decide +kernel
theorem dX12_held_48 : decode cX12_held 48 = .ok (.iconst 1, 1) := by decide +kernel
theorem dX12_held_49 : decode cX12_held 49 = .ok (.goto 4, 3) := by decide +kernel
theorem dX12_held_52 : decode cX12_held 52 = .ok (.iconst 0, 1) := by decide +kernel
theorem dX12_held_53 : decode cX12_held 53 = .ok (.ireturn, 1) := by decide +kernel
theorem dX12_held_54 : decode cX12_held 54 = .ok (.aload_n 0, 1) := by decide +kernel
theorem dX12_held_55 : decode cX12_held 55 = .ok (.bipush 61, 2) := by decide +kernel
theorem dX12_held_57 : decode cX12_held 57 = .ok (.invokevirtual 182, 3) := by decide +kernel
theorem dX12_held_60 : decode cX12_held 60 = .ok (.ifCond .eq 18, 3) := by decide +kernel
theorem dX12_held_63 : decode cX12_held 63 = .ok (.iload_n 2, 1) := by decide +kernel
theorem dX12_held_64 : decode cX12_held 64 = .ok (.aload_n 0, 1) := by decide +kernel
theorem dX12_held_65 : decode cX12_held 65 = .ok (.iload_n 1, 1) := by decide +kernel
theorem dX12_held_66 : decode cX12_held 66 = .ok (.invokevirtual 212, 3) := by decide +kernel
theorem dX12_held_69 : decode cX12_held 69 = .ok (.if_icmp .ne 7, 3) := by decide +kernel
theorem dX12_held_72 : decode cX12_held 72 = .ok (.iconst 1, 1) := by decide +kernel
theorem dX12_held_73 : decode cX12_held 73 = .ok (.goto 4, 3) := by decide +kernel
theorem dX12_held_76 : decode cX12_held 76 = .ok (.iconst 0, 1) := by decide +kernel
theorem dX12_held_77 : decode cX12_held 77 = .ok (.ireturn, 1) := by decide +kernel
theorem dX12_held_78 : decode cX12_held 78 = .ok (.iload_n 2, 1) := by decide +kernel
theorem dX12_held_79 : decode cX12_held 79 = .ok (.ireturn, 1) := by decide +kernel
theorem dX12_sum_0 : decode cX12_sum 0 = .ok (.aload_n 0, 1) := by decide +kernel
theorem dX12_sum_1 : decode cX12_sum 1 = .ok (.iload_n 1, 1) := by decide +kernel
theorem dX12_sum_2 : decode cX12_sum 2 = .ok (.invokevirtual 215, 3) := by decide +kernel
theorem dX12_sum_5 : decode cX12_sum 5 = .ok (.istore_n 2, 1) := by decide +kernel
theorem dX12_sum_6 : decode cX12_sum 6 = .ok (.aload_n 0, 1) := by decide +kernel
theorem dX12_sum_7 : decode cX12_sum 7 = .ok (.invokevirtual 174, 3) := by decide +kernel
theorem dX12_sum_10 : decode cX12_sum 10 = .ok (.ifCond .eq 72, 3) := by decide +kernel
theorem dX12_sum_13 : decode cX12_sum 13 = .ok (.aload_n 0, 1) := by decide +kernel
theorem dX12_sum_14 : decode cX12_sum 14 = .ok (.invokevirtual 178, 3) := by decide +kernel
theorem dX12_sum_17 : decode cX12_sum 17 = .ok (.bipush 43, 2) := by decide +kernel
theorem dX12_sum_19 : decode cX12_sum 19 = .ok (.if_icmp .eq 12, 3) := by decide +kernel
theorem dX12_sum_22 : decode cX12_sum 22 = .ok (.aload_n 0, 1) := by decide +kernel
theorem dX12_sum_23 : decode cX12_sum 23 = .ok (.invokevirtual 178, 3) := by decide +kernel
theorem dX12_sum_26 : decode cX12_sum 26 = .ok (.bipush 45, 2) := by decide +kernel
theorem dX12_sum_28 : decode cX12_sum 28 = .ok (.if_icmp .ne 54, 3) := by decide +kernel
theorem dX12_sum_31 : decode cX12_sum 31 = .ok (.aload_n 0, 1) := by decide +kernel
theorem dX12_sum_32 : decode cX12_sum 32 = .ok (.invokevirtual 178, 3) := by decide +kernel
theorem dX12_sum_35 : decode cX12_sum 35 = .ok (.bipush 43, 2) := by decide +kernel
theorem dX12_sum_37 : decode cX12_sum 37 = .ok (.if_icmp .ne 7, 3) := by decide +kernel
theorem dX12_sum_40 : decode cX12_sum 40 = .ok (.iconst 1, 1) := by decide +kernel
theorem dX12_sum_41 : decode cX12_sum 41 = .ok (.goto 4, 3) := by decide +kernel
theorem dX12_sum_44 : decode cX12_sum 44 = .ok (.iconst 0, 1) := by decide +kernel
theorem dX12_sum_45 : decode cX12_sum 45 = .ok (.istore_n 3, 1) := by decide +kernel
theorem dX12_sum_46 : decode cX12_sum 46 = .ok (.aload_n 0, 1) := by decide +kernel
theorem dX12_sum_47 : decode cX12_sum 47 = .ok (.dup, 1) := by decide +kernel
theorem dX12_sum_48 : decode cX12_sum 48 = .ok (.getfield 168, 3) := by decide +kernel
theorem dX12_sum_51 : decode cX12_sum 51 = .ok (.iconst 1, 1) := by decide +kernel
theorem dX12_sum_52 : decode cX12_sum 52 = .ok (.iadd, 1) := by decide +kernel
theorem dX12_sum_53 : decode cX12_sum 53 = .ok (.putfield 168, 3) := by decide +kernel
theorem dX12_sum_56 : decode cX12_sum 56 = .ok (.aload_n 0, 1) := by decide +kernel
theorem dX12_sum_57 : decode cX12_sum 57 = .ok (.iload_n 1, 1) := by decide +kernel
theorem dX12_sum_58 : decode cX12_sum 58 = .ok (.invokevirtual 215, 3) := by decide +kernel
theorem dX12_sum_61 : decode cX12_sum 61 = .ok (.istore 4, 2) := by decide +kernel
theorem dX12_sum_63 : decode cX12_sum 63 = .ok (.iload_n 3, 1) := by decide +kernel
theorem dX12_sum_64 : decode cX12_sum 64 = .ok (.ifCond .eq 10, 3) := by decide +kernel
theorem dX12_sum_67 : decode cX12_sum 67 = .ok (.iload_n 2, 1) := by decide +kernel
theorem dX12_sum_68 : decode cX12_sum 68 = .ok (.iload 4, 2) := by decide +kernel
theorem dX12_sum_70 : decode cX12_sum 70 = .ok (.iadd, 1) := by decide +kernel
theorem dX12_sum_71 : decode cX12_sum 71 = .ok (.goto 7, 3) := by decide +kernel
theorem dX12_sum_74 : decode cX12_sum 74 = .ok (.iload_n 2, 1) := by decide +kernel
theorem dX12_sum_75 : decode cX12_sum 75 = .ok (.iload 4, 2) := by decide +kernel
theorem dX12_sum_77 : decode cX12_sum 77 = .ok (.isub, 1) := by decide +kernel
theorem dX12_sum_78 : decode cX12_sum 78 = .ok (.istore_n 2, 1) := by decide +kernel
theorem dX12_sum_79 : decode cX12_sum 79 = .ok (.goto (-73), 3) := by decide +kernel
theorem dX12_sum_82 : decode cX12_sum 82 = .ok (.iload_n 2, 1) := by decide +kernel
theorem dX12_sum_83 : decode cX12_sum 83 = .ok (.ireturn, 1) := by decide +kernel
theorem dX12_product_0 : decode cX12_product 0 = .ok (.aload_n 0, 1) := by decide +kernel
theorem dX12_product_1 : decode cX12_product 1 = .ok (.iload_n 1, 1) := by decide +kernel
theorem dX12_product_2 : decode cX12_product 2 = .ok (.invokevirtual 218, 3) := by decide +kernel
theorem dX12_product_5 : decode cX12_product 5 = .ok (.istore_n 2, 1) := by decide +kernel
theorem dX12_product_6 : decode cX12_product 6 = .ok (.aload_n 0, 1) := by decide +kernel
theorem dX12_product_7 : decode cX12_product 7 = .ok (.invokevirtual 174, 3) := by decide +kernel
theorem dX12_product_10 : decode cX12_product 10 = .ok (.ifCond .eq 81, 3) := by decide +kernel
theorem dX12_product_13 : decode cX12_product 13 = .ok (.aload_n 0, 1) := by decide +kernel
theorem dX12_product_14 : decode cX12_product 14 = .ok (.invokevirtual 178, 3) := by decide +kernel
theorem dX12_product_17 : decode cX12_product 17 = .ok (.bipush 42, 2) := by decide +kernel
theorem dX12_product_19 : decode cX12_product 19 = .ok (.if_icmp .eq 12, 3) := by decide +kernel
theorem dX12_product_22 : decode cX12_product 22 = .ok (.aload_n 0, 1) := by decide +kernel
theorem dX12_product_23 : decode cX12_product 23 = .ok (.invokevirtual 178, 3) := by decide +kernel
theorem dX12_product_26 : decode cX12_product 26 = .ok (.bipush 47, 2) := by decide +kernel
theorem dX12_product_28 : decode cX12_product 28 = .ok (.if_icmp .ne 63, 3) := by decide +kernel
theorem dX12_product_31 : decode cX12_product 31 = .ok (.aload_n 0, 1) := by decide +kernel
theorem dX12_product_32 : decode cX12_product 32 = .ok (.invokevirtual 178, 3) := by decide +kernel
theorem dX12_product_35 : decode cX12_product 35 = .ok (.bipush 42, 2) := by decide +kernel
theorem dX12_product_37 : decode cX12_product 37 = .ok (.if_icmp .ne 7, 3) := by decide +kernel
theorem dX12_product_40 : decode cX12_product 40 = .ok (.iconst 1, 1) := by decide +kernel
theorem dX12_product_41 : decode cX12_product 41 = .ok (.goto 4, 3) := by decide +kernel
theorem dX12_product_44 : decode cX12_product 44 = .ok (.iconst 0, 1) := by decide +kernel
theorem dX12_product_45 : decode cX12_product 45 = .ok (.istore_n 3, 1) := by decide +kernel
theorem dX12_product_46 : decode cX12_product 46 = .ok (.aload_n 0, 1) := by decide +kernel
theorem dX12_product_47 : decode cX12_product 47 = .ok (.dup, 1) := by decide +kernel
theorem dX12_product_48 : decode cX12_product 48 = .ok (.getfield 168, 3) := by decide +kernel
theorem dX12_product_51 : decode cX12_product 51 = .ok (.iconst 1, 1) := by decide +kernel
theorem dX12_product_52 : decode cX12_product 52 = .ok (.iadd, 1) := by decide +kernel
theorem dX12_product_53 : decode cX12_product 53 = .ok (.putfield 168, 3) := by decide +kernel
theorem dX12_product_56 : decode cX12_product 56 = .ok (.aload_n 0, 1) := by decide +kernel
theorem dX12_product_57 : decode cX12_product 57 = .ok (.iload_n 1, 1) := by decide +kernel
theorem dX12_product_58 : decode cX12_product 58 = .ok (.invokevirtual 218, 3) := by decide +kernel
theorem dX12_product_61 : decode cX12_product 61 = .ok (.istore 4, 2) := by decide +kernel
theorem dX12_product_63 : decode cX12_product 63 = .ok (.iload_n 3, 1) := by decide +kernel
theorem dX12_product_64 : decode cX12_product 64 = .ok (.ifCond .eq 10, 3) := by decide +kernel
theorem dX12_product_67 : decode cX12_product 67 = .ok (.iload_n 2, 1) := by decide +kernel
theorem dX12_product_68 : decode cX12_product 68 = .ok (.iload 4, 2) := by decide +kernel
theorem dX12_product_70 : decode cX12_product 70 = .ok (.imul, 1) := by decide +kernel
theorem dX12_product_71 : decode cX12_product 71 = .ok (.goto 16, 3) := by decide +kernel
theorem dX12_product_74 : decode cX12_product 74 = .ok (.iload 4, 2) := by decide +kernel
theorem dX12_product_76 : decode cX12_product 76 = .ok (.ifCond .ne 7, 3) := by decide +kernel
theorem dX12_product_79 : decode cX12_product 79 = .ok (.iconst 0, 1) := by decide +kernel
theorem dX12_product_80 : decode cX12_product 80 = .ok (.goto 7, 3) := by decide +kernel
theorem dX12_product_83 : decode cX12_product 83 = .ok (.iload_n 2, 1) := by decide +kernel
theorem dX12_product_84 : decode cX12_product 84 = .ok (.iload 4, 2) := by decide +kernel
theorem dX12_product_86 : decode cX12_product 86 = .ok (.idiv, 1) := by decide +kernel
theorem dX12_product_87 : decode cX12_product 87 = .ok (.istore_n 2, 1) := by decide +kernel
theorem dX12_product_88 : decode cX12_product 88 = .ok (.goto (-82), 3) := by decide +kernel
theorem dX12_product_91 : decode cX12_product 91 = .ok (.iload_n 2, 1) := by decide +kernel
theorem dX12_product_92 : decode cX12_product 92 = .ok (.ireturn, 1) := by decide +kernel
abbrev mX12_thing_0_e1 : ByteArray := .mk #[0x2a, 0x10, 0x2d, 0xb6, 0x00, 0xb6, 0x99, 0x00, 0x0a, 0x2a, 0x1b, 0xb6, 0x00, 0xda, 0x74, 0xac, 0x2a, 0xb6, 0x00, 0xae, 0x9a, 0x00, 0x05, 0x03, 0xac, 0x2a, 0xb6, 0x00, 0xb2, 0x3d, 0x1c, 0x10, 0x28, 0xa0, 0x00, 0x22, 0x1b, 0x07, 0xa2, 0x00, 0x1d, 0x2a, 0x59, 0xb4, 0x00, 0xa8, 0x04, 0x60, 0xb5, 0x00, 0xa8, 0x2a, 0x1b, 0x04, 0x60, 0xb6, 0x00, 0xdd, 0x3e, 0x2a, 0x10, 0x29, 0xb6, 0x00, 0xd0, 0x1d, 0xac, 0x1c, 0x10, 0x30, 0x10, 0x39]
theorem kmX12_thing_0_e1 : CK cX12_thing 0 mX12_thing_0_e1 := ck_of (by decide +kernel)
theorem dX12_thing_0 : decode cX12_thing 0 = .ok (.aload_n 0, 1) := rd_chunk (k := 0) (i := 0) kmX12_thing_0_e1 (by decide +kernel)
theorem dX12_thing_1 : decode cX12_thing 1 = .ok (.bipush 45, 2) := rd_chunk (k := 0) (i := 1) kmX12_thing_0_e1 (by decide +kernel)
theorem dX12_thing_3 : decode cX12_thing 3 = .ok (.invokevirtual 182, 3) := rd_chunk (k := 0) (i := 3) kmX12_thing_0_e1 (by decide +kernel)
theorem dX12_thing_6 : decode cX12_thing 6 = .ok (.ifCond .eq 10, 3) := rd_chunk (k := 0) (i := 6) kmX12_thing_0_e1 (by decide +kernel)
theorem dX12_thing_9 : decode cX12_thing 9 = .ok (.aload_n 0, 1) := rd_chunk (k := 0) (i := 9) kmX12_thing_0_e1 (by decide +kernel)
theorem dX12_thing_10 : decode cX12_thing 10 = .ok (.iload_n 1, 1) := rd_chunk (k := 0) (i := 10) kmX12_thing_0_e1 (by decide +kernel)
theorem dX12_thing_11 : decode cX12_thing 11 = .ok (.invokevirtual 218, 3) := rd_chunk (k := 0) (i := 11) kmX12_thing_0_e1 (by decide +kernel)
theorem dX12_thing_14 : decode cX12_thing 14 = .ok (.ineg, 1) := rd_chunk (k := 0) (i := 14) kmX12_thing_0_e1 (by decide +kernel)
theorem dX12_thing_15 : decode cX12_thing 15 = .ok (.ireturn, 1) := rd_chunk (k := 0) (i := 15) kmX12_thing_0_e1 (by decide +kernel)
theorem dX12_thing_16 : decode cX12_thing 16 = .ok (.aload_n 0, 1) := rd_chunk (k := 0) (i := 16) kmX12_thing_0_e1 (by decide +kernel)
theorem dX12_thing_17 : decode cX12_thing 17 = .ok (.invokevirtual 174, 3) := rd_chunk (k := 0) (i := 17) kmX12_thing_0_e1 (by decide +kernel)
theorem dX12_thing_20 : decode cX12_thing 20 = .ok (.ifCond .ne 5, 3) := rd_chunk (k := 0) (i := 20) kmX12_thing_0_e1 (by decide +kernel)
theorem dX12_thing_23 : decode cX12_thing 23 = .ok (.iconst 0, 1) := rd_chunk (k := 0) (i := 23) kmX12_thing_0_e1 (by decide +kernel)
theorem dX12_thing_24 : decode cX12_thing 24 = .ok (.ireturn, 1) := rd_chunk (k := 0) (i := 24) kmX12_thing_0_e1 (by decide +kernel)
theorem dX12_thing_25 : decode cX12_thing 25 = .ok (.aload_n 0, 1) := rd_chunk (k := 0) (i := 25) kmX12_thing_0_e1 (by decide +kernel)
theorem dX12_thing_26 : decode cX12_thing 26 = .ok (.invokevirtual 178, 3) := rd_chunk (k := 0) (i := 26) kmX12_thing_0_e1 (by decide +kernel)
theorem dX12_thing_29 : decode cX12_thing 29 = .ok (.istore_n 2, 1) := rd_chunk (k := 0) (i := 29) kmX12_thing_0_e1 (by decide +kernel)
theorem dX12_thing_30 : decode cX12_thing 30 = .ok (.iload_n 2, 1) := rd_chunk (k := 0) (i := 30) kmX12_thing_0_e1 (by decide +kernel)
theorem dX12_thing_31 : decode cX12_thing 31 = .ok (.bipush 40, 2) := rd_chunk (k := 0) (i := 31) kmX12_thing_0_e1 (by decide +kernel)
theorem dX12_thing_33 : decode cX12_thing 33 = .ok (.if_icmp .ne 34, 3) := rd_chunk (k := 0) (i := 33) kmX12_thing_0_e1 (by decide +kernel)
theorem dX12_thing_36 : decode cX12_thing 36 = .ok (.iload_n 1, 1) := rd_chunk (k := 0) (i := 36) kmX12_thing_0_e1 (by decide +kernel)
theorem dX12_thing_37 : decode cX12_thing 37 = .ok (.iconst 4, 1) := rd_chunk (k := 0) (i := 37) kmX12_thing_0_e1 (by decide +kernel)
theorem dX12_thing_38 : decode cX12_thing 38 = .ok (.if_icmp .ge 29, 3) := rd_chunk (k := 0) (i := 38) kmX12_thing_0_e1 (by decide +kernel)
theorem dX12_thing_41 : decode cX12_thing 41 = .ok (.aload_n 0, 1) := rd_chunk (k := 0) (i := 41) kmX12_thing_0_e1 (by decide +kernel)
theorem dX12_thing_42 : decode cX12_thing 42 = .ok (.dup, 1) := rd_chunk (k := 0) (i := 42) kmX12_thing_0_e1 (by decide +kernel)
theorem dX12_thing_43 : decode cX12_thing 43 = .ok (.getfield 168, 3) := rd_chunk (k := 0) (i := 43) kmX12_thing_0_e1 (by decide +kernel)
theorem dX12_thing_46 : decode cX12_thing 46 = .ok (.iconst 1, 1) := rd_chunk (k := 0) (i := 46) kmX12_thing_0_e1 (by decide +kernel)
theorem dX12_thing_47 : decode cX12_thing 47 = .ok (.iadd, 1) := rd_chunk (k := 0) (i := 47) kmX12_thing_0_e1 (by decide +kernel)
theorem dX12_thing_48 : decode cX12_thing 48 = .ok (.putfield 168, 3) := rd_chunk (k := 0) (i := 48) kmX12_thing_0_e1 (by decide +kernel)
theorem dX12_thing_51 : decode cX12_thing 51 = .ok (.aload_n 0, 1) := rd_chunk (k := 0) (i := 51) kmX12_thing_0_e1 (by decide +kernel)
theorem dX12_thing_52 : decode cX12_thing 52 = .ok (.iload_n 1, 1) := rd_chunk (k := 0) (i := 52) kmX12_thing_0_e1 (by decide +kernel)
theorem dX12_thing_53 : decode cX12_thing 53 = .ok (.iconst 1, 1) := rd_chunk (k := 0) (i := 53) kmX12_thing_0_e1 (by decide +kernel)
theorem dX12_thing_54 : decode cX12_thing 54 = .ok (.iadd, 1) := rd_chunk (k := 0) (i := 54) kmX12_thing_0_e1 (by decide +kernel)
theorem dX12_thing_55 : decode cX12_thing 55 = .ok (.invokevirtual 221, 3) := rd_chunk (k := 0) (i := 55) kmX12_thing_0_e1 (by decide +kernel)
theorem dX12_thing_58 : decode cX12_thing 58 = .ok (.istore_n 3, 1) := rd_chunk (k := 0) (i := 58) kmX12_thing_0_e1 (by decide +kernel)
theorem dX12_thing_59 : decode cX12_thing 59 = .ok (.aload_n 0, 1) := rd_chunk (k := 0) (i := 59) kmX12_thing_0_e1 (by decide +kernel)
theorem dX12_thing_60 : decode cX12_thing 60 = .ok (.bipush 41, 2) := rd_chunk (k := 0) (i := 60) kmX12_thing_0_e1 (by decide +kernel)
theorem dX12_thing_62 : decode cX12_thing 62 = .ok (.invokevirtual 208, 3) := rd_chunk (k := 0) (i := 62) kmX12_thing_0_e1 (by decide +kernel)
abbrev mX12_thing_64_e1 : ByteArray := .mk #[0xd0, 0x1d, 0xac, 0x1c, 0x10, 0x30, 0x10, 0x39, 0xb8, 0x00, 0x95, 0x99, 0x00, 0x0d, 0x2a, 0x06, 0x03, 0x11, 0x03, 0xe7, 0xb6, 0x00, 0xcc, 0xac, 0x1c, 0x10, 0x61, 0x9f, 0x00, 0x31, 0x1c, 0x10, 0x72, 0x9f, 0x00, 0x2b, 0x1c, 0x10, 0x73, 0x9f, 0x00, 0x25, 0x1c, 0x10, 0x77, 0x9f, 0x00, 0x1f, 0x1c, 0x10, 0x78, 0x9f, 0x00, 0x19, 0x1c, 0x10, 0x6c, 0x9f, 0x00, 0x13, 0x1c, 0x10, 0x6a, 0x9f, 0x00, 0x0d, 0x2a, 0x2a, 0xb4, 0x00, 0xa8, 0xb6]
theorem kmX12_thing_64_e1 : CK cX12_thing 64 mX12_thing_64_e1 := ck_of (by decide +kernel)
theorem dX12_thing_65 : decode cX12_thing 65 = .ok (.iload_n 3, 1) := rd_chunk (k := 64) (i := 1) kmX12_thing_64_e1 (by decide +kernel)
theorem dX12_thing_66 : decode cX12_thing 66 = .ok (.ireturn, 1) := rd_chunk (k := 64) (i := 2) kmX12_thing_64_e1 (by decide +kernel)
theorem dX12_thing_67 : decode cX12_thing 67 = .ok (.iload_n 2, 1) := rd_chunk (k := 64) (i := 3) kmX12_thing_64_e1 (by decide +kernel)
theorem dX12_thing_68 : decode cX12_thing 68 = .ok (.bipush 48, 2) := rd_chunk (k := 64) (i := 4) kmX12_thing_64_e1 (by decide +kernel)
theorem dX12_thing_70 : decode cX12_thing 70 = .ok (.bipush 57, 2) := rd_chunk (k := 64) (i := 6) kmX12_thing_64_e1 (by decide +kernel)
theorem dX12_thing_72 : decode cX12_thing 72 = .ok (.invokestatic 149, 3) := rd_chunk (k := 64) (i := 8) kmX12_thing_64_e1 (by decide +kernel)
theorem dX12_thing_75 : decode cX12_thing 75 = .ok (.ifCond .eq 13, 3) := rd_chunk (k := 64) (i := 11) kmX12_thing_64_e1 (by decide +kernel)
theorem dX12_thing_78 : decode cX12_thing 78 = .ok (.aload_n 0, 1) := rd_chunk (k := 64) (i := 14) kmX12_thing_64_e1 (by decide +kernel)
theorem dX12_thing_79 : decode cX12_thing 79 = .ok (.iconst 3, 1) := rd_chunk (k := 64) (i := 15) kmX12_thing_64_e1 (by decide +kernel)
theorem dX12_thing_80 : decode cX12_thing 80 = .ok (.iconst 0, 1) := rd_chunk (k := 64) (i := 16) kmX12_thing_64_e1 (by decide +kernel)
theorem dX12_thing_81 : decode cX12_thing 81 = .ok (.sipush 999, 3) := rd_chunk (k := 64) (i := 17) kmX12_thing_64_e1 (by decide +kernel)
theorem dX12_thing_84 : decode cX12_thing 84 = .ok (.invokevirtual 204, 3) := rd_chunk (k := 64) (i := 20) kmX12_thing_64_e1 (by decide +kernel)
theorem dX12_thing_87 : decode cX12_thing 87 = .ok (.ireturn, 1) := rd_chunk (k := 64) (i := 23) kmX12_thing_64_e1 (by decide +kernel)
theorem dX12_thing_88 : decode cX12_thing 88 = .ok (.iload_n 2, 1) := rd_chunk (k := 64) (i := 24) kmX12_thing_64_e1 (by decide +kernel)
theorem dX12_thing_89 : decode cX12_thing 89 = .ok (.bipush 97, 2) := rd_chunk (k := 64) (i := 25) kmX12_thing_64_e1 (by decide +kernel)
theorem dX12_thing_91 : decode cX12_thing 91 = .ok (.if_icmp .eq 49, 3) := rd_chunk (k := 64) (i := 27) kmX12_thing_64_e1 (by decide +kernel)
theorem dX12_thing_94 : decode cX12_thing 94 = .ok (.iload_n 2, 1) := rd_chunk (k := 64) (i := 30) kmX12_thing_64_e1 (by decide +kernel)
theorem dX12_thing_95 : decode cX12_thing 95 = .ok (.bipush 114, 2) := rd_chunk (k := 64) (i := 31) kmX12_thing_64_e1 (by decide +kernel)
theorem dX12_thing_97 : decode cX12_thing 97 = .ok (.if_icmp .eq 43, 3) := rd_chunk (k := 64) (i := 33) kmX12_thing_64_e1 (by decide +kernel)
theorem dX12_thing_100 : decode cX12_thing 100 = .ok (.iload_n 2, 1) := rd_chunk (k := 64) (i := 36) kmX12_thing_64_e1 (by decide +kernel)
theorem dX12_thing_101 : decode cX12_thing 101 = .ok (.bipush 115, 2) := rd_chunk (k := 64) (i := 37) kmX12_thing_64_e1 (by decide +kernel)
theorem dX12_thing_103 : decode cX12_thing 103 = .ok (.if_icmp .eq 37, 3) := rd_chunk (k := 64) (i := 39) kmX12_thing_64_e1 (by decide +kernel)
theorem dX12_thing_106 : decode cX12_thing 106 = .ok (.iload_n 2, 1) := rd_chunk (k := 64) (i := 42) kmX12_thing_64_e1 (by decide +kernel)
theorem dX12_thing_107 : decode cX12_thing 107 = .ok (.bipush 119, 2) := rd_chunk (k := 64) (i := 43) kmX12_thing_64_e1 (by decide +kernel)
theorem dX12_thing_109 : decode cX12_thing 109 = .ok (.if_icmp .eq 31, 3) := rd_chunk (k := 64) (i := 45) kmX12_thing_64_e1 (by decide +kernel)
theorem dX12_thing_112 : decode cX12_thing 112 = .ok (.iload_n 2, 1) := rd_chunk (k := 64) (i := 48) kmX12_thing_64_e1 (by decide +kernel)
theorem dX12_thing_113 : decode cX12_thing 113 = .ok (.bipush 120, 2) := rd_chunk (k := 64) (i := 49) kmX12_thing_64_e1 (by decide +kernel)
theorem dX12_thing_115 : decode cX12_thing 115 = .ok (.if_icmp .eq 25, 3) := rd_chunk (k := 64) (i := 51) kmX12_thing_64_e1 (by decide +kernel)
theorem dX12_thing_118 : decode cX12_thing 118 = .ok (.iload_n 2, 1) := rd_chunk (k := 64) (i := 54) kmX12_thing_64_e1 (by decide +kernel)
theorem dX12_thing_119 : decode cX12_thing 119 = .ok (.bipush 108, 2) := rd_chunk (k := 64) (i := 55) kmX12_thing_64_e1 (by decide +kernel)
theorem dX12_thing_121 : decode cX12_thing 121 = .ok (.if_icmp .eq 19, 3) := rd_chunk (k := 64) (i := 57) kmX12_thing_64_e1 (by decide +kernel)
theorem dX12_thing_124 : decode cX12_thing 124 = .ok (.iload_n 2, 1) := rd_chunk (k := 64) (i := 60) kmX12_thing_64_e1 (by decide +kernel)
theorem dX12_thing_125 : decode cX12_thing 125 = .ok (.bipush 106, 2) := rd_chunk (k := 64) (i := 61) kmX12_thing_64_e1 (by decide +kernel)
theorem dX12_thing_127 : decode cX12_thing 127 = .ok (.if_icmp .eq 13, 3) := rd_chunk (k := 64) (i := 63) kmX12_thing_64_e1 (by decide +kernel)
abbrev mX12_thing_128_e1 : ByteArray := .mk #[0x00, 0x0d, 0x2a, 0x2a, 0xb4, 0x00, 0xa8, 0xb6, 0x00, 0xba, 0x03, 0xac, 0x2a, 0x59, 0xb4, 0x00, 0xa8, 0x04, 0x60, 0xb5, 0x00, 0xa8, 0x2a, 0xb4, 0x00, 0x4b, 0x02, 0xa0, 0x00, 0x07, 0x03, 0xa7, 0x00, 0x09, 0x2a, 0x1c, 0x92, 0xb6, 0x00, 0xe0, 0xac]
theorem kmX12_thing_128_e1 : CK cX12_thing 128 mX12_thing_128_e1 := ck_of (by decide +kernel)
theorem dX12_thing_130 : decode cX12_thing 130 = .ok (.aload_n 0, 1) := rd_chunk (k := 128) (i := 2) kmX12_thing_128_e1 (by decide +kernel)
theorem dX12_thing_131 : decode cX12_thing 131 = .ok (.aload_n 0, 1) := rd_chunk (k := 128) (i := 3) kmX12_thing_128_e1 (by decide +kernel)
theorem dX12_thing_132 : decode cX12_thing 132 = .ok (.getfield 168, 3) := rd_chunk (k := 128) (i := 4) kmX12_thing_128_e1 (by decide +kernel)
theorem dX12_thing_135 : decode cX12_thing 135 = .ok (.invokevirtual 186, 3) := rd_chunk (k := 128) (i := 7) kmX12_thing_128_e1 (by decide +kernel)
theorem dX12_thing_138 : decode cX12_thing 138 = .ok (.iconst 0, 1) := rd_chunk (k := 128) (i := 10) kmX12_thing_128_e1 (by decide +kernel)
theorem dX12_thing_139 : decode cX12_thing 139 = .ok (.ireturn, 1) := rd_chunk (k := 128) (i := 11) kmX12_thing_128_e1 (by decide +kernel)
theorem dX12_thing_140 : decode cX12_thing 140 = .ok (.aload_n 0, 1) := rd_chunk (k := 128) (i := 12) kmX12_thing_128_e1 (by decide +kernel)
theorem dX12_thing_141 : decode cX12_thing 141 = .ok (.dup, 1) := rd_chunk (k := 128) (i := 13) kmX12_thing_128_e1 (by decide +kernel)
theorem dX12_thing_142 : decode cX12_thing 142 = .ok (.getfield 168, 3) := rd_chunk (k := 128) (i := 14) kmX12_thing_128_e1 (by decide +kernel)
theorem dX12_thing_145 : decode cX12_thing 145 = .ok (.iconst 1, 1) := rd_chunk (k := 128) (i := 17) kmX12_thing_128_e1 (by decide +kernel)
theorem dX12_thing_146 : decode cX12_thing 146 = .ok (.iadd, 1) := rd_chunk (k := 128) (i := 18) kmX12_thing_128_e1 (by decide +kernel)
theorem dX12_thing_147 : decode cX12_thing 147 = .ok (.putfield 168, 3) := rd_chunk (k := 128) (i := 19) kmX12_thing_128_e1 (by decide +kernel)
theorem dX12_thing_150 : decode cX12_thing 150 = .ok (.aload_n 0, 1) := rd_chunk (k := 128) (i := 22) kmX12_thing_128_e1 (by decide +kernel)
theorem dX12_thing_151 : decode cX12_thing 151 = .ok (.getfield 75, 3) := rd_chunk (k := 128) (i := 23) kmX12_thing_128_e1 (by decide +kernel)
theorem dX12_thing_154 : decode cX12_thing 154 = .ok (.iconst (-1), 1) := rd_chunk (k := 128) (i := 26) kmX12_thing_128_e1 (by decide +kernel)
theorem dX12_thing_155 : decode cX12_thing 155 = .ok (.if_icmp .ne 7, 3) := rd_chunk (k := 128) (i := 27) kmX12_thing_128_e1 (by decide +kernel)
theorem dX12_thing_158 : decode cX12_thing 158 = .ok (.iconst 0, 1) := rd_chunk (k := 128) (i := 30) kmX12_thing_128_e1 (by decide +kernel)
theorem dX12_thing_159 : decode cX12_thing 159 = .ok (.goto 9, 3) := rd_chunk (k := 128) (i := 31) kmX12_thing_128_e1 (by decide +kernel)
theorem dX12_thing_162 : decode cX12_thing 162 = .ok (.aload_n 0, 1) := rd_chunk (k := 128) (i := 34) kmX12_thing_128_e1 (by decide +kernel)
theorem dX12_thing_163 : decode cX12_thing 163 = .ok (.iload_n 2, 1) := rd_chunk (k := 128) (i := 35) kmX12_thing_128_e1 (by decide +kernel)
theorem dX12_thing_164 : decode cX12_thing 164 = .ok (.i2c, 1) := rd_chunk (k := 128) (i := 36) kmX12_thing_128_e1 (by decide +kernel)
theorem dX12_thing_165 : decode cX12_thing 165 = .ok (.invokevirtual 224, 3) := rd_chunk (k := 128) (i := 37) kmX12_thing_128_e1 (by decide +kernel)
theorem dX12_thing_168 : decode cX12_thing 168 = .ok (.ireturn, 1) := rd_chunk (k := 128) (i := 40) kmX12_thing_128_e1 (by decide +kernel)
abbrev mX12_letter_0_e1 : ByteArray := .mk #[0x1b, 0xab, 0x00, 0x00, 0x00, 0x00, 0x00, 0x99, 0x00, 0x00, 0x00, 0x06, 0x00, 0x00, 0x00, 0x61, 0x00, 0x00, 0x00, 0x3b, 0x00, 0x00, 0x00, 0x6c, 0x00, 0x00, 0x00, 0x94, 0x00, 0x00, 0x00, 0x72, 0x00, 0x00, 0x00, 0x45, 0x00, 0x00, 0x00, 0x73, 0x00, 0x00, 0x00, 0x4f, 0x00, 0x00, 0x00, 0x77, 0x00, 0x00, 0x00, 0x59, 0x00, 0x00, 0x00, 0x78, 0x00, 0x00, 0x00, 0x6b, 0x2a, 0xb4, 0x00, 0x10, 0x2a, 0xb4, 0x00, 0x4b, 0x2e, 0xac, 0x2a, 0xb4]
theorem kmX12_letter_0_e1 : CK cX12_letter 0 mX12_letter_0_e1 := ck_of (by decide +kernel)
theorem dX12_letter_0 : decode cX12_letter 0 = .ok (.iload_n 1, 1) := rd_chunk (k := 0) (i := 0) kmX12_letter_0_e1 (by decide +kernel)
theorem dX12_letter_1 : decode cX12_letter 1 = .ok (.lookupswitch 153 #[(97, 59), (108, 148), (114, 69), (115, 79), (119, 89), (120, 107)], 59) := by decide +kernel
theorem dX12_letter_60 : decode cX12_letter 60 = .ok (.aload_n 0, 1) := rd_chunk (k := 0) (i := 60) kmX12_letter_0_e1 (by decide +kernel)
theorem dX12_letter_61 : decode cX12_letter 61 = .ok (.getfield 16, 3) := rd_chunk (k := 0) (i := 61) kmX12_letter_0_e1 (by decide +kernel)
abbrev mX12_letter_64_e1 : ByteArray := .mk #[0x2a, 0xb4, 0x00, 0x4b, 0x2e, 0xac, 0x2a, 0xb4, 0x00, 0x09, 0x2a, 0xb4, 0x00, 0x4b, 0x2e, 0xac, 0x2a, 0xb4, 0x00, 0x0d, 0x2a, 0xb4, 0x00, 0x4b, 0x2e, 0xac, 0x2a, 0xb4, 0x00, 0x13, 0x2a, 0xb4, 0x00, 0x4b, 0x33, 0x99, 0x00, 0x07, 0x04, 0xa7, 0x00, 0x04, 0x03, 0xac, 0x2a, 0xb4, 0x00, 0xe4, 0x9b, 0x00, 0x23, 0x2a, 0xb4, 0x00, 0x1a, 0x10, 0x08, 0x2a, 0x2a, 0xb4, 0x00, 0xe4, 0xb6, 0x00, 0xe7, 0x68, 0x2a, 0x2a, 0xb4, 0x00, 0x4b, 0xb6]
theorem kmX12_letter_64_e1 : CK cX12_letter 64 mX12_letter_64_e1 := ck_of (by decide +kernel)
theorem dX12_letter_64 : decode cX12_letter 64 = .ok (.aload_n 0, 1) := rd_chunk (k := 64) (i := 0) kmX12_letter_64_e1 (by decide +kernel)
theorem dX12_letter_65 : decode cX12_letter 65 = .ok (.getfield 75, 3) := rd_chunk (k := 64) (i := 1) kmX12_letter_64_e1 (by decide +kernel)
theorem dX12_letter_68 : decode cX12_letter 68 = .ok (.iaload, 1) := rd_chunk (k := 64) (i := 4) kmX12_letter_64_e1 (by decide +kernel)
theorem dX12_letter_69 : decode cX12_letter 69 = .ok (.ireturn, 1) := rd_chunk (k := 64) (i := 5) kmX12_letter_64_e1 (by decide +kernel)
theorem dX12_letter_70 : decode cX12_letter 70 = .ok (.aload_n 0, 1) := rd_chunk (k := 64) (i := 6) kmX12_letter_64_e1 (by decide +kernel)
theorem dX12_letter_71 : decode cX12_letter 71 = .ok (.getfield 9, 3) := rd_chunk (k := 64) (i := 7) kmX12_letter_64_e1 (by decide +kernel)
theorem dX12_letter_74 : decode cX12_letter 74 = .ok (.aload_n 0, 1) := rd_chunk (k := 64) (i := 10) kmX12_letter_64_e1 (by decide +kernel)
theorem dX12_letter_75 : decode cX12_letter 75 = .ok (.getfield 75, 3) := rd_chunk (k := 64) (i := 11) kmX12_letter_64_e1 (by decide +kernel)
theorem dX12_letter_78 : decode cX12_letter 78 = .ok (.iaload, 1) := rd_chunk (k := 64) (i := 14) kmX12_letter_64_e1 (by decide +kernel)
theorem dX12_letter_79 : decode cX12_letter 79 = .ok (.ireturn, 1) := rd_chunk (k := 64) (i := 15) kmX12_letter_64_e1 (by decide +kernel)
theorem dX12_letter_80 : decode cX12_letter 80 = .ok (.aload_n 0, 1) := rd_chunk (k := 64) (i := 16) kmX12_letter_64_e1 (by decide +kernel)
theorem dX12_letter_81 : decode cX12_letter 81 = .ok (.getfield 13, 3) := rd_chunk (k := 64) (i := 17) kmX12_letter_64_e1 (by decide +kernel)
theorem dX12_letter_84 : decode cX12_letter 84 = .ok (.aload_n 0, 1) := rd_chunk (k := 64) (i := 20) kmX12_letter_64_e1 (by decide +kernel)
theorem dX12_letter_85 : decode cX12_letter 85 = .ok (.getfield 75, 3) := rd_chunk (k := 64) (i := 21) kmX12_letter_64_e1 (by decide +kernel)
theorem dX12_letter_88 : decode cX12_letter 88 = .ok (.iaload, 1) := rd_chunk (k := 64) (i := 24) kmX12_letter_64_e1 (by decide +kernel)
theorem dX12_letter_89 : decode cX12_letter 89 = .ok (.ireturn, 1) := rd_chunk (k := 64) (i := 25) kmX12_letter_64_e1 (by decide +kernel)
theorem dX12_letter_90 : decode cX12_letter 90 = .ok (.aload_n 0, 1) := rd_chunk (k := 64) (i := 26) kmX12_letter_64_e1 (by decide +kernel)
theorem dX12_letter_91 : decode cX12_letter 91 = .ok (.getfield 19, 3) := rd_chunk (k := 64) (i := 27) kmX12_letter_64_e1 (by decide +kernel)
theorem dX12_letter_94 : decode cX12_letter 94 = .ok (.aload_n 0, 1) := rd_chunk (k := 64) (i := 30) kmX12_letter_64_e1 (by decide +kernel)
theorem dX12_letter_95 : decode cX12_letter 95 = .ok (.getfield 75, 3) := rd_chunk (k := 64) (i := 31) kmX12_letter_64_e1 (by decide +kernel)
theorem dX12_letter_98 : decode cX12_letter 98 = .ok (.baload, 1) := rd_chunk (k := 64) (i := 34) kmX12_letter_64_e1 (by decide +kernel)
theorem dX12_letter_99 : decode cX12_letter 99 = .ok (.ifCond .eq 7, 3) := rd_chunk (k := 64) (i := 35) kmX12_letter_64_e1 (by decide +kernel)
theorem dX12_letter_102 : decode cX12_letter 102 = .ok (.iconst 1, 1) := rd_chunk (k := 64) (i := 38) kmX12_letter_64_e1 (by decide +kernel)
theorem dX12_letter_103 : decode cX12_letter 103 = .ok (.goto 4, 3) := rd_chunk (k := 64) (i := 39) kmX12_letter_64_e1 (by decide +kernel)
theorem dX12_letter_106 : decode cX12_letter 106 = .ok (.iconst 0, 1) := rd_chunk (k := 64) (i := 42) kmX12_letter_64_e1 (by decide +kernel)
theorem dX12_letter_107 : decode cX12_letter 107 = .ok (.ireturn, 1) := rd_chunk (k := 64) (i := 43) kmX12_letter_64_e1 (by decide +kernel)
theorem dX12_letter_108 : decode cX12_letter 108 = .ok (.aload_n 0, 1) := rd_chunk (k := 64) (i := 44) kmX12_letter_64_e1 (by decide +kernel)
theorem dX12_letter_109 : decode cX12_letter 109 = .ok (.getfield 228, 3) := rd_chunk (k := 64) (i := 45) kmX12_letter_64_e1 (by decide +kernel)
theorem dX12_letter_112 : decode cX12_letter 112 = .ok (.ifCond .lt 35, 3) := rd_chunk (k := 64) (i := 48) kmX12_letter_64_e1 (by decide +kernel)
theorem dX12_letter_115 : decode cX12_letter 115 = .ok (.aload_n 0, 1) := rd_chunk (k := 64) (i := 51) kmX12_letter_64_e1 (by decide +kernel)
theorem dX12_letter_116 : decode cX12_letter 116 = .ok (.getfield 26, 3) := rd_chunk (k := 64) (i := 52) kmX12_letter_64_e1 (by decide +kernel)
theorem dX12_letter_119 : decode cX12_letter 119 = .ok (.bipush 8, 2) := rd_chunk (k := 64) (i := 55) kmX12_letter_64_e1 (by decide +kernel)
theorem dX12_letter_121 : decode cX12_letter 121 = .ok (.aload_n 0, 1) := rd_chunk (k := 64) (i := 57) kmX12_letter_64_e1 (by decide +kernel)
theorem dX12_letter_122 : decode cX12_letter 122 = .ok (.aload_n 0, 1) := rd_chunk (k := 64) (i := 58) kmX12_letter_64_e1 (by decide +kernel)
theorem dX12_letter_123 : decode cX12_letter 123 = .ok (.getfield 228, 3) := rd_chunk (k := 64) (i := 59) kmX12_letter_64_e1 (by decide +kernel)
theorem dX12_letter_126 : decode cX12_letter 126 = .ok (.invokevirtual 231, 3) := rd_chunk (k := 64) (i := 62) kmX12_letter_64_e1 (by decide +kernel)
abbrev mX12_letter_128_e1 : ByteArray := .mk #[0xe7, 0x68, 0x2a, 0x2a, 0xb4, 0x00, 0x4b, 0xb6, 0x00, 0xe7, 0x60, 0x33, 0x99, 0x00, 0x07, 0x04, 0xa7, 0x00, 0x04, 0x03, 0xac, 0x2a, 0xb4, 0x00, 0xea, 0xac, 0x2a, 0xb4, 0x00, 0xed, 0xac]
theorem kmX12_letter_128_e1 : CK cX12_letter 128 mX12_letter_128_e1 := ck_of (by decide +kernel)
theorem dX12_letter_129 : decode cX12_letter 129 = .ok (.imul, 1) := rd_chunk (k := 128) (i := 1) kmX12_letter_128_e1 (by decide +kernel)
theorem dX12_letter_130 : decode cX12_letter 130 = .ok (.aload_n 0, 1) := rd_chunk (k := 128) (i := 2) kmX12_letter_128_e1 (by decide +kernel)
theorem dX12_letter_131 : decode cX12_letter 131 = .ok (.aload_n 0, 1) := rd_chunk (k := 128) (i := 3) kmX12_letter_128_e1 (by decide +kernel)
theorem dX12_letter_132 : decode cX12_letter 132 = .ok (.getfield 75, 3) := rd_chunk (k := 128) (i := 4) kmX12_letter_128_e1 (by decide +kernel)
theorem dX12_letter_135 : decode cX12_letter 135 = .ok (.invokevirtual 231, 3) := rd_chunk (k := 128) (i := 7) kmX12_letter_128_e1 (by decide +kernel)
theorem dX12_letter_138 : decode cX12_letter 138 = .ok (.iadd, 1) := rd_chunk (k := 128) (i := 10) kmX12_letter_128_e1 (by decide +kernel)
theorem dX12_letter_139 : decode cX12_letter 139 = .ok (.baload, 1) := rd_chunk (k := 128) (i := 11) kmX12_letter_128_e1 (by decide +kernel)
theorem dX12_letter_140 : decode cX12_letter 140 = .ok (.ifCond .eq 7, 3) := rd_chunk (k := 128) (i := 12) kmX12_letter_128_e1 (by decide +kernel)
theorem dX12_letter_143 : decode cX12_letter 143 = .ok (.iconst 1, 1) := rd_chunk (k := 128) (i := 15) kmX12_letter_128_e1 (by decide +kernel)
theorem dX12_letter_144 : decode cX12_letter 144 = .ok (.goto 4, 3) := rd_chunk (k := 128) (i := 16) kmX12_letter_128_e1 (by decide +kernel)
theorem dX12_letter_147 : decode cX12_letter 147 = .ok (.iconst 0, 1) := rd_chunk (k := 128) (i := 19) kmX12_letter_128_e1 (by decide +kernel)
theorem dX12_letter_148 : decode cX12_letter 148 = .ok (.ireturn, 1) := rd_chunk (k := 128) (i := 20) kmX12_letter_128_e1 (by decide +kernel)
theorem dX12_letter_149 : decode cX12_letter 149 = .ok (.aload_n 0, 1) := rd_chunk (k := 128) (i := 21) kmX12_letter_128_e1 (by decide +kernel)
theorem dX12_letter_150 : decode cX12_letter 150 = .ok (.getfield 234, 3) := rd_chunk (k := 128) (i := 22) kmX12_letter_128_e1 (by decide +kernel)
theorem dX12_letter_153 : decode cX12_letter 153 = .ok (.ireturn, 1) := rd_chunk (k := 128) (i := 25) kmX12_letter_128_e1 (by decide +kernel)
theorem dX12_letter_154 : decode cX12_letter 154 = .ok (.aload_n 0, 1) := rd_chunk (k := 128) (i := 26) kmX12_letter_128_e1 (by decide +kernel)
theorem dX12_letter_155 : decode cX12_letter 155 = .ok (.getfield 237, 3) := rd_chunk (k := 128) (i := 27) kmX12_letter_128_e1 (by decide +kernel)
theorem dX12_letter_158 : decode cX12_letter 158 = .ok (.ireturn, 1) := rd_chunk (k := 128) (i := 30) kmX12_letter_128_e1 (by decide +kernel)
abbrev mX12_law_0_e1 : ByteArray := .mk #[0x2a, 0x03, 0xb5, 0x00, 0x8c, 0x2a, 0xb4, 0x00, 0x9c, 0x3d, 0x2a, 0x2a, 0xb4, 0x00, 0x38, 0x1c, 0x10, 0x28, 0xb6, 0x00, 0xbe, 0x2a, 0x03, 0xb5, 0x00, 0x9c, 0x1b, 0x03, 0x04, 0xb8, 0x00, 0x95, 0x9a, 0x00, 0x06, 0x10, 0x9c, 0xac, 0x2a, 0x02, 0xb5, 0x00, 0x4b, 0x1c, 0x9e, 0x00, 0x27, 0x2a, 0x03, 0xb6, 0x00, 0xdd, 0x57, 0x2a, 0xb4, 0x00, 0xa8, 0x1c, 0xa2, 0x00, 0x0b, 0x2a, 0x2a, 0xb4, 0x00, 0xa8, 0xb6, 0x00, 0xba, 0x2a, 0xb6, 0x00]
theorem kmX12_law_0_e1 : CK cX12_law 0 mX12_law_0_e1 := ck_of (by decide +kernel)
theorem dX12_law_0 : decode cX12_law 0 = .ok (.aload_n 0, 1) := rd_chunk (k := 0) (i := 0) kmX12_law_0_e1 (by decide +kernel)
theorem dX12_law_1 : decode cX12_law 1 = .ok (.iconst 0, 1) := rd_chunk (k := 0) (i := 1) kmX12_law_0_e1 (by decide +kernel)
theorem dX12_law_2 : decode cX12_law 2 = .ok (.putfield 140, 3) := rd_chunk (k := 0) (i := 2) kmX12_law_0_e1 (by decide +kernel)
theorem dX12_law_5 : decode cX12_law 5 = .ok (.aload_n 0, 1) := rd_chunk (k := 0) (i := 5) kmX12_law_0_e1 (by decide +kernel)
theorem dX12_law_6 : decode cX12_law 6 = .ok (.getfield 156, 3) := rd_chunk (k := 0) (i := 6) kmX12_law_0_e1 (by decide +kernel)
theorem dX12_law_9 : decode cX12_law 9 = .ok (.istore_n 2, 1) := rd_chunk (k := 0) (i := 9) kmX12_law_0_e1 (by decide +kernel)
theorem dX12_law_10 : decode cX12_law 10 = .ok (.aload_n 0, 1) := rd_chunk (k := 0) (i := 10) kmX12_law_0_e1 (by decide +kernel)
theorem dX12_law_11 : decode cX12_law 11 = .ok (.aload_n 0, 1) := rd_chunk (k := 0) (i := 11) kmX12_law_0_e1 (by decide +kernel)
theorem dX12_law_12 : decode cX12_law 12 = .ok (.getfield 56, 3) := rd_chunk (k := 0) (i := 12) kmX12_law_0_e1 (by decide +kernel)
theorem dX12_law_15 : decode cX12_law 15 = .ok (.iload_n 2, 1) := rd_chunk (k := 0) (i := 15) kmX12_law_0_e1 (by decide +kernel)
theorem dX12_law_16 : decode cX12_law 16 = .ok (.bipush 40, 2) := rd_chunk (k := 0) (i := 16) kmX12_law_0_e1 (by decide +kernel)
theorem dX12_law_18 : decode cX12_law 18 = .ok (.invokevirtual 190, 3) := rd_chunk (k := 0) (i := 18) kmX12_law_0_e1 (by decide +kernel)
theorem dX12_law_21 : decode cX12_law 21 = .ok (.aload_n 0, 1) := rd_chunk (k := 0) (i := 21) kmX12_law_0_e1 (by decide +kernel)
theorem dX12_law_22 : decode cX12_law 22 = .ok (.iconst 0, 1) := rd_chunk (k := 0) (i := 22) kmX12_law_0_e1 (by decide +kernel)
theorem dX12_law_23 : decode cX12_law 23 = .ok (.putfield 156, 3) := rd_chunk (k := 0) (i := 23) kmX12_law_0_e1 (by decide +kernel)
theorem dX12_law_26 : decode cX12_law 26 = .ok (.iload_n 1, 1) := rd_chunk (k := 0) (i := 26) kmX12_law_0_e1 (by decide +kernel)
theorem dX12_law_27 : decode cX12_law 27 = .ok (.iconst 0, 1) := rd_chunk (k := 0) (i := 27) kmX12_law_0_e1 (by decide +kernel)
theorem dX12_law_28 : decode cX12_law 28 = .ok (.iconst 1, 1) := rd_chunk (k := 0) (i := 28) kmX12_law_0_e1 (by decide +kernel)
theorem dX12_law_29 : decode cX12_law 29 = .ok (.invokestatic 149, 3) := rd_chunk (k := 0) (i := 29) kmX12_law_0_e1 (by decide +kernel)
theorem dX12_law_32 : decode cX12_law 32 = .ok (.ifCond .ne 6, 3) := rd_chunk (k := 0) (i := 32) kmX12_law_0_e1 (by decide +kernel)
theorem dX12_law_35 : decode cX12_law 35 = .ok (.bipush (-100), 2) := rd_chunk (k := 0) (i := 35) kmX12_law_0_e1 (by decide +kernel)
theorem dX12_law_37 : decode cX12_law 37 = .ok (.ireturn, 1) := rd_chunk (k := 0) (i := 37) kmX12_law_0_e1 (by decide +kernel)
theorem dX12_law_38 : decode cX12_law 38 = .ok (.aload_n 0, 1) := rd_chunk (k := 0) (i := 38) kmX12_law_0_e1 (by decide +kernel)
theorem dX12_law_39 : decode cX12_law 39 = .ok (.iconst (-1), 1) := rd_chunk (k := 0) (i := 39) kmX12_law_0_e1 (by decide +kernel)
theorem dX12_law_40 : decode cX12_law 40 = .ok (.putfield 75, 3) := rd_chunk (k := 0) (i := 40) kmX12_law_0_e1 (by decide +kernel)
theorem dX12_law_43 : decode cX12_law 43 = .ok (.iload_n 2, 1) := rd_chunk (k := 0) (i := 43) kmX12_law_0_e1 (by decide +kernel)
theorem dX12_law_44 : decode cX12_law 44 = .ok (.ifCond .le 39, 3) := rd_chunk (k := 0) (i := 44) kmX12_law_0_e1 (by decide +kernel)
theorem dX12_law_47 : decode cX12_law 47 = .ok (.aload_n 0, 1) := rd_chunk (k := 0) (i := 47) kmX12_law_0_e1 (by decide +kernel)
theorem dX12_law_48 : decode cX12_law 48 = .ok (.iconst 0, 1) := rd_chunk (k := 0) (i := 48) kmX12_law_0_e1 (by decide +kernel)
theorem dX12_law_49 : decode cX12_law 49 = .ok (.invokevirtual 221, 3) := rd_chunk (k := 0) (i := 49) kmX12_law_0_e1 (by decide +kernel)
theorem dX12_law_52 : decode cX12_law 52 = .ok (.pop, 1) := rd_chunk (k := 0) (i := 52) kmX12_law_0_e1 (by decide +kernel)
theorem dX12_law_53 : decode cX12_law 53 = .ok (.aload_n 0, 1) := rd_chunk (k := 0) (i := 53) kmX12_law_0_e1 (by decide +kernel)
theorem dX12_law_54 : decode cX12_law 54 = .ok (.getfield 168, 3) := rd_chunk (k := 0) (i := 54) kmX12_law_0_e1 (by decide +kernel)
theorem dX12_law_57 : decode cX12_law 57 = .ok (.iload_n 2, 1) := rd_chunk (k := 0) (i := 57) kmX12_law_0_e1 (by decide +kernel)
theorem dX12_law_58 : decode cX12_law 58 = .ok (.if_icmp .ge 11, 3) := rd_chunk (k := 0) (i := 58) kmX12_law_0_e1 (by decide +kernel)
theorem dX12_law_61 : decode cX12_law 61 = .ok (.aload_n 0, 1) := rd_chunk (k := 0) (i := 61) kmX12_law_0_e1 (by decide +kernel)
theorem dX12_law_62 : decode cX12_law 62 = .ok (.aload_n 0, 1) := rd_chunk (k := 0) (i := 62) kmX12_law_0_e1 (by decide +kernel)
theorem dX12_law_63 : decode cX12_law 63 = .ok (.getfield 168, 3) := rd_chunk (k := 0) (i := 63) kmX12_law_0_e1 (by decide +kernel)
abbrev mX12_law_64_e1 : ByteArray := .mk #[0x00, 0xa8, 0xb6, 0x00, 0xba, 0x2a, 0xb6, 0x00, 0xae, 0x9a, 0x00, 0x0a, 0x02, 0x2a, 0xb4, 0x00, 0xab, 0x64, 0xac, 0x03, 0x3e, 0x1d, 0x1c, 0xa2, 0x00, 0x17, 0x2a, 0xb4, 0x00, 0x45, 0x1b, 0x32, 0x1d, 0x2a, 0xb4, 0x00, 0x38, 0x1d, 0x33, 0x54, 0x84, 0x03, 0x01, 0xa7, 0xff, 0xea, 0x2a, 0xb4, 0x00, 0x48, 0x1b, 0x1c, 0x4f, 0x03, 0xac]
theorem kmX12_law_64_e1 : CK cX12_law 64 mX12_law_64_e1 := ck_of (by decide +kernel)
theorem dX12_law_66 : decode cX12_law 66 = .ok (.invokevirtual 186, 3) := rd_chunk (k := 64) (i := 2) kmX12_law_64_e1 (by decide +kernel)
theorem dX12_law_69 : decode cX12_law 69 = .ok (.aload_n 0, 1) := rd_chunk (k := 64) (i := 5) kmX12_law_64_e1 (by decide +kernel)
theorem dX12_law_70 : decode cX12_law 70 = .ok (.invokevirtual 174, 3) := rd_chunk (k := 64) (i := 6) kmX12_law_64_e1 (by decide +kernel)
theorem dX12_law_73 : decode cX12_law 73 = .ok (.ifCond .ne 10, 3) := rd_chunk (k := 64) (i := 9) kmX12_law_64_e1 (by decide +kernel)
theorem dX12_law_76 : decode cX12_law 76 = .ok (.iconst (-1), 1) := rd_chunk (k := 64) (i := 12) kmX12_law_64_e1 (by decide +kernel)
theorem dX12_law_77 : decode cX12_law 77 = .ok (.aload_n 0, 1) := rd_chunk (k := 64) (i := 13) kmX12_law_64_e1 (by decide +kernel)
theorem dX12_law_78 : decode cX12_law 78 = .ok (.getfield 171, 3) := rd_chunk (k := 64) (i := 14) kmX12_law_64_e1 (by decide +kernel)
theorem dX12_law_81 : decode cX12_law 81 = .ok (.isub, 1) := rd_chunk (k := 64) (i := 17) kmX12_law_64_e1 (by decide +kernel)
theorem dX12_law_82 : decode cX12_law 82 = .ok (.ireturn, 1) := rd_chunk (k := 64) (i := 18) kmX12_law_64_e1 (by decide +kernel)
theorem dX12_law_83 : decode cX12_law 83 = .ok (.iconst 0, 1) := rd_chunk (k := 64) (i := 19) kmX12_law_64_e1 (by decide +kernel)
theorem dX12_law_84 : decode cX12_law 84 = .ok (.istore_n 3, 1) := rd_chunk (k := 64) (i := 20) kmX12_law_64_e1 (by decide +kernel)
theorem dX12_law_85 : decode cX12_law 85 = .ok (.iload_n 3, 1) := rd_chunk (k := 64) (i := 21) kmX12_law_64_e1 (by decide +kernel)
theorem dX12_law_86 : decode cX12_law 86 = .ok (.iload_n 2, 1) := rd_chunk (k := 64) (i := 22) kmX12_law_64_e1 (by decide +kernel)
theorem dX12_law_87 : decode cX12_law 87 = .ok (.if_icmp .ge 23, 3) := rd_chunk (k := 64) (i := 23) kmX12_law_64_e1 (by decide +kernel)
theorem dX12_law_90 : decode cX12_law 90 = .ok (.aload_n 0, 1) := rd_chunk (k := 64) (i := 26) kmX12_law_64_e1 (by decide +kernel)
theorem dX12_law_91 : decode cX12_law 91 = .ok (.getfield 69, 3) := rd_chunk (k := 64) (i := 27) kmX12_law_64_e1 (by decide +kernel)
theorem dX12_law_94 : decode cX12_law 94 = .ok (.iload_n 1, 1) := rd_chunk (k := 64) (i := 30) kmX12_law_64_e1 (by decide +kernel)
theorem dX12_law_95 : decode cX12_law 95 = .ok (.aaload, 1) := rd_chunk (k := 64) (i := 31) kmX12_law_64_e1 (by decide +kernel)
theorem dX12_law_96 : decode cX12_law 96 = .ok (.iload_n 3, 1) := rd_chunk (k := 64) (i := 32) kmX12_law_64_e1 (by decide +kernel)
theorem dX12_law_97 : decode cX12_law 97 = .ok (.aload_n 0, 1) := rd_chunk (k := 64) (i := 33) kmX12_law_64_e1 (by decide +kernel)
theorem dX12_law_98 : decode cX12_law 98 = .ok (.getfield 56, 3) := rd_chunk (k := 64) (i := 34) kmX12_law_64_e1 (by decide +kernel)
theorem dX12_law_101 : decode cX12_law 101 = .ok (.iload_n 3, 1) := rd_chunk (k := 64) (i := 37) kmX12_law_64_e1 (by decide +kernel)
theorem dX12_law_102 : decode cX12_law 102 = .ok (.baload, 1) := rd_chunk (k := 64) (i := 38) kmX12_law_64_e1 (by decide +kernel)
theorem dX12_law_103 : decode cX12_law 103 = .ok (.bastore, 1) := rd_chunk (k := 64) (i := 39) kmX12_law_64_e1 (by decide +kernel)
theorem dX12_law_104 : decode cX12_law 104 = .ok (.iinc 3 1, 3) := rd_chunk (k := 64) (i := 40) kmX12_law_64_e1 (by decide +kernel)
theorem dX12_law_107 : decode cX12_law 107 = .ok (.goto (-22), 3) := rd_chunk (k := 64) (i := 43) kmX12_law_64_e1 (by decide +kernel)
theorem dX12_law_110 : decode cX12_law 110 = .ok (.aload_n 0, 1) := rd_chunk (k := 64) (i := 46) kmX12_law_64_e1 (by decide +kernel)
theorem dX12_law_111 : decode cX12_law 111 = .ok (.getfield 72, 3) := rd_chunk (k := 64) (i := 47) kmX12_law_64_e1 (by decide +kernel)
theorem dX12_law_114 : decode cX12_law 114 = .ok (.iload_n 1, 1) := rd_chunk (k := 64) (i := 50) kmX12_law_64_e1 (by decide +kernel)
theorem dX12_law_115 : decode cX12_law 115 = .ok (.iload_n 2, 1) := rd_chunk (k := 64) (i := 51) kmX12_law_64_e1 (by decide +kernel)
theorem dX12_law_116 : decode cX12_law 116 = .ok (.iastore, 1) := rd_chunk (k := 64) (i := 52) kmX12_law_64_e1 (by decide +kernel)
theorem dX12_law_117 : decode cX12_law 117 = .ok (.iconst 0, 1) := rd_chunk (k := 64) (i := 53) kmX12_law_64_e1 (by decide +kernel)
theorem dX12_law_118 : decode cX12_law 118 = .ok (.ireturn, 1) := rd_chunk (k := 64) (i := 54) kmX12_law_64_e1 (by decide +kernel)
theorem dX12_lawOf_0 : decode cX12_lawOf 0 = .ok (.aload_n 0, 1) := by decide +kernel
theorem dX12_lawOf_1 : decode cX12_lawOf 1 = .ok (.getfield 72, 3) := by decide +kernel
theorem dX12_lawOf_4 : decode cX12_lawOf 4 = .ok (.iload_n 1, 1) := by decide +kernel
theorem dX12_lawOf_5 : decode cX12_lawOf 5 = .ok (.iaload, 1) := by decide +kernel
theorem dX12_lawOf_6 : decode cX12_lawOf 6 = .ok (.ifCond .ne 28, 3) := by decide +kernel
theorem dX12_lawOf_9 : decode cX12_lawOf 9 = .ok (.iload_n 1, 1) := by decide +kernel
theorem dX12_lawOf_10 : decode cX12_lawOf 10 = .ok (.iconst 1, 1) := by decide +kernel
theorem dX12_lawOf_11 : decode cX12_lawOf 11 = .ok (.if_icmp .eq 12, 3) := by decide +kernel
theorem dX12_lawOf_14 : decode cX12_lawOf 14 = .ok (.aload_n 0, 1) := by decide +kernel
theorem dX12_lawOf_15 : decode cX12_lawOf 15 = .ok (.getfield 19, 3) := by decide +kernel
theorem dX12_lawOf_18 : decode cX12_lawOf 18 = .ok (.iload_n 2, 1) := by decide +kernel
theorem dX12_lawOf_19 : decode cX12_lawOf 19 = .ok (.baload, 1) := by decide +kernel
theorem dX12_lawOf_20 : decode cX12_lawOf 20 = .ok (.ifCond .eq 7, 3) := by decide +kernel
theorem dX12_lawOf_23 : decode cX12_lawOf 23 = .ok (.iconst 0, 1) := by decide +kernel
theorem dX12_lawOf_24 : decode cX12_lawOf 24 = .ok (.goto 9, 3) := by decide +kernel
theorem dX12_lawOf_27 : decode cX12_lawOf 27 = .ok (.aload_n 0, 1) := by decide +kernel
theorem dX12_lawOf_28 : decode cX12_lawOf 28 = .ok (.getfield 16, 3) := by decide +kernel
theorem dX12_lawOf_31 : decode cX12_lawOf 31 = .ok (.iload_n 2, 1) := by decide +kernel
theorem dX12_lawOf_32 : decode cX12_lawOf 32 = .ok (.iaload, 1) := by decide +kernel
theorem dX12_lawOf_33 : decode cX12_lawOf 33 = .ok (.ireturn, 1) := by decide +kernel
theorem dX12_lawOf_34 : decode cX12_lawOf 34 = .ok (.aload_n 0, 1) := by decide +kernel
theorem dX12_lawOf_35 : decode cX12_lawOf 35 = .ok (.aload_n 0, 1) := by decide +kernel
theorem dX12_lawOf_36 : decode cX12_lawOf 36 = .ok (.getfield 69, 3) := by decide +kernel
theorem dX12_lawOf_39 : decode cX12_lawOf 39 = .ok (.iload_n 1, 1) := by decide +kernel
theorem dX12_lawOf_40 : decode cX12_lawOf 40 = .ok (.aaload, 1) := by decide +kernel
theorem dX12_lawOf_41 : decode cX12_lawOf 41 = .ok (.aload_n 0, 1) := by decide +kernel
theorem dX12_lawOf_42 : decode cX12_lawOf 42 = .ok (.getfield 72, 3) := by decide +kernel
theorem dX12_lawOf_45 : decode cX12_lawOf 45 = .ok (.iload_n 1, 1) := by decide +kernel
theorem dX12_lawOf_46 : decode cX12_lawOf 46 = .ok (.iaload, 1) := by decide +kernel
theorem dX12_lawOf_47 : decode cX12_lawOf 47 = .ok (.bipush 40, 2) := by decide +kernel
theorem dX12_lawOf_49 : decode cX12_lawOf 49 = .ok (.invokevirtual 190, 3) := by decide +kernel
theorem dX12_lawOf_52 : decode cX12_lawOf 52 = .ok (.aload_n 0, 1) := by decide +kernel
theorem dX12_lawOf_53 : decode cX12_lawOf 53 = .ok (.iload_n 2, 1) := by decide +kernel
theorem dX12_lawOf_54 : decode cX12_lawOf 54 = .ok (.putfield 75, 3) := by decide +kernel
theorem dX12_lawOf_57 : decode cX12_lawOf 57 = .ok (.aload_n 0, 1) := by decide +kernel
theorem dX12_lawOf_58 : decode cX12_lawOf 58 = .ok (.iload_n 3, 1) := by decide +kernel
theorem dX12_lawOf_59 : decode cX12_lawOf 59 = .ok (.putfield 228, 3) := by decide +kernel
theorem dX12_lawOf_62 : decode cX12_lawOf 62 = .ok (.aload_n 0, 1) := by decide +kernel
theorem dX12_lawOf_63 : decode cX12_lawOf 63 = .ok (.iload 4, 2) := by decide +kernel
theorem dX12_lawOf_65 : decode cX12_lawOf 65 = .ok (.putfield 234, 3) := by decide +kernel
theorem dX12_lawOf_68 : decode cX12_lawOf 68 = .ok (.aload_n 0, 1) := by decide +kernel
theorem dX12_lawOf_69 : decode cX12_lawOf 69 = .ok (.iload 5, 2) := by decide +kernel
theorem dX12_lawOf_71 : decode cX12_lawOf 71 = .ok (.putfield 237, 3) := by decide +kernel
theorem dX12_lawOf_74 : decode cX12_lawOf 74 = .ok (.iconst 0, 1) := by decide +kernel
theorem dX12_lawOf_75 : decode cX12_lawOf 75 = .ok (.bipush 99, 2) := by decide +kernel
theorem dX12_lawOf_77 : decode cX12_lawOf 77 = .ok (.aload_n 0, 1) := by decide +kernel
theorem dX12_lawOf_78 : decode cX12_lawOf 78 = .ok (.iconst 0, 1) := by decide +kernel
theorem dX12_lawOf_79 : decode cX12_lawOf 79 = .ok (.invokevirtual 221, 3) := by decide +kernel
theorem dX12_lawOf_82 : decode cX12_lawOf 82 = .ok (.invokestatic 240, 3) := by decide +kernel
theorem dX12_lawOf_85 : decode cX12_lawOf 85 = .ok (.invokestatic 246, 3) := by decide +kernel
theorem dX12_lawOf_88 : decode cX12_lawOf 88 = .ok (.ireturn, 1) := by decide +kernel
theorem dX12_step_0 : decode cX12_step 0 = .ok (.aload_n 0, 1) := by decide +kernel
theorem dX12_step_1 : decode cX12_step 1 = .ok (.iconst 0, 1) := by decide +kernel
theorem dX12_step_2 : decode cX12_step 2 = .ok (.putfield 140, 3) := by decide +kernel
theorem dX12_step_5 : decode cX12_step 5 = .ok (.aload_n 0, 1) := by decide +kernel
theorem dX12_step_6 : decode cX12_step 6 = .ok (.iload_n 1, 1) := by decide +kernel
theorem dX12_step_7 : decode cX12_step 7 = .ok (.invokevirtual 249, 3) := by decide +kernel
theorem dX12_step_10 : decode cX12_step 10 = .ok (.ifCond .eq 12, 3) := by decide +kernel
theorem dX12_step_13 : decode cX12_step 13 = .ok (.iload_n 2, 1) := by decide +kernel
theorem dX12_step_14 : decode cX12_step 14 = .ok (.iconst 0, 1) := by decide +kernel
theorem dX12_step_15 : decode cX12_step 15 = .ok (.iconst 4, 1) := by decide +kernel
theorem dX12_step_16 : decode cX12_step 16 = .ok (.invokestatic 149, 3) := by decide +kernel
theorem dX12_step_19 : decode cX12_step 19 = .ok (.ifCond .ne 8, 3) := by decide +kernel
theorem dX12_step_22 : decode cX12_step 22 = .ok (.aload_n 0, 1) := by decide +kernel
theorem dX12_step_23 : decode cX12_step 23 = .ok (.invokevirtual 253, 3) := by decide +kernel
theorem dX12_step_26 : decode cX12_step 26 = .ok (.ireturn, 1) := by decide +kernel
theorem dX12_step_27 : decode cX12_step 27 = .ok (.iload_n 2, 1) := by decide +kernel
theorem dX12_step_28 : decode cX12_step 28 = .ok (.ifCond .ne 12, 3) := by decide +kernel
theorem dX12_step_31 : decode cX12_step 31 = .ok (.aload_n 0, 1) := by decide +kernel
theorem dX12_step_32 : decode cX12_step 32 = .ok (.getfield 9, 3) := by decide +kernel
theorem dX12_step_35 : decode cX12_step 35 = .ok (.iload_n 1, 1) := by decide +kernel
theorem dX12_step_36 : decode cX12_step 36 = .ok (.iaload, 1) := by decide +kernel
theorem dX12_step_37 : decode cX12_step 37 = .ok (.goto 58, 3) := by decide +kernel
theorem dX12_step_40 : decode cX12_step 40 = .ok (.iload_n 2, 1) := by decide +kernel
theorem dX12_step_41 : decode cX12_step 41 = .ok (.iconst 1, 1) := by decide +kernel
theorem dX12_step_42 : decode cX12_step 42 = .ok (.if_icmp .ne 12, 3) := by decide +kernel
theorem dX12_step_45 : decode cX12_step 45 = .ok (.aload_n 0, 1) := by decide +kernel
theorem dX12_step_46 : decode cX12_step 46 = .ok (.getfield 13, 3) := by decide +kernel
theorem dX12_step_49 : decode cX12_step 49 = .ok (.iload_n 1, 1) := by decide +kernel
theorem dX12_step_50 : decode cX12_step 50 = .ok (.iaload, 1) := by decide +kernel
theorem dX12_step_51 : decode cX12_step 51 = .ok (.goto 44, 3) := by decide +kernel
theorem dX12_step_54 : decode cX12_step 54 = .ok (.iload_n 2, 1) := by decide +kernel
theorem dX12_step_55 : decode cX12_step 55 = .ok (.iconst 2, 1) := by decide +kernel
theorem dX12_step_56 : decode cX12_step 56 = .ok (.if_icmp .ne 12, 3) := by decide +kernel
theorem dX12_step_59 : decode cX12_step 59 = .ok (.aload_n 0, 1) := by decide +kernel
theorem dX12_step_60 : decode cX12_step 60 = .ok (.getfield 16, 3) := by decide +kernel
theorem dX12_step_63 : decode cX12_step 63 = .ok (.iload_n 1, 1) := by decide +kernel
theorem dX12_step_64 : decode cX12_step 64 = .ok (.iaload, 1) := by decide +kernel
theorem dX12_step_65 : decode cX12_step 65 = .ok (.goto 30, 3) := by decide +kernel
theorem dX12_step_68 : decode cX12_step 68 = .ok (.iload_n 2, 1) := by decide +kernel
theorem dX12_step_69 : decode cX12_step 69 = .ok (.iconst 3, 1) := by decide +kernel
theorem dX12_step_70 : decode cX12_step 70 = .ok (.if_icmp .ne 20, 3) := by decide +kernel
theorem dX12_step_73 : decode cX12_step 73 = .ok (.aload_n 0, 1) := by decide +kernel
theorem dX12_step_74 : decode cX12_step 74 = .ok (.getfield 19, 3) := by decide +kernel
theorem dX12_step_77 : decode cX12_step 77 = .ok (.iload_n 1, 1) := by decide +kernel
theorem dX12_step_78 : decode cX12_step 78 = .ok (.baload, 1) := by decide +kernel
theorem dX12_step_79 : decode cX12_step 79 = .ok (.ifCond .eq 7, 3) := by decide +kernel
theorem dX12_step_82 : decode cX12_step 82 = .ok (.iconst 1, 1) := by decide +kernel
theorem dX12_step_83 : decode cX12_step 83 = .ok (.goto 12, 3) := by decide +kernel
theorem dX12_step_86 : decode cX12_step 86 = .ok (.iconst 0, 1) := by decide +kernel
theorem dX12_step_87 : decode cX12_step 87 = .ok (.goto 8, 3) := by decide +kernel
theorem dX12_step_90 : decode cX12_step 90 = .ok (.aload_n 0, 1) := by decide +kernel
theorem dX12_step_91 : decode cX12_step 91 = .ok (.iload_n 1, 1) := by decide +kernel
theorem dX12_step_92 : decode cX12_step 92 = .ok (.invokevirtual 231, 3) := by decide +kernel
theorem dX12_step_95 : decode cX12_step 95 = .ok (.ireturn, 1) := by decide +kernel
theorem dX12_set_0 : decode cX12_set 0 = .ok (.aload_n 0, 1) := by decide +kernel
theorem dX12_set_1 : decode cX12_set 1 = .ok (.iconst 0, 1) := by decide +kernel
theorem dX12_set_2 : decode cX12_set 2 = .ok (.putfield 140, 3) := by decide +kernel
theorem dX12_set_5 : decode cX12_set 5 = .ok (.aload_n 0, 1) := by decide +kernel
theorem dX12_set_6 : decode cX12_set 6 = .ok (.iload_n 1, 1) := by decide +kernel
theorem dX12_set_7 : decode cX12_set 7 = .ok (.invokevirtual 249, 3) := by decide +kernel
theorem dX12_set_10 : decode cX12_set 10 = .ok (.ifCond .eq 31, 3) := by decide +kernel
theorem dX12_set_13 : decode cX12_set 13 = .ok (.iload_n 2, 1) := by decide +kernel
theorem dX12_set_14 : decode cX12_set 14 = .ok (.iconst 0, 1) := by decide +kernel
theorem dX12_set_15 : decode cX12_set 15 = .ok (.iconst 1, 1) := by decide +kernel
theorem dX12_set_16 : decode cX12_set 16 = .ok (.invokestatic 149, 3) := by decide +kernel
theorem dX12_set_19 : decode cX12_set 19 = .ok (.ifCond .eq 22, 3) := by decide +kernel
theorem dX12_set_22 : decode cX12_set 22 = .ok (.iload_n 3, 1) := by decide +kernel
theorem dX12_set_23 : decode cX12_set 23 = .ok (.iconst 0, 1) := by decide +kernel
theorem dX12_set_24 : decode cX12_set 24 = .ok (.iload_n 2, 1) := by decide +kernel
theorem dX12_set_25 : decode cX12_set 25 = .ok (.ifCond .ne 8, 3) := by decide +kernel
theorem dX12_set_28 : decode cX12_set 28 = .ok (.bipush 20, 2) := by decide +kernel
theorem dX12_set_30 : decode cX12_set 30 = .ok (.goto 5, 3) := by decide +kernel
theorem dX12_set_33 : decode cX12_set 33 = .ok (.bipush 9, 2) := by decide +kernel
theorem dX12_set_35 : decode cX12_set 35 = .ok (.invokestatic 149, 3) := by decide +kernel
theorem dX12_set_38 : decode cX12_set 38 = .ok (.ifCond .ne 5, 3) := by decide +kernel
theorem dX12_set_41 : decode cX12_set 41 = .ok (.iconst (-1), 1) := by decide +kernel
theorem dX12_set_42 : decode cX12_set 42 = .ok (.ireturn, 1) := by decide +kernel
theorem dX12_set_43 : decode cX12_set 43 = .ok (.iload_n 2, 1) := by decide +kernel
theorem dX12_set_44 : decode cX12_set 44 = .ok (.ifCond .ne 12, 3) := by decide +kernel
theorem dX12_set_47 : decode cX12_set 47 = .ok (.aload_n 0, 1) := by decide +kernel
theorem dX12_set_48 : decode cX12_set 48 = .ok (.getfield 16, 3) := by decide +kernel
theorem dX12_set_51 : decode cX12_set 51 = .ok (.iload_n 1, 1) := by decide +kernel
theorem dX12_set_52 : decode cX12_set 52 = .ok (.iaload, 1) := by decide +kernel
theorem dX12_set_53 : decode cX12_set 53 = .ok (.goto 9, 3) := by decide +kernel
theorem dX12_set_56 : decode cX12_set 56 = .ok (.aload_n 0, 1) := by decide +kernel
theorem dX12_set_57 : decode cX12_set 57 = .ok (.getfield 13, 3) := by decide +kernel
theorem dX12_set_60 : decode cX12_set 60 = .ok (.iload_n 1, 1) := by decide +kernel
theorem dX12_set_61 : decode cX12_set 61 = .ok (.iaload, 1) := by decide +kernel
theorem dX12_set_62 : decode cX12_set 62 = .ok (.istore 4, 2) := by decide +kernel
theorem dX12_set_64 : decode cX12_set 64 = .ok (.iload_n 2, 1) := by decide +kernel
theorem dX12_set_65 : decode cX12_set 65 = .ok (.ifCond .ne 13, 3) := by decide +kernel
theorem dX12_set_68 : decode cX12_set 68 = .ok (.aload_n 0, 1) := by decide +kernel
theorem dX12_set_69 : decode cX12_set 69 = .ok (.getfield 16, 3) := by decide +kernel
theorem dX12_set_72 : decode cX12_set 72 = .ok (.iload_n 1, 1) := by decide +kernel
theorem dX12_set_73 : decode cX12_set 73 = .ok (.iload_n 3, 1) := by decide +kernel
theorem dX12_set_74 : decode cX12_set 74 = .ok (.iastore, 1) := by decide +kernel
theorem dX12_set_75 : decode cX12_set 75 = .ok (.goto 10, 3) := by decide +kernel
theorem dX12_set_78 : decode cX12_set 78 = .ok (.aload_n 0, 1) := by decide +kernel
theorem dX12_set_79 : decode cX12_set 79 = .ok (.getfield 13, 3) := by decide +kernel
theorem dX12_set_82 : decode cX12_set 82 = .ok (.iload_n 1, 1) := by decide +kernel
theorem dX12_set_83 : decode cX12_set 83 = .ok (.iload_n 3, 1) := by decide +kernel
theorem dX12_set_84 : decode cX12_set 84 = .ok (.iastore, 1) := by decide +kernel
theorem dX12_set_85 : decode cX12_set 85 = .ok (.iload 4, 2) := by decide +kernel
theorem dX12_set_87 : decode cX12_set 87 = .ok (.ireturn, 1) := by decide +kernel
abbrev mX12_sheet_0_e1 : ByteArray := .mk #[0x2a, 0x03, 0xb5, 0x00, 0x8c, 0x1b, 0x03, 0x06, 0xb8, 0x00, 0x95, 0x99, 0x00, 0x09, 0x1c, 0x10, 0x18, 0xa4, 0x00, 0x05, 0x02, 0xac, 0x1b, 0x06, 0xa2, 0x00, 0x0a, 0x1c, 0x9c, 0x00, 0x06, 0x10, 0xfe, 0xac, 0x03, 0x36, 0x05, 0x1d, 0x36, 0x06, 0x03, 0x36, 0x07, 0x15, 0x07, 0x2a, 0xb4, 0x00, 0x92, 0xa2, 0x00, 0x56, 0x1b, 0x9a, 0x00, 0x09, 0x15, 0x06, 0x91, 0xa7, 0x00, 0x10, 0x1b, 0x04, 0xa0, 0x00, 0x09, 0x15, 0x06, 0x93, 0xa7, 0x00]
theorem kmX12_sheet_0_e1 : CK cX12_sheet 0 mX12_sheet_0_e1 := ck_of (by decide +kernel)
theorem dX12_sheet_0 : decode cX12_sheet 0 = .ok (.aload_n 0, 1) := rd_chunk (k := 0) (i := 0) kmX12_sheet_0_e1 (by decide +kernel)
theorem dX12_sheet_1 : decode cX12_sheet 1 = .ok (.iconst 0, 1) := rd_chunk (k := 0) (i := 1) kmX12_sheet_0_e1 (by decide +kernel)
theorem dX12_sheet_2 : decode cX12_sheet 2 = .ok (.putfield 140, 3) := rd_chunk (k := 0) (i := 2) kmX12_sheet_0_e1 (by decide +kernel)
theorem dX12_sheet_5 : decode cX12_sheet 5 = .ok (.iload_n 1, 1) := rd_chunk (k := 0) (i := 5) kmX12_sheet_0_e1 (by decide +kernel)
theorem dX12_sheet_6 : decode cX12_sheet 6 = .ok (.iconst 0, 1) := rd_chunk (k := 0) (i := 6) kmX12_sheet_0_e1 (by decide +kernel)
theorem dX12_sheet_7 : decode cX12_sheet 7 = .ok (.iconst 3, 1) := rd_chunk (k := 0) (i := 7) kmX12_sheet_0_e1 (by decide +kernel)
theorem dX12_sheet_8 : decode cX12_sheet 8 = .ok (.invokestatic 149, 3) := rd_chunk (k := 0) (i := 8) kmX12_sheet_0_e1 (by decide +kernel)
theorem dX12_sheet_11 : decode cX12_sheet 11 = .ok (.ifCond .eq 9, 3) := rd_chunk (k := 0) (i := 11) kmX12_sheet_0_e1 (by decide +kernel)
theorem dX12_sheet_14 : decode cX12_sheet 14 = .ok (.iload_n 2, 1) := rd_chunk (k := 0) (i := 14) kmX12_sheet_0_e1 (by decide +kernel)
theorem dX12_sheet_15 : decode cX12_sheet 15 = .ok (.bipush 24, 2) := rd_chunk (k := 0) (i := 15) kmX12_sheet_0_e1 (by decide +kernel)
theorem dX12_sheet_17 : decode cX12_sheet 17 = .ok (.if_icmp .le 5, 3) := rd_chunk (k := 0) (i := 17) kmX12_sheet_0_e1 (by decide +kernel)
theorem dX12_sheet_20 : decode cX12_sheet 20 = .ok (.iconst (-1), 1) := rd_chunk (k := 0) (i := 20) kmX12_sheet_0_e1 (by decide +kernel)
theorem dX12_sheet_21 : decode cX12_sheet 21 = .ok (.ireturn, 1) := rd_chunk (k := 0) (i := 21) kmX12_sheet_0_e1 (by decide +kernel)
theorem dX12_sheet_22 : decode cX12_sheet 22 = .ok (.iload_n 1, 1) := rd_chunk (k := 0) (i := 22) kmX12_sheet_0_e1 (by decide +kernel)
theorem dX12_sheet_23 : decode cX12_sheet 23 = .ok (.iconst 3, 1) := rd_chunk (k := 0) (i := 23) kmX12_sheet_0_e1 (by decide +kernel)
theorem dX12_sheet_24 : decode cX12_sheet 24 = .ok (.if_icmp .ge 10, 3) := rd_chunk (k := 0) (i := 24) kmX12_sheet_0_e1 (by decide +kernel)
theorem dX12_sheet_27 : decode cX12_sheet 27 = .ok (.iload_n 2, 1) := rd_chunk (k := 0) (i := 27) kmX12_sheet_0_e1 (by decide +kernel)
theorem dX12_sheet_28 : decode cX12_sheet 28 = .ok (.ifCond .ge 6, 3) := rd_chunk (k := 0) (i := 28) kmX12_sheet_0_e1 (by decide +kernel)
theorem dX12_sheet_31 : decode cX12_sheet 31 = .ok (.bipush (-2), 2) := rd_chunk (k := 0) (i := 31) kmX12_sheet_0_e1 (by decide +kernel)
theorem dX12_sheet_33 : decode cX12_sheet 33 = .ok (.ireturn, 1) := rd_chunk (k := 0) (i := 33) kmX12_sheet_0_e1 (by decide +kernel)
theorem dX12_sheet_34 : decode cX12_sheet 34 = .ok (.iconst 0, 1) := rd_chunk (k := 0) (i := 34) kmX12_sheet_0_e1 (by decide +kernel)
theorem dX12_sheet_35 : decode cX12_sheet 35 = .ok (.istore 5, 2) := rd_chunk (k := 0) (i := 35) kmX12_sheet_0_e1 (by decide +kernel)
theorem dX12_sheet_37 : decode cX12_sheet 37 = .ok (.iload_n 3, 1) := rd_chunk (k := 0) (i := 37) kmX12_sheet_0_e1 (by decide +kernel)
theorem dX12_sheet_38 : decode cX12_sheet 38 = .ok (.istore 6, 2) := rd_chunk (k := 0) (i := 38) kmX12_sheet_0_e1 (by decide +kernel)
theorem dX12_sheet_40 : decode cX12_sheet 40 = .ok (.iconst 0, 1) := rd_chunk (k := 0) (i := 40) kmX12_sheet_0_e1 (by decide +kernel)
theorem dX12_sheet_41 : decode cX12_sheet 41 = .ok (.istore 7, 2) := rd_chunk (k := 0) (i := 41) kmX12_sheet_0_e1 (by decide +kernel)
theorem dX12_sheet_43 : decode cX12_sheet 43 = .ok (.iload 7, 2) := rd_chunk (k := 0) (i := 43) kmX12_sheet_0_e1 (by decide +kernel)
theorem dX12_sheet_45 : decode cX12_sheet 45 = .ok (.aload_n 0, 1) := rd_chunk (k := 0) (i := 45) kmX12_sheet_0_e1 (by decide +kernel)
theorem dX12_sheet_46 : decode cX12_sheet 46 = .ok (.getfield 146, 3) := rd_chunk (k := 0) (i := 46) kmX12_sheet_0_e1 (by decide +kernel)
theorem dX12_sheet_49 : decode cX12_sheet 49 = .ok (.if_icmp .ge 86, 3) := rd_chunk (k := 0) (i := 49) kmX12_sheet_0_e1 (by decide +kernel)
theorem dX12_sheet_52 : decode cX12_sheet 52 = .ok (.iload_n 1, 1) := rd_chunk (k := 0) (i := 52) kmX12_sheet_0_e1 (by decide +kernel)
theorem dX12_sheet_53 : decode cX12_sheet 53 = .ok (.ifCond .ne 9, 3) := rd_chunk (k := 0) (i := 53) kmX12_sheet_0_e1 (by decide +kernel)
theorem dX12_sheet_56 : decode cX12_sheet 56 = .ok (.iload 6, 2) := rd_chunk (k := 0) (i := 56) kmX12_sheet_0_e1 (by decide +kernel)
theorem dX12_sheet_58 : decode cX12_sheet 58 = .ok (.i2b, 1) := rd_chunk (k := 0) (i := 58) kmX12_sheet_0_e1 (by decide +kernel)
theorem dX12_sheet_59 : decode cX12_sheet 59 = .ok (.goto 16, 3) := rd_chunk (k := 0) (i := 59) kmX12_sheet_0_e1 (by decide +kernel)
theorem dX12_sheet_62 : decode cX12_sheet 62 = .ok (.iload_n 1, 1) := rd_chunk (k := 0) (i := 62) kmX12_sheet_0_e1 (by decide +kernel)
theorem dX12_sheet_63 : decode cX12_sheet 63 = .ok (.iconst 1, 1) := rd_chunk (k := 0) (i := 63) kmX12_sheet_0_e1 (by decide +kernel)
abbrev mX12_sheet_64_e1 : ByteArray := .mk #[0xa0, 0x00, 0x09, 0x15, 0x06, 0x93, 0xa7, 0x00, 0x05, 0x15, 0x06, 0x36, 0x08, 0x2a, 0xb4, 0x00, 0x10, 0x15, 0x07, 0x1b, 0x06, 0x9f, 0x00, 0x09, 0x15, 0x07, 0x1c, 0xa1, 0x00, 0x07, 0x03, 0xa7, 0x00, 0x0e, 0x03, 0x10, 0x14, 0x15, 0x08, 0xb8, 0x00, 0xf0, 0xb8, 0x00, 0xf6, 0x4f, 0x15, 0x05, 0x2a, 0xb4, 0x00, 0x10, 0x15, 0x07, 0x2e, 0x60, 0x36, 0x05, 0x15, 0x06, 0x15, 0x04, 0x60, 0x36, 0x06, 0x84, 0x07, 0x01, 0xa7, 0xff, 0xa7, 0x1b]
theorem kmX12_sheet_64_e1 : CK cX12_sheet 64 mX12_sheet_64_e1 := ck_of (by decide +kernel)
theorem dX12_sheet_64 : decode cX12_sheet 64 = .ok (.if_icmp .ne 9, 3) := rd_chunk (k := 64) (i := 0) kmX12_sheet_64_e1 (by decide +kernel)
theorem dX12_sheet_67 : decode cX12_sheet 67 = .ok (.iload 6, 2) := rd_chunk (k := 64) (i := 3) kmX12_sheet_64_e1 (by decide +kernel)
theorem dX12_sheet_69 : decode cX12_sheet 69 = .ok (.i2s, 1) := rd_chunk (k := 64) (i := 5) kmX12_sheet_64_e1 (by decide +kernel)
theorem dX12_sheet_70 : decode cX12_sheet 70 = .ok (.goto 5, 3) := rd_chunk (k := 64) (i := 6) kmX12_sheet_64_e1 (by decide +kernel)
theorem dX12_sheet_73 : decode cX12_sheet 73 = .ok (.iload 6, 2) := rd_chunk (k := 64) (i := 9) kmX12_sheet_64_e1 (by decide +kernel)
theorem dX12_sheet_75 : decode cX12_sheet 75 = .ok (.istore 8, 2) := rd_chunk (k := 64) (i := 11) kmX12_sheet_64_e1 (by decide +kernel)
theorem dX12_sheet_77 : decode cX12_sheet 77 = .ok (.aload_n 0, 1) := rd_chunk (k := 64) (i := 13) kmX12_sheet_64_e1 (by decide +kernel)
theorem dX12_sheet_78 : decode cX12_sheet 78 = .ok (.getfield 16, 3) := rd_chunk (k := 64) (i := 14) kmX12_sheet_64_e1 (by decide +kernel)
theorem dX12_sheet_81 : decode cX12_sheet 81 = .ok (.iload 7, 2) := rd_chunk (k := 64) (i := 17) kmX12_sheet_64_e1 (by decide +kernel)
theorem dX12_sheet_83 : decode cX12_sheet 83 = .ok (.iload_n 1, 1) := rd_chunk (k := 64) (i := 19) kmX12_sheet_64_e1 (by decide +kernel)
theorem dX12_sheet_84 : decode cX12_sheet 84 = .ok (.iconst 3, 1) := rd_chunk (k := 64) (i := 20) kmX12_sheet_64_e1 (by decide +kernel)
theorem dX12_sheet_85 : decode cX12_sheet 85 = .ok (.if_icmp .eq 9, 3) := rd_chunk (k := 64) (i := 21) kmX12_sheet_64_e1 (by decide +kernel)
theorem dX12_sheet_88 : decode cX12_sheet 88 = .ok (.iload 7, 2) := rd_chunk (k := 64) (i := 24) kmX12_sheet_64_e1 (by decide +kernel)
theorem dX12_sheet_90 : decode cX12_sheet 90 = .ok (.iload_n 2, 1) := rd_chunk (k := 64) (i := 26) kmX12_sheet_64_e1 (by decide +kernel)
theorem dX12_sheet_91 : decode cX12_sheet 91 = .ok (.if_icmp .lt 7, 3) := rd_chunk (k := 64) (i := 27) kmX12_sheet_64_e1 (by decide +kernel)
theorem dX12_sheet_94 : decode cX12_sheet 94 = .ok (.iconst 0, 1) := rd_chunk (k := 64) (i := 30) kmX12_sheet_64_e1 (by decide +kernel)
theorem dX12_sheet_95 : decode cX12_sheet 95 = .ok (.goto 14, 3) := rd_chunk (k := 64) (i := 31) kmX12_sheet_64_e1 (by decide +kernel)
theorem dX12_sheet_98 : decode cX12_sheet 98 = .ok (.iconst 0, 1) := rd_chunk (k := 64) (i := 34) kmX12_sheet_64_e1 (by decide +kernel)
theorem dX12_sheet_99 : decode cX12_sheet 99 = .ok (.bipush 20, 2) := rd_chunk (k := 64) (i := 35) kmX12_sheet_64_e1 (by decide +kernel)
theorem dX12_sheet_101 : decode cX12_sheet 101 = .ok (.iload 8, 2) := rd_chunk (k := 64) (i := 37) kmX12_sheet_64_e1 (by decide +kernel)
theorem dX12_sheet_103 : decode cX12_sheet 103 = .ok (.invokestatic 240, 3) := rd_chunk (k := 64) (i := 39) kmX12_sheet_64_e1 (by decide +kernel)
theorem dX12_sheet_106 : decode cX12_sheet 106 = .ok (.invokestatic 246, 3) := rd_chunk (k := 64) (i := 42) kmX12_sheet_64_e1 (by decide +kernel)
theorem dX12_sheet_109 : decode cX12_sheet 109 = .ok (.iastore, 1) := rd_chunk (k := 64) (i := 45) kmX12_sheet_64_e1 (by decide +kernel)
theorem dX12_sheet_110 : decode cX12_sheet 110 = .ok (.iload 5, 2) := rd_chunk (k := 64) (i := 46) kmX12_sheet_64_e1 (by decide +kernel)
theorem dX12_sheet_112 : decode cX12_sheet 112 = .ok (.aload_n 0, 1) := rd_chunk (k := 64) (i := 48) kmX12_sheet_64_e1 (by decide +kernel)
theorem dX12_sheet_113 : decode cX12_sheet 113 = .ok (.getfield 16, 3) := rd_chunk (k := 64) (i := 49) kmX12_sheet_64_e1 (by decide +kernel)
theorem dX12_sheet_116 : decode cX12_sheet 116 = .ok (.iload 7, 2) := rd_chunk (k := 64) (i := 52) kmX12_sheet_64_e1 (by decide +kernel)
theorem dX12_sheet_118 : decode cX12_sheet 118 = .ok (.iaload, 1) := rd_chunk (k := 64) (i := 54) kmX12_sheet_64_e1 (by decide +kernel)
theorem dX12_sheet_119 : decode cX12_sheet 119 = .ok (.iadd, 1) := rd_chunk (k := 64) (i := 55) kmX12_sheet_64_e1 (by decide +kernel)
theorem dX12_sheet_120 : decode cX12_sheet 120 = .ok (.istore 5, 2) := rd_chunk (k := 64) (i := 56) kmX12_sheet_64_e1 (by decide +kernel)
theorem dX12_sheet_122 : decode cX12_sheet 122 = .ok (.iload 6, 2) := rd_chunk (k := 64) (i := 58) kmX12_sheet_64_e1 (by decide +kernel)
theorem dX12_sheet_124 : decode cX12_sheet 124 = .ok (.iload 4, 2) := rd_chunk (k := 64) (i := 60) kmX12_sheet_64_e1 (by decide +kernel)
theorem dX12_sheet_126 : decode cX12_sheet 126 = .ok (.iadd, 1) := rd_chunk (k := 64) (i := 62) kmX12_sheet_64_e1 (by decide +kernel)
theorem dX12_sheet_127 : decode cX12_sheet 127 = .ok (.istore 6, 2) := rd_chunk (k := 64) (i := 63) kmX12_sheet_64_e1 (by decide +kernel)
abbrev mX12_sheet_128_e1 : ByteArray := .mk #[0x06, 0x84, 0x07, 0x01, 0xa7, 0xff, 0xa7, 0x1b, 0x06, 0xa0, 0x00, 0x08, 0x10, 0xfd, 0xa7, 0x00, 0x05, 0x15, 0x05, 0xac]
theorem kmX12_sheet_128_e1 : CK cX12_sheet 128 mX12_sheet_128_e1 := ck_of (by decide +kernel)
theorem dX12_sheet_129 : decode cX12_sheet 129 = .ok (.iinc 7 1, 3) := rd_chunk (k := 128) (i := 1) kmX12_sheet_128_e1 (by decide +kernel)
theorem dX12_sheet_132 : decode cX12_sheet 132 = .ok (.goto (-89), 3) := rd_chunk (k := 128) (i := 4) kmX12_sheet_128_e1 (by decide +kernel)
theorem dX12_sheet_135 : decode cX12_sheet 135 = .ok (.iload_n 1, 1) := rd_chunk (k := 128) (i := 7) kmX12_sheet_128_e1 (by decide +kernel)
theorem dX12_sheet_136 : decode cX12_sheet 136 = .ok (.iconst 3, 1) := rd_chunk (k := 128) (i := 8) kmX12_sheet_128_e1 (by decide +kernel)
theorem dX12_sheet_137 : decode cX12_sheet 137 = .ok (.if_icmp .ne 8, 3) := rd_chunk (k := 128) (i := 9) kmX12_sheet_128_e1 (by decide +kernel)
theorem dX12_sheet_140 : decode cX12_sheet 140 = .ok (.bipush (-3), 2) := rd_chunk (k := 128) (i := 12) kmX12_sheet_128_e1 (by decide +kernel)
theorem dX12_sheet_142 : decode cX12_sheet 142 = .ok (.goto 5, 3) := rd_chunk (k := 128) (i := 14) kmX12_sheet_128_e1 (by decide +kernel)
theorem dX12_sheet_145 : decode cX12_sheet 145 = .ok (.iload 5, 2) := rd_chunk (k := 128) (i := 17) kmX12_sheet_128_e1 (by decide +kernel)
theorem dX12_sheet_147 : decode cX12_sheet 147 = .ok (.ireturn, 1) := rd_chunk (k := 128) (i := 19) kmX12_sheet_128_e1 (by decide +kernel)
theorem dX12_feud_0 : decode cX12_feud 0 = .ok (.aload_n 0, 1) := by decide +kernel
theorem dX12_feud_1 : decode cX12_feud 1 = .ok (.iconst 0, 1) := by decide +kernel
theorem dX12_feud_2 : decode cX12_feud 2 = .ok (.putfield 140, 3) := by decide +kernel
theorem dX12_feud_5 : decode cX12_feud 5 = .ok (.iload_n 1, 1) := by decide +kernel
theorem dX12_feud_6 : decode cX12_feud 6 = .ok (.invokestatic 256, 3) := by decide +kernel
theorem dX12_feud_9 : decode cX12_feud 9 = .ok (.ifCond .eq 15, 3) := by decide +kernel
theorem dX12_feud_12 : decode cX12_feud 12 = .ok (.iload_n 2, 1) := by decide +kernel
theorem dX12_feud_13 : decode cX12_feud 13 = .ok (.invokestatic 256, 3) := by decide +kernel
theorem dX12_feud_16 : decode cX12_feud 16 = .ok (.ifCond .eq 8, 3) := by decide +kernel
theorem dX12_feud_19 : decode cX12_feud 19 = .ok (.iload_n 1, 1) := by decide +kernel
theorem dX12_feud_20 : decode cX12_feud 20 = .ok (.iload_n 2, 1) := by decide +kernel
theorem dX12_feud_21 : decode cX12_feud 21 = .ok (.if_icmp .ne 5, 3) := by decide +kernel
theorem dX12_feud_24 : decode cX12_feud 24 = .ok (.iconst 0, 1) := by decide +kernel
theorem dX12_feud_25 : decode cX12_feud 25 = .ok (.ireturn, 1) := by decide +kernel
theorem dX12_feud_26 : decode cX12_feud 26 = .ok (.aload_n 0, 1) := by decide +kernel
theorem dX12_feud_27 : decode cX12_feud 27 = .ok (.iload_n 1, 1) := by decide +kernel
theorem dX12_feud_28 : decode cX12_feud 28 = .ok (.iload_n 2, 1) := by decide +kernel
theorem dX12_feud_29 : decode cX12_feud 29 = .ok (.iload_n 3, 1) := by decide +kernel
theorem dX12_feud_30 : decode cX12_feud 30 = .ok (.invokevirtual 259, 3) := by decide +kernel
theorem dX12_feud_33 : decode cX12_feud 33 = .ok (.iconst 1, 1) := by decide +kernel
theorem dX12_feud_34 : decode cX12_feud 34 = .ok (.ireturn, 1) := by decide +kernel
theorem dX12_setFeud_0 : decode cX12_setFeud 0 = .ok (.aload_n 0, 1) := by decide +kernel
theorem dX12_setFeud_1 : decode cX12_setFeud 1 = .ok (.getfield 26, 3) := by decide +kernel
theorem dX12_setFeud_4 : decode cX12_setFeud 4 = .ok (.bipush 8, 2) := by decide +kernel
theorem dX12_setFeud_6 : decode cX12_setFeud 6 = .ok (.iload_n 1, 1) := by decide +kernel
theorem dX12_setFeud_7 : decode cX12_setFeud 7 = .ok (.imul, 1) := by decide +kernel
theorem dX12_setFeud_8 : decode cX12_setFeud 8 = .ok (.iload_n 2, 1) := by decide +kernel
theorem dX12_setFeud_9 : decode cX12_setFeud 9 = .ok (.iadd, 1) := by decide +kernel
theorem dX12_setFeud_10 : decode cX12_setFeud 10 = .ok (.iload_n 3, 1) := by decide +kernel
theorem dX12_setFeud_11 : decode cX12_setFeud 11 = .ok (.bastore, 1) := by decide +kernel
theorem dX12_setFeud_12 : decode cX12_setFeud 12 = .ok (.aload_n 0, 1) := by decide +kernel
theorem dX12_setFeud_13 : decode cX12_setFeud 13 = .ok (.getfield 26, 3) := by decide +kernel
theorem dX12_setFeud_16 : decode cX12_setFeud 16 = .ok (.bipush 8, 2) := by decide +kernel
theorem dX12_setFeud_18 : decode cX12_setFeud 18 = .ok (.iload_n 2, 1) := by decide +kernel
theorem dX12_setFeud_19 : decode cX12_setFeud 19 = .ok (.imul, 1) := by decide +kernel
theorem dX12_setFeud_20 : decode cX12_setFeud 20 = .ok (.iload_n 1, 1) := by decide +kernel
theorem dX12_setFeud_21 : decode cX12_setFeud 21 = .ok (.iadd, 1) := by decide +kernel
theorem dX12_setFeud_22 : decode cX12_setFeud 22 = .ok (.iload_n 3, 1) := by decide +kernel
theorem dX12_setFeud_23 : decode cX12_setFeud 23 = .ok (.bastore, 1) := by decide +kernel
theorem dX12_setFeud_24 : decode cX12_setFeud 24 = .ok (.return_, 1) := by decide +kernel
theorem dX12_wears_0 : decode cX12_wears 0 = .ok (.aload_n 0, 1) := by decide +kernel
theorem dX12_wears_1 : decode cX12_wears 1 = .ok (.iconst 0, 1) := by decide +kernel
theorem dX12_wears_2 : decode cX12_wears 2 = .ok (.putfield 140, 3) := by decide +kernel
theorem dX12_wears_5 : decode cX12_wears 5 = .ok (.iload_n 1, 1) := by decide +kernel
theorem dX12_wears_6 : decode cX12_wears 6 = .ok (.iconst 0, 1) := by decide +kernel
theorem dX12_wears_7 : decode cX12_wears 7 = .ok (.bipush 9, 2) := by decide +kernel
theorem dX12_wears_9 : decode cX12_wears 9 = .ok (.invokestatic 149, 3) := by decide +kernel
theorem dX12_wears_12 : decode cX12_wears 12 = .ok (.ifCond .ne 5, 3) := by decide +kernel
theorem dX12_wears_15 : decode cX12_wears 15 = .ok (.iconst (-1), 1) := by decide +kernel
theorem dX12_wears_16 : decode cX12_wears 16 = .ok (.ireturn, 1) := by decide +kernel
theorem dX12_wears_17 : decode cX12_wears 17 = .ok (.iconst 0, 1) := by decide +kernel
theorem dX12_wears_18 : decode cX12_wears 18 = .ok (.istore_n 2, 1) := by decide +kernel
theorem dX12_wears_19 : decode cX12_wears 19 = .ok (.iconst 0, 1) := by decide +kernel
theorem dX12_wears_20 : decode cX12_wears 20 = .ok (.istore_n 3, 1) := by decide +kernel
theorem dX12_wears_21 : decode cX12_wears 21 = .ok (.iload_n 3, 1) := by decide +kernel
theorem dX12_wears_22 : decode cX12_wears 22 = .ok (.aload_n 0, 1) := by decide +kernel
theorem dX12_wears_23 : decode cX12_wears 23 = .ok (.getfield 146, 3) := by decide +kernel
theorem dX12_wears_26 : decode cX12_wears 26 = .ok (.if_icmp .ge 36, 3) := by decide +kernel
theorem dX12_wears_29 : decode cX12_wears 29 = .ok (.aload_n 0, 1) := by decide +kernel
theorem dX12_wears_30 : decode cX12_wears 30 = .ok (.getfield 13, 3) := by decide +kernel
theorem dX12_wears_33 : decode cX12_wears 33 = .ok (.iload_n 3, 1) := by decide +kernel
theorem dX12_wears_34 : decode cX12_wears 34 = .ok (.iconst 0, 1) := by decide +kernel
theorem dX12_wears_35 : decode cX12_wears 35 = .ok (.aload_n 0, 1) := by decide +kernel
theorem dX12_wears_36 : decode cX12_wears 36 = .ok (.getfield 13, 3) := by decide +kernel
theorem dX12_wears_39 : decode cX12_wears 39 = .ok (.iload_n 3, 1) := by decide +kernel
theorem dX12_wears_40 : decode cX12_wears 40 = .ok (.iaload, 1) := by decide +kernel
theorem dX12_wears_41 : decode cX12_wears 41 = .ok (.iload_n 1, 1) := by decide +kernel
theorem dX12_wears_42 : decode cX12_wears 42 = .ok (.isub, 1) := by decide +kernel
theorem dX12_wears_43 : decode cX12_wears 43 = .ok (.invokestatic 246, 3) := by decide +kernel
theorem dX12_wears_46 : decode cX12_wears 46 = .ok (.iastore, 1) := by decide +kernel
theorem dX12_wears_47 : decode cX12_wears 47 = .ok (.iload_n 2, 1) := by decide +kernel
theorem dX12_wears_48 : decode cX12_wears 48 = .ok (.aload_n 0, 1) := by decide +kernel
theorem dX12_wears_49 : decode cX12_wears 49 = .ok (.getfield 13, 3) := by decide +kernel
theorem dX12_wears_52 : decode cX12_wears 52 = .ok (.iload_n 3, 1) := by decide +kernel
theorem dX12_wears_53 : decode cX12_wears 53 = .ok (.iaload, 1) := by decide +kernel
theorem dX12_wears_54 : decode cX12_wears 54 = .ok (.iadd, 1) := by decide +kernel
theorem dX12_wears_55 : decode cX12_wears 55 = .ok (.istore_n 2, 1) := by decide +kernel
theorem dX12_wears_56 : decode cX12_wears 56 = .ok (.iinc 3 1, 3) := by decide +kernel
theorem dX12_wears_59 : decode cX12_wears 59 = .ok (.goto (-38), 3) := by decide +kernel
theorem dX12_wears_62 : decode cX12_wears 62 = .ok (.iload_n 2, 1) := by decide +kernel
theorem dX12_wears_63 : decode cX12_wears 63 = .ok (.ireturn, 1) := by decide +kernel
abbrev mX12_pilgrim_0_e1 : ByteArray := .mk #[0x2a, 0x03, 0xb5, 0x00, 0x8c, 0x1b, 0x04, 0x10, 0x78, 0xb8, 0x00, 0x95, 0x99, 0x00, 0x2b, 0x1c, 0x03, 0x11, 0x03, 0xe7, 0xb8, 0x00, 0x95, 0x99, 0x00, 0x20, 0x1d, 0x04, 0x06, 0xb8, 0x00, 0x95, 0x99, 0x00, 0x17, 0x15, 0x04, 0x03, 0x10, 0x32, 0xb8, 0x00, 0x95, 0x99, 0x00, 0x0c, 0x2a, 0xb4, 0x00, 0x99, 0x10, 0x06, 0xa0, 0x00, 0x05, 0x02, 0xac, 0x2a, 0xb4, 0x00, 0x1d, 0x2a, 0xb4, 0x00, 0x99, 0x1b, 0x4f, 0x2a, 0xb4, 0x00, 0x20, 0x2a]
theorem kmX12_pilgrim_0_e1 : CK cX12_pilgrim 0 mX12_pilgrim_0_e1 := ck_of (by decide +kernel)
theorem dX12_pilgrim_0 : decode cX12_pilgrim 0 = .ok (.aload_n 0, 1) := rd_chunk (k := 0) (i := 0) kmX12_pilgrim_0_e1 (by decide +kernel)
theorem dX12_pilgrim_1 : decode cX12_pilgrim 1 = .ok (.iconst 0, 1) := rd_chunk (k := 0) (i := 1) kmX12_pilgrim_0_e1 (by decide +kernel)
theorem dX12_pilgrim_2 : decode cX12_pilgrim 2 = .ok (.putfield 140, 3) := rd_chunk (k := 0) (i := 2) kmX12_pilgrim_0_e1 (by decide +kernel)
theorem dX12_pilgrim_5 : decode cX12_pilgrim 5 = .ok (.iload_n 1, 1) := rd_chunk (k := 0) (i := 5) kmX12_pilgrim_0_e1 (by decide +kernel)
theorem dX12_pilgrim_6 : decode cX12_pilgrim 6 = .ok (.iconst 1, 1) := rd_chunk (k := 0) (i := 6) kmX12_pilgrim_0_e1 (by decide +kernel)
theorem dX12_pilgrim_7 : decode cX12_pilgrim 7 = .ok (.bipush 120, 2) := rd_chunk (k := 0) (i := 7) kmX12_pilgrim_0_e1 (by decide +kernel)
theorem dX12_pilgrim_9 : decode cX12_pilgrim 9 = .ok (.invokestatic 149, 3) := rd_chunk (k := 0) (i := 9) kmX12_pilgrim_0_e1 (by decide +kernel)
theorem dX12_pilgrim_12 : decode cX12_pilgrim 12 = .ok (.ifCond .eq 43, 3) := rd_chunk (k := 0) (i := 12) kmX12_pilgrim_0_e1 (by decide +kernel)
theorem dX12_pilgrim_15 : decode cX12_pilgrim 15 = .ok (.iload_n 2, 1) := rd_chunk (k := 0) (i := 15) kmX12_pilgrim_0_e1 (by decide +kernel)
theorem dX12_pilgrim_16 : decode cX12_pilgrim 16 = .ok (.iconst 0, 1) := rd_chunk (k := 0) (i := 16) kmX12_pilgrim_0_e1 (by decide +kernel)
theorem dX12_pilgrim_17 : decode cX12_pilgrim 17 = .ok (.sipush 999, 3) := rd_chunk (k := 0) (i := 17) kmX12_pilgrim_0_e1 (by decide +kernel)
theorem dX12_pilgrim_20 : decode cX12_pilgrim 20 = .ok (.invokestatic 149, 3) := rd_chunk (k := 0) (i := 20) kmX12_pilgrim_0_e1 (by decide +kernel)
theorem dX12_pilgrim_23 : decode cX12_pilgrim 23 = .ok (.ifCond .eq 32, 3) := rd_chunk (k := 0) (i := 23) kmX12_pilgrim_0_e1 (by decide +kernel)
theorem dX12_pilgrim_26 : decode cX12_pilgrim 26 = .ok (.iload_n 3, 1) := rd_chunk (k := 0) (i := 26) kmX12_pilgrim_0_e1 (by decide +kernel)
theorem dX12_pilgrim_27 : decode cX12_pilgrim 27 = .ok (.iconst 1, 1) := rd_chunk (k := 0) (i := 27) kmX12_pilgrim_0_e1 (by decide +kernel)
theorem dX12_pilgrim_28 : decode cX12_pilgrim 28 = .ok (.iconst 3, 1) := rd_chunk (k := 0) (i := 28) kmX12_pilgrim_0_e1 (by decide +kernel)
theorem dX12_pilgrim_29 : decode cX12_pilgrim 29 = .ok (.invokestatic 149, 3) := rd_chunk (k := 0) (i := 29) kmX12_pilgrim_0_e1 (by decide +kernel)
theorem dX12_pilgrim_32 : decode cX12_pilgrim 32 = .ok (.ifCond .eq 23, 3) := rd_chunk (k := 0) (i := 32) kmX12_pilgrim_0_e1 (by decide +kernel)
theorem dX12_pilgrim_35 : decode cX12_pilgrim 35 = .ok (.iload 4, 2) := rd_chunk (k := 0) (i := 35) kmX12_pilgrim_0_e1 (by decide +kernel)
theorem dX12_pilgrim_37 : decode cX12_pilgrim 37 = .ok (.iconst 0, 1) := rd_chunk (k := 0) (i := 37) kmX12_pilgrim_0_e1 (by decide +kernel)
theorem dX12_pilgrim_38 : decode cX12_pilgrim 38 = .ok (.bipush 50, 2) := rd_chunk (k := 0) (i := 38) kmX12_pilgrim_0_e1 (by decide +kernel)
theorem dX12_pilgrim_40 : decode cX12_pilgrim 40 = .ok (.invokestatic 149, 3) := rd_chunk (k := 0) (i := 40) kmX12_pilgrim_0_e1 (by decide +kernel)
theorem dX12_pilgrim_43 : decode cX12_pilgrim 43 = .ok (.ifCond .eq 12, 3) := rd_chunk (k := 0) (i := 43) kmX12_pilgrim_0_e1 (by decide +kernel)
theorem dX12_pilgrim_46 : decode cX12_pilgrim 46 = .ok (.aload_n 0, 1) := rd_chunk (k := 0) (i := 46) kmX12_pilgrim_0_e1 (by decide +kernel)
theorem dX12_pilgrim_47 : decode cX12_pilgrim 47 = .ok (.getfield 153, 3) := rd_chunk (k := 0) (i := 47) kmX12_pilgrim_0_e1 (by decide +kernel)
theorem dX12_pilgrim_50 : decode cX12_pilgrim 50 = .ok (.bipush 6, 2) := rd_chunk (k := 0) (i := 50) kmX12_pilgrim_0_e1 (by decide +kernel)
theorem dX12_pilgrim_52 : decode cX12_pilgrim 52 = .ok (.if_icmp .ne 5, 3) := rd_chunk (k := 0) (i := 52) kmX12_pilgrim_0_e1 (by decide +kernel)
theorem dX12_pilgrim_55 : decode cX12_pilgrim 55 = .ok (.iconst (-1), 1) := rd_chunk (k := 0) (i := 55) kmX12_pilgrim_0_e1 (by decide +kernel)
theorem dX12_pilgrim_56 : decode cX12_pilgrim 56 = .ok (.ireturn, 1) := rd_chunk (k := 0) (i := 56) kmX12_pilgrim_0_e1 (by decide +kernel)
theorem dX12_pilgrim_57 : decode cX12_pilgrim 57 = .ok (.aload_n 0, 1) := rd_chunk (k := 0) (i := 57) kmX12_pilgrim_0_e1 (by decide +kernel)
theorem dX12_pilgrim_58 : decode cX12_pilgrim 58 = .ok (.getfield 29, 3) := rd_chunk (k := 0) (i := 58) kmX12_pilgrim_0_e1 (by decide +kernel)
theorem dX12_pilgrim_61 : decode cX12_pilgrim 61 = .ok (.aload_n 0, 1) := rd_chunk (k := 0) (i := 61) kmX12_pilgrim_0_e1 (by decide +kernel)
theorem dX12_pilgrim_62 : decode cX12_pilgrim 62 = .ok (.getfield 153, 3) := rd_chunk (k := 0) (i := 62) kmX12_pilgrim_0_e1 (by decide +kernel)
abbrev mX12_pilgrim_64_e1 : ByteArray := .mk #[0x99, 0x1b, 0x4f, 0x2a, 0xb4, 0x00, 0x20, 0x2a, 0xb4, 0x00, 0x99, 0x1c, 0x4f, 0x2a, 0xb4, 0x00, 0x23, 0x2a, 0xb4, 0x00, 0x99, 0x1d, 0x4f, 0x2a, 0xb4, 0x00, 0x26, 0x2a, 0xb4, 0x00, 0x99, 0x15, 0x04, 0x4f, 0x2a, 0xb4, 0x00, 0x29, 0x2a, 0xb4, 0x00, 0x99, 0x03, 0x4f, 0x2a, 0xb4, 0x00, 0x2c, 0x2a, 0xb4, 0x00, 0x99, 0x02, 0x4f, 0x2a, 0xb4, 0x00, 0x2f, 0x2a, 0xb4, 0x00, 0x99, 0x1b, 0x4f, 0x2a, 0xb4, 0x00, 0x32, 0x2a, 0xb4, 0x00, 0x99]
theorem kmX12_pilgrim_64_e1 : CK cX12_pilgrim 64 mX12_pilgrim_64_e1 := ck_of (by decide +kernel)
theorem dX12_pilgrim_65 : decode cX12_pilgrim 65 = .ok (.iload_n 1, 1) := rd_chunk (k := 64) (i := 1) kmX12_pilgrim_64_e1 (by decide +kernel)
theorem dX12_pilgrim_66 : decode cX12_pilgrim 66 = .ok (.iastore, 1) := rd_chunk (k := 64) (i := 2) kmX12_pilgrim_64_e1 (by decide +kernel)
theorem dX12_pilgrim_67 : decode cX12_pilgrim 67 = .ok (.aload_n 0, 1) := rd_chunk (k := 64) (i := 3) kmX12_pilgrim_64_e1 (by decide +kernel)
theorem dX12_pilgrim_68 : decode cX12_pilgrim 68 = .ok (.getfield 32, 3) := rd_chunk (k := 64) (i := 4) kmX12_pilgrim_64_e1 (by decide +kernel)
theorem dX12_pilgrim_71 : decode cX12_pilgrim 71 = .ok (.aload_n 0, 1) := rd_chunk (k := 64) (i := 7) kmX12_pilgrim_64_e1 (by decide +kernel)
theorem dX12_pilgrim_72 : decode cX12_pilgrim 72 = .ok (.getfield 153, 3) := rd_chunk (k := 64) (i := 8) kmX12_pilgrim_64_e1 (by decide +kernel)
theorem dX12_pilgrim_75 : decode cX12_pilgrim 75 = .ok (.iload_n 2, 1) := rd_chunk (k := 64) (i := 11) kmX12_pilgrim_64_e1 (by decide +kernel)
theorem dX12_pilgrim_76 : decode cX12_pilgrim 76 = .ok (.iastore, 1) := rd_chunk (k := 64) (i := 12) kmX12_pilgrim_64_e1 (by decide +kernel)
theorem dX12_pilgrim_77 : decode cX12_pilgrim 77 = .ok (.aload_n 0, 1) := rd_chunk (k := 64) (i := 13) kmX12_pilgrim_64_e1 (by decide +kernel)
theorem dX12_pilgrim_78 : decode cX12_pilgrim 78 = .ok (.getfield 35, 3) := rd_chunk (k := 64) (i := 14) kmX12_pilgrim_64_e1 (by decide +kernel)
theorem dX12_pilgrim_81 : decode cX12_pilgrim 81 = .ok (.aload_n 0, 1) := rd_chunk (k := 64) (i := 17) kmX12_pilgrim_64_e1 (by decide +kernel)
theorem dX12_pilgrim_82 : decode cX12_pilgrim 82 = .ok (.getfield 153, 3) := rd_chunk (k := 64) (i := 18) kmX12_pilgrim_64_e1 (by decide +kernel)
theorem dX12_pilgrim_85 : decode cX12_pilgrim 85 = .ok (.iload_n 3, 1) := rd_chunk (k := 64) (i := 21) kmX12_pilgrim_64_e1 (by decide +kernel)
theorem dX12_pilgrim_86 : decode cX12_pilgrim 86 = .ok (.iastore, 1) := rd_chunk (k := 64) (i := 22) kmX12_pilgrim_64_e1 (by decide +kernel)
theorem dX12_pilgrim_87 : decode cX12_pilgrim 87 = .ok (.aload_n 0, 1) := rd_chunk (k := 64) (i := 23) kmX12_pilgrim_64_e1 (by decide +kernel)
theorem dX12_pilgrim_88 : decode cX12_pilgrim 88 = .ok (.getfield 38, 3) := rd_chunk (k := 64) (i := 24) kmX12_pilgrim_64_e1 (by decide +kernel)
theorem dX12_pilgrim_91 : decode cX12_pilgrim 91 = .ok (.aload_n 0, 1) := rd_chunk (k := 64) (i := 27) kmX12_pilgrim_64_e1 (by decide +kernel)
theorem dX12_pilgrim_92 : decode cX12_pilgrim 92 = .ok (.getfield 153, 3) := rd_chunk (k := 64) (i := 28) kmX12_pilgrim_64_e1 (by decide +kernel)
theorem dX12_pilgrim_95 : decode cX12_pilgrim 95 = .ok (.iload 4, 2) := rd_chunk (k := 64) (i := 31) kmX12_pilgrim_64_e1 (by decide +kernel)
theorem dX12_pilgrim_97 : decode cX12_pilgrim 97 = .ok (.iastore, 1) := rd_chunk (k := 64) (i := 33) kmX12_pilgrim_64_e1 (by decide +kernel)
theorem dX12_pilgrim_98 : decode cX12_pilgrim 98 = .ok (.aload_n 0, 1) := rd_chunk (k := 64) (i := 34) kmX12_pilgrim_64_e1 (by decide +kernel)
theorem dX12_pilgrim_99 : decode cX12_pilgrim 99 = .ok (.getfield 41, 3) := rd_chunk (k := 64) (i := 35) kmX12_pilgrim_64_e1 (by decide +kernel)
theorem dX12_pilgrim_102 : decode cX12_pilgrim 102 = .ok (.aload_n 0, 1) := rd_chunk (k := 64) (i := 38) kmX12_pilgrim_64_e1 (by decide +kernel)
theorem dX12_pilgrim_103 : decode cX12_pilgrim 103 = .ok (.getfield 153, 3) := rd_chunk (k := 64) (i := 39) kmX12_pilgrim_64_e1 (by decide +kernel)
theorem dX12_pilgrim_106 : decode cX12_pilgrim 106 = .ok (.iconst 0, 1) := rd_chunk (k := 64) (i := 42) kmX12_pilgrim_64_e1 (by decide +kernel)
theorem dX12_pilgrim_107 : decode cX12_pilgrim 107 = .ok (.iastore, 1) := rd_chunk (k := 64) (i := 43) kmX12_pilgrim_64_e1 (by decide +kernel)
theorem dX12_pilgrim_108 : decode cX12_pilgrim 108 = .ok (.aload_n 0, 1) := rd_chunk (k := 64) (i := 44) kmX12_pilgrim_64_e1 (by decide +kernel)
theorem dX12_pilgrim_109 : decode cX12_pilgrim 109 = .ok (.getfield 44, 3) := rd_chunk (k := 64) (i := 45) kmX12_pilgrim_64_e1 (by decide +kernel)
theorem dX12_pilgrim_112 : decode cX12_pilgrim 112 = .ok (.aload_n 0, 1) := rd_chunk (k := 64) (i := 48) kmX12_pilgrim_64_e1 (by decide +kernel)
theorem dX12_pilgrim_113 : decode cX12_pilgrim 113 = .ok (.getfield 153, 3) := rd_chunk (k := 64) (i := 49) kmX12_pilgrim_64_e1 (by decide +kernel)
theorem dX12_pilgrim_116 : decode cX12_pilgrim 116 = .ok (.iconst (-1), 1) := rd_chunk (k := 64) (i := 52) kmX12_pilgrim_64_e1 (by decide +kernel)
theorem dX12_pilgrim_117 : decode cX12_pilgrim 117 = .ok (.iastore, 1) := rd_chunk (k := 64) (i := 53) kmX12_pilgrim_64_e1 (by decide +kernel)
theorem dX12_pilgrim_118 : decode cX12_pilgrim 118 = .ok (.aload_n 0, 1) := rd_chunk (k := 64) (i := 54) kmX12_pilgrim_64_e1 (by decide +kernel)
theorem dX12_pilgrim_119 : decode cX12_pilgrim 119 = .ok (.getfield 47, 3) := rd_chunk (k := 64) (i := 55) kmX12_pilgrim_64_e1 (by decide +kernel)
theorem dX12_pilgrim_122 : decode cX12_pilgrim 122 = .ok (.aload_n 0, 1) := rd_chunk (k := 64) (i := 58) kmX12_pilgrim_64_e1 (by decide +kernel)
theorem dX12_pilgrim_123 : decode cX12_pilgrim 123 = .ok (.getfield 153, 3) := rd_chunk (k := 64) (i := 59) kmX12_pilgrim_64_e1 (by decide +kernel)
theorem dX12_pilgrim_126 : decode cX12_pilgrim 126 = .ok (.iload_n 1, 1) := rd_chunk (k := 64) (i := 62) kmX12_pilgrim_64_e1 (by decide +kernel)
theorem dX12_pilgrim_127 : decode cX12_pilgrim 127 = .ok (.iastore, 1) := rd_chunk (k := 64) (i := 63) kmX12_pilgrim_64_e1 (by decide +kernel)
abbrev mX12_pilgrim_128_e1 : ByteArray := .mk #[0x2a, 0xb4, 0x00, 0x32, 0x2a, 0xb4, 0x00, 0x99, 0x1c, 0x4f, 0x2a, 0x59, 0xb4, 0x00, 0x99, 0x04, 0x60, 0xb5, 0x00, 0x99, 0x2a, 0xb4, 0x00, 0x99, 0x04, 0x64, 0xac]
theorem kmX12_pilgrim_128_e1 : CK cX12_pilgrim 128 mX12_pilgrim_128_e1 := ck_of (by decide +kernel)
theorem dX12_pilgrim_128 : decode cX12_pilgrim 128 = .ok (.aload_n 0, 1) := rd_chunk (k := 128) (i := 0) kmX12_pilgrim_128_e1 (by decide +kernel)
theorem dX12_pilgrim_129 : decode cX12_pilgrim 129 = .ok (.getfield 50, 3) := rd_chunk (k := 128) (i := 1) kmX12_pilgrim_128_e1 (by decide +kernel)
theorem dX12_pilgrim_132 : decode cX12_pilgrim 132 = .ok (.aload_n 0, 1) := rd_chunk (k := 128) (i := 4) kmX12_pilgrim_128_e1 (by decide +kernel)
theorem dX12_pilgrim_133 : decode cX12_pilgrim 133 = .ok (.getfield 153, 3) := rd_chunk (k := 128) (i := 5) kmX12_pilgrim_128_e1 (by decide +kernel)
theorem dX12_pilgrim_136 : decode cX12_pilgrim 136 = .ok (.iload_n 2, 1) := rd_chunk (k := 128) (i := 8) kmX12_pilgrim_128_e1 (by decide +kernel)
theorem dX12_pilgrim_137 : decode cX12_pilgrim 137 = .ok (.iastore, 1) := rd_chunk (k := 128) (i := 9) kmX12_pilgrim_128_e1 (by decide +kernel)
theorem dX12_pilgrim_138 : decode cX12_pilgrim 138 = .ok (.aload_n 0, 1) := rd_chunk (k := 128) (i := 10) kmX12_pilgrim_128_e1 (by decide +kernel)
theorem dX12_pilgrim_139 : decode cX12_pilgrim 139 = .ok (.dup, 1) := rd_chunk (k := 128) (i := 11) kmX12_pilgrim_128_e1 (by decide +kernel)
theorem dX12_pilgrim_140 : decode cX12_pilgrim 140 = .ok (.getfield 153, 3) := rd_chunk (k := 128) (i := 12) kmX12_pilgrim_128_e1 (by decide +kernel)
theorem dX12_pilgrim_143 : decode cX12_pilgrim 143 = .ok (.iconst 1, 1) := rd_chunk (k := 128) (i := 15) kmX12_pilgrim_128_e1 (by decide +kernel)
theorem dX12_pilgrim_144 : decode cX12_pilgrim 144 = .ok (.iadd, 1) := rd_chunk (k := 128) (i := 16) kmX12_pilgrim_128_e1 (by decide +kernel)
theorem dX12_pilgrim_145 : decode cX12_pilgrim 145 = .ok (.putfield 153, 3) := rd_chunk (k := 128) (i := 17) kmX12_pilgrim_128_e1 (by decide +kernel)
theorem dX12_pilgrim_148 : decode cX12_pilgrim 148 = .ok (.aload_n 0, 1) := rd_chunk (k := 128) (i := 20) kmX12_pilgrim_128_e1 (by decide +kernel)
theorem dX12_pilgrim_149 : decode cX12_pilgrim 149 = .ok (.getfield 153, 3) := rd_chunk (k := 128) (i := 21) kmX12_pilgrim_128_e1 (by decide +kernel)
theorem dX12_pilgrim_152 : decode cX12_pilgrim 152 = .ok (.iconst 1, 1) := rd_chunk (k := 128) (i := 24) kmX12_pilgrim_128_e1 (by decide +kernel)
theorem dX12_pilgrim_153 : decode cX12_pilgrim 153 = .ok (.isub, 1) := rd_chunk (k := 128) (i := 25) kmX12_pilgrim_128_e1 (by decide +kernel)
theorem dX12_pilgrim_154 : decode cX12_pilgrim 154 = .ok (.ireturn, 1) := rd_chunk (k := 128) (i := 26) kmX12_pilgrim_128_e1 (by decide +kernel)
theorem dX12_vow_0 : decode cX12_vow 0 = .ok (.aload_n 0, 1) := by decide +kernel
theorem dX12_vow_1 : decode cX12_vow 1 = .ok (.iconst 0, 1) := by decide +kernel
theorem dX12_vow_2 : decode cX12_vow 2 = .ok (.putfield 140, 3) := by decide +kernel
theorem dX12_vow_5 : decode cX12_vow 5 = .ok (.aload_n 0, 1) := by decide +kernel
theorem dX12_vow_6 : decode cX12_vow 6 = .ok (.iload_n 1, 1) := by decide +kernel
theorem dX12_vow_7 : decode cX12_vow 7 = .ok (.invokevirtual 263, 3) := by decide +kernel
theorem dX12_vow_10 : decode cX12_vow 10 = .ok (.ifCond .eq 14, 3) := by decide +kernel
theorem dX12_vow_13 : decode cX12_vow 13 = .ok (.iload_n 2, 1) := by decide +kernel
theorem dX12_vow_14 : decode cX12_vow 14 = .ok (.iconst 0, 1) := by decide +kernel
theorem dX12_vow_15 : decode cX12_vow 15 = .ok (.sipush 255, 3) := by decide +kernel
theorem dX12_vow_18 : decode cX12_vow 18 = .ok (.invokestatic 149, 3) := by decide +kernel
theorem dX12_vow_21 : decode cX12_vow 21 = .ok (.ifCond .ne 5, 3) := by decide +kernel
theorem dX12_vow_24 : decode cX12_vow 24 = .ok (.iconst (-1), 1) := by decide +kernel
theorem dX12_vow_25 : decode cX12_vow 25 = .ok (.ireturn, 1) := by decide +kernel
theorem dX12_vow_26 : decode cX12_vow 26 = .ok (.aload_n 0, 1) := by decide +kernel
theorem dX12_vow_27 : decode cX12_vow 27 = .ok (.getfield 41, 3) := by decide +kernel
theorem dX12_vow_30 : decode cX12_vow 30 = .ok (.iload_n 1, 1) := by decide +kernel
theorem dX12_vow_31 : decode cX12_vow 31 = .ok (.iaload, 1) := by decide +kernel
theorem dX12_vow_32 : decode cX12_vow 32 = .ok (.istore_n 3, 1) := by decide +kernel
theorem dX12_vow_33 : decode cX12_vow 33 = .ok (.aload_n 0, 1) := by decide +kernel
theorem dX12_vow_34 : decode cX12_vow 34 = .ok (.getfield 41, 3) := by decide +kernel
theorem dX12_vow_37 : decode cX12_vow 37 = .ok (.iload_n 1, 1) := by decide +kernel
theorem dX12_vow_38 : decode cX12_vow 38 = .ok (.iload_n 2, 1) := by decide +kernel
theorem dX12_vow_39 : decode cX12_vow 39 = .ok (.iastore, 1) := by decide +kernel
theorem dX12_vow_40 : decode cX12_vow 40 = .ok (.iload_n 3, 1) := by decide +kernel
theorem dX12_vow_41 : decode cX12_vow 41 = .ok (.ireturn, 1) := by decide +kernel
abbrev mX12_of_0_e1 : ByteArray := .mk #[0x2a, 0x03, 0xb5, 0x00, 0x8c, 0x2a, 0x1b, 0xb6, 0x01, 0x07, 0x99, 0x00, 0x0d, 0x1c, 0x03, 0x10, 0x07, 0xb8, 0x00, 0x95, 0x9a, 0x00, 0x08, 0x2a, 0xb6, 0x00, 0xfd, 0xac, 0x1c, 0xaa, 0x00, 0x00, 0x00, 0x00, 0x00, 0x5c, 0x00, 0x00, 0x00, 0x00, 0x00, 0x00, 0x00, 0x06, 0x00, 0x00, 0x00, 0x2b, 0x00, 0x00, 0x00, 0x32, 0x00, 0x00, 0x00, 0x39, 0x00, 0x00, 0x00, 0x40, 0x00, 0x00, 0x00, 0x47, 0x00, 0x00, 0x00, 0x4e, 0x00, 0x00, 0x00, 0x55]
theorem kmX12_of_0_e1 : CK cX12_of 0 mX12_of_0_e1 := ck_of (by decide +kernel)
theorem dX12_of_0 : decode cX12_of 0 = .ok (.aload_n 0, 1) := rd_chunk (k := 0) (i := 0) kmX12_of_0_e1 (by decide +kernel)
theorem dX12_of_1 : decode cX12_of 1 = .ok (.iconst 0, 1) := rd_chunk (k := 0) (i := 1) kmX12_of_0_e1 (by decide +kernel)
theorem dX12_of_2 : decode cX12_of 2 = .ok (.putfield 140, 3) := rd_chunk (k := 0) (i := 2) kmX12_of_0_e1 (by decide +kernel)
theorem dX12_of_5 : decode cX12_of 5 = .ok (.aload_n 0, 1) := rd_chunk (k := 0) (i := 5) kmX12_of_0_e1 (by decide +kernel)
theorem dX12_of_6 : decode cX12_of 6 = .ok (.iload_n 1, 1) := rd_chunk (k := 0) (i := 6) kmX12_of_0_e1 (by decide +kernel)
theorem dX12_of_7 : decode cX12_of 7 = .ok (.invokevirtual 263, 3) := rd_chunk (k := 0) (i := 7) kmX12_of_0_e1 (by decide +kernel)
theorem dX12_of_10 : decode cX12_of 10 = .ok (.ifCond .eq 13, 3) := rd_chunk (k := 0) (i := 10) kmX12_of_0_e1 (by decide +kernel)
theorem dX12_of_13 : decode cX12_of 13 = .ok (.iload_n 2, 1) := rd_chunk (k := 0) (i := 13) kmX12_of_0_e1 (by decide +kernel)
theorem dX12_of_14 : decode cX12_of 14 = .ok (.iconst 0, 1) := rd_chunk (k := 0) (i := 14) kmX12_of_0_e1 (by decide +kernel)
theorem dX12_of_15 : decode cX12_of 15 = .ok (.bipush 7, 2) := rd_chunk (k := 0) (i := 15) kmX12_of_0_e1 (by decide +kernel)
theorem dX12_of_17 : decode cX12_of 17 = .ok (.invokestatic 149, 3) := rd_chunk (k := 0) (i := 17) kmX12_of_0_e1 (by decide +kernel)
theorem dX12_of_20 : decode cX12_of 20 = .ok (.ifCond .ne 8, 3) := rd_chunk (k := 0) (i := 20) kmX12_of_0_e1 (by decide +kernel)
theorem dX12_of_23 : decode cX12_of 23 = .ok (.aload_n 0, 1) := rd_chunk (k := 0) (i := 23) kmX12_of_0_e1 (by decide +kernel)
theorem dX12_of_24 : decode cX12_of 24 = .ok (.invokevirtual 253, 3) := rd_chunk (k := 0) (i := 24) kmX12_of_0_e1 (by decide +kernel)
theorem dX12_of_27 : decode cX12_of 27 = .ok (.ireturn, 1) := rd_chunk (k := 0) (i := 27) kmX12_of_0_e1 (by decide +kernel)
theorem dX12_of_28 : decode cX12_of 28 = .ok (.iload_n 2, 1) := rd_chunk (k := 0) (i := 28) kmX12_of_0_e1 (by decide +kernel)
theorem dX12_of_29 : decode cX12_of 29 = .ok (.tableswitch 92 0 6 #[43, 50, 57, 64, 71, 78, 85], 43) := by decide +kernel
abbrev mX12_of_64_e1 : ByteArray := .mk #[0x00, 0x00, 0x00, 0x4e, 0x00, 0x00, 0x00, 0x55, 0x2a, 0xb4, 0x00, 0x2c, 0x1b, 0x2e, 0xac, 0x2a, 0xb4, 0x00, 0x2f, 0x1b, 0x2e, 0xac, 0x2a, 0xb4, 0x00, 0x32, 0x1b, 0x2e, 0xac, 0x2a, 0xb4, 0x00, 0x23, 0x1b, 0x2e, 0xac, 0x2a, 0xb4, 0x00, 0x26, 0x1b, 0x2e, 0xac, 0x2a, 0xb4, 0x00, 0x29, 0x1b, 0x2e, 0xac, 0x2a, 0xb4, 0x00, 0x1d, 0x1b, 0x2e, 0xac, 0x2a, 0xb4, 0x00, 0x20, 0x1b, 0x2e, 0xac]
theorem kmX12_of_64_e1 : CK cX12_of 64 mX12_of_64_e1 := ck_of (by decide +kernel)
theorem dX12_of_72 : decode cX12_of 72 = .ok (.aload_n 0, 1) := rd_chunk (k := 64) (i := 8) kmX12_of_64_e1 (by decide +kernel)
theorem dX12_of_73 : decode cX12_of 73 = .ok (.getfield 44, 3) := rd_chunk (k := 64) (i := 9) kmX12_of_64_e1 (by decide +kernel)
theorem dX12_of_76 : decode cX12_of 76 = .ok (.iload_n 1, 1) := rd_chunk (k := 64) (i := 12) kmX12_of_64_e1 (by decide +kernel)
theorem dX12_of_77 : decode cX12_of 77 = .ok (.iaload, 1) := rd_chunk (k := 64) (i := 13) kmX12_of_64_e1 (by decide +kernel)
theorem dX12_of_78 : decode cX12_of 78 = .ok (.ireturn, 1) := rd_chunk (k := 64) (i := 14) kmX12_of_64_e1 (by decide +kernel)
theorem dX12_of_79 : decode cX12_of 79 = .ok (.aload_n 0, 1) := rd_chunk (k := 64) (i := 15) kmX12_of_64_e1 (by decide +kernel)
theorem dX12_of_80 : decode cX12_of 80 = .ok (.getfield 47, 3) := rd_chunk (k := 64) (i := 16) kmX12_of_64_e1 (by decide +kernel)
theorem dX12_of_83 : decode cX12_of 83 = .ok (.iload_n 1, 1) := rd_chunk (k := 64) (i := 19) kmX12_of_64_e1 (by decide +kernel)
theorem dX12_of_84 : decode cX12_of 84 = .ok (.iaload, 1) := rd_chunk (k := 64) (i := 20) kmX12_of_64_e1 (by decide +kernel)
theorem dX12_of_85 : decode cX12_of 85 = .ok (.ireturn, 1) := rd_chunk (k := 64) (i := 21) kmX12_of_64_e1 (by decide +kernel)
theorem dX12_of_86 : decode cX12_of 86 = .ok (.aload_n 0, 1) := rd_chunk (k := 64) (i := 22) kmX12_of_64_e1 (by decide +kernel)
theorem dX12_of_87 : decode cX12_of 87 = .ok (.getfield 50, 3) := rd_chunk (k := 64) (i := 23) kmX12_of_64_e1 (by decide +kernel)
theorem dX12_of_90 : decode cX12_of 90 = .ok (.iload_n 1, 1) := rd_chunk (k := 64) (i := 26) kmX12_of_64_e1 (by decide +kernel)
theorem dX12_of_91 : decode cX12_of 91 = .ok (.iaload, 1) := rd_chunk (k := 64) (i := 27) kmX12_of_64_e1 (by decide +kernel)
theorem dX12_of_92 : decode cX12_of 92 = .ok (.ireturn, 1) := rd_chunk (k := 64) (i := 28) kmX12_of_64_e1 (by decide +kernel)
theorem dX12_of_93 : decode cX12_of 93 = .ok (.aload_n 0, 1) := rd_chunk (k := 64) (i := 29) kmX12_of_64_e1 (by decide +kernel)
theorem dX12_of_94 : decode cX12_of 94 = .ok (.getfield 35, 3) := rd_chunk (k := 64) (i := 30) kmX12_of_64_e1 (by decide +kernel)
theorem dX12_of_97 : decode cX12_of 97 = .ok (.iload_n 1, 1) := rd_chunk (k := 64) (i := 33) kmX12_of_64_e1 (by decide +kernel)
theorem dX12_of_98 : decode cX12_of 98 = .ok (.iaload, 1) := rd_chunk (k := 64) (i := 34) kmX12_of_64_e1 (by decide +kernel)
theorem dX12_of_99 : decode cX12_of 99 = .ok (.ireturn, 1) := rd_chunk (k := 64) (i := 35) kmX12_of_64_e1 (by decide +kernel)
theorem dX12_of_100 : decode cX12_of 100 = .ok (.aload_n 0, 1) := rd_chunk (k := 64) (i := 36) kmX12_of_64_e1 (by decide +kernel)
theorem dX12_of_101 : decode cX12_of 101 = .ok (.getfield 38, 3) := rd_chunk (k := 64) (i := 37) kmX12_of_64_e1 (by decide +kernel)
theorem dX12_of_104 : decode cX12_of 104 = .ok (.iload_n 1, 1) := rd_chunk (k := 64) (i := 40) kmX12_of_64_e1 (by decide +kernel)
theorem dX12_of_105 : decode cX12_of 105 = .ok (.iaload, 1) := rd_chunk (k := 64) (i := 41) kmX12_of_64_e1 (by decide +kernel)
theorem dX12_of_106 : decode cX12_of 106 = .ok (.ireturn, 1) := rd_chunk (k := 64) (i := 42) kmX12_of_64_e1 (by decide +kernel)
theorem dX12_of_107 : decode cX12_of 107 = .ok (.aload_n 0, 1) := rd_chunk (k := 64) (i := 43) kmX12_of_64_e1 (by decide +kernel)
theorem dX12_of_108 : decode cX12_of 108 = .ok (.getfield 41, 3) := rd_chunk (k := 64) (i := 44) kmX12_of_64_e1 (by decide +kernel)
theorem dX12_of_111 : decode cX12_of 111 = .ok (.iload_n 1, 1) := rd_chunk (k := 64) (i := 47) kmX12_of_64_e1 (by decide +kernel)
theorem dX12_of_112 : decode cX12_of 112 = .ok (.iaload, 1) := rd_chunk (k := 64) (i := 48) kmX12_of_64_e1 (by decide +kernel)
theorem dX12_of_113 : decode cX12_of 113 = .ok (.ireturn, 1) := rd_chunk (k := 64) (i := 49) kmX12_of_64_e1 (by decide +kernel)
theorem dX12_of_114 : decode cX12_of 114 = .ok (.aload_n 0, 1) := rd_chunk (k := 64) (i := 50) kmX12_of_64_e1 (by decide +kernel)
theorem dX12_of_115 : decode cX12_of 115 = .ok (.getfield 29, 3) := rd_chunk (k := 64) (i := 51) kmX12_of_64_e1 (by decide +kernel)
theorem dX12_of_118 : decode cX12_of 118 = .ok (.iload_n 1, 1) := rd_chunk (k := 64) (i := 54) kmX12_of_64_e1 (by decide +kernel)
theorem dX12_of_119 : decode cX12_of 119 = .ok (.iaload, 1) := rd_chunk (k := 64) (i := 55) kmX12_of_64_e1 (by decide +kernel)
theorem dX12_of_120 : decode cX12_of 120 = .ok (.ireturn, 1) := rd_chunk (k := 64) (i := 56) kmX12_of_64_e1 (by decide +kernel)
theorem dX12_of_121 : decode cX12_of 121 = .ok (.aload_n 0, 1) := rd_chunk (k := 64) (i := 57) kmX12_of_64_e1 (by decide +kernel)
theorem dX12_of_122 : decode cX12_of 122 = .ok (.getfield 32, 3) := rd_chunk (k := 64) (i := 58) kmX12_of_64_e1 (by decide +kernel)
theorem dX12_of_125 : decode cX12_of 125 = .ok (.iload_n 1, 1) := rd_chunk (k := 64) (i := 61) kmX12_of_64_e1 (by decide +kernel)
theorem dX12_of_126 : decode cX12_of 126 = .ok (.iaload, 1) := rd_chunk (k := 64) (i := 62) kmX12_of_64_e1 (by decide +kernel)
theorem dX12_of_127 : decode cX12_of 127 = .ok (.ireturn, 1) := rd_chunk (k := 64) (i := 63) kmX12_of_64_e1 (by decide +kernel)
theorem dX12_isMove_0 : decode cX12_isMove 0 = .ok (.iload_n 3, 1) := by decide +kernel
theorem dX12_isMove_1 : decode cX12_isMove 1 = .ok (.iload_n 2, 1) := by decide +kernel
theorem dX12_isMove_2 : decode cX12_isMove 2 = .ok (.isub, 1) := by decide +kernel
theorem dX12_isMove_3 : decode cX12_isMove 3 = .ok (.iconst 1, 1) := by decide +kernel
theorem dX12_isMove_4 : decode cX12_isMove 4 = .ok (.aload_n 0, 1) := by decide +kernel
theorem dX12_isMove_5 : decode cX12_isMove 5 = .ok (.getfield 35, 3) := by decide +kernel
theorem dX12_isMove_8 : decode cX12_isMove 8 = .ok (.iload_n 1, 1) := by decide +kernel
theorem dX12_isMove_9 : decode cX12_isMove 9 = .ok (.iaload, 1) := by decide +kernel
theorem dX12_isMove_10 : decode cX12_isMove 10 = .ok (.invokestatic 149, 3) := by decide +kernel
theorem dX12_isMove_13 : decode cX12_isMove 13 = .ok (.ireturn, 1) := by decide +kernel
theorem dX12_effortOf_0 : decode cX12_effortOf 0 = .ok (.iconst 0, 1) := by decide +kernel
theorem dX12_effortOf_1 : decode cX12_effortOf 1 = .ok (.istore 4, 2) := by decide +kernel
theorem dX12_effortOf_3 : decode cX12_effortOf 3 = .ok (.iload_n 2, 1) := by decide +kernel
theorem dX12_effortOf_4 : decode cX12_effortOf 4 = .ok (.iconst 1, 1) := by decide +kernel
theorem dX12_effortOf_5 : decode cX12_effortOf 5 = .ok (.iadd, 1) := by decide +kernel
theorem dX12_effortOf_6 : decode cX12_effortOf 6 = .ok (.istore 5, 2) := by decide +kernel
theorem dX12_effortOf_8 : decode cX12_effortOf 8 = .ok (.iload 5, 2) := by decide +kernel
theorem dX12_effortOf_10 : decode cX12_effortOf 10 = .ok (.iload_n 3, 1) := by decide +kernel
theorem dX12_effortOf_11 : decode cX12_effortOf 11 = .ok (.if_icmp .gt 21, 3) := by decide +kernel
theorem dX12_effortOf_14 : decode cX12_effortOf 14 = .ok (.iload 4, 2) := by decide +kernel
theorem dX12_effortOf_16 : decode cX12_effortOf 16 = .ok (.aload_n 0, 1) := by decide +kernel
theorem dX12_effortOf_17 : decode cX12_effortOf 17 = .ok (.getfield 9, 3) := by decide +kernel
theorem dX12_effortOf_20 : decode cX12_effortOf 20 = .ok (.iload 5, 2) := by decide +kernel
theorem dX12_effortOf_22 : decode cX12_effortOf 22 = .ok (.iaload, 1) := by decide +kernel
theorem dX12_effortOf_23 : decode cX12_effortOf 23 = .ok (.iadd, 1) := by decide +kernel
theorem dX12_effortOf_24 : decode cX12_effortOf 24 = .ok (.istore 4, 2) := by decide +kernel
theorem dX12_effortOf_26 : decode cX12_effortOf 26 = .ok (.iinc 5 1, 3) := by decide +kernel
theorem dX12_effortOf_29 : decode cX12_effortOf 29 = .ok (.goto (-21), 3) := by decide +kernel
theorem dX12_effortOf_32 : decode cX12_effortOf 32 = .ok (.iload 4, 2) := by decide +kernel
theorem dX12_effortOf_34 : decode cX12_effortOf 34 = .ok (.bipush 10, 2) := by decide +kernel
theorem dX12_effortOf_36 : decode cX12_effortOf 36 = .ok (.aload_n 0, 1) := by decide +kernel
theorem dX12_effortOf_37 : decode cX12_effortOf 37 = .ok (.getfield 38, 3) := by decide +kernel
theorem dX12_effortOf_40 : decode cX12_effortOf 40 = .ok (.iload_n 1, 1) := by decide +kernel
theorem dX12_effortOf_41 : decode cX12_effortOf 41 = .ok (.iaload, 1) := by decide +kernel
theorem dX12_effortOf_42 : decode cX12_effortOf 42 = .ok (.iadd, 1) := by decide +kernel
theorem dX12_effortOf_43 : decode cX12_effortOf 43 = .ok (.imul, 1) := by decide +kernel
theorem dX12_effortOf_44 : decode cX12_effortOf 44 = .ok (.bipush 10, 2) := by decide +kernel
theorem dX12_effortOf_46 : decode cX12_effortOf 46 = .ok (.idiv, 1) := by decide +kernel
theorem dX12_effortOf_47 : decode cX12_effortOf 47 = .ok (.bipush 9, 2) := by decide +kernel
theorem dX12_effortOf_49 : decode cX12_effortOf 49 = .ok (.iadd, 1) := by decide +kernel
theorem dX12_effortOf_50 : decode cX12_effortOf 50 = .ok (.aload_n 0, 1) := by decide +kernel
theorem dX12_effortOf_51 : decode cX12_effortOf 51 = .ok (.getfield 13, 3) := by decide +kernel
theorem dX12_effortOf_54 : decode cX12_effortOf 54 = .ok (.iload_n 3, 1) := by decide +kernel
theorem dX12_effortOf_55 : decode cX12_effortOf 55 = .ok (.iaload, 1) := by decide +kernel
theorem dX12_effortOf_56 : decode cX12_effortOf 56 = .ok (.isub, 1) := by decide +kernel
theorem dX12_effortOf_57 : decode cX12_effortOf 57 = .ok (.iconst 5, 1) := by decide +kernel
theorem dX12_effortOf_58 : decode cX12_effortOf 58 = .ok (.iload_n 3, 1) := by decide +kernel
theorem dX12_effortOf_59 : decode cX12_effortOf 59 = .ok (.iload_n 2, 1) := by decide +kernel
theorem dX12_effortOf_60 : decode cX12_effortOf 60 = .ok (.isub, 1) := by decide +kernel
theorem dX12_effortOf_61 : decode cX12_effortOf 61 = .ok (.iconst 1, 1) := by decide +kernel
theorem dX12_effortOf_62 : decode cX12_effortOf 62 = .ok (.isub, 1) := by decide +kernel
theorem dX12_effortOf_63 : decode cX12_effortOf 63 = .ok (.imul, 1) := by decide +kernel
theorem dX12_effortOf_64 : decode cX12_effortOf 64 = .ok (.iadd, 1) := by decide +kernel
theorem dX12_effortOf_65 : decode cX12_effortOf 65 = .ok (.ireturn, 1) := by decide +kernel
theorem dX12_costOf_0 : decode cX12_costOf 0 = .ok (.iload_n 3, 1) := by decide +kernel
theorem dX12_costOf_1 : decode cX12_costOf 1 = .ok (.iload_n 2, 1) := by decide +kernel
theorem dX12_costOf_2 : decode cX12_costOf 2 = .ok (.isub, 1) := by decide +kernel
theorem dX12_costOf_3 : decode cX12_costOf 3 = .ok (.iconst 1, 1) := by decide +kernel
theorem dX12_costOf_4 : decode cX12_costOf 4 = .ok (.isub, 1) := by decide +kernel
theorem dX12_costOf_5 : decode cX12_costOf 5 = .ok (.istore 4, 2) := by decide +kernel
theorem dX12_costOf_7 : decode cX12_costOf 7 = .ok (.aload_n 0, 1) := by decide +kernel
theorem dX12_costOf_8 : decode cX12_costOf 8 = .ok (.iconst 0, 1) := by decide +kernel
theorem dX12_costOf_9 : decode cX12_costOf 9 = .ok (.iload_n 3, 1) := by decide +kernel
theorem dX12_costOf_10 : decode cX12_costOf 10 = .ok (.iload_n 2, 1) := by decide +kernel
theorem dX12_costOf_11 : decode cX12_costOf 11 = .ok (.aload_n 0, 1) := by decide +kernel
theorem dX12_costOf_12 : decode cX12_costOf 12 = .ok (.getfield 38, 3) := by decide +kernel
theorem dX12_costOf_15 : decode cX12_costOf 15 = .ok (.iload_n 1, 1) := by decide +kernel
theorem dX12_costOf_16 : decode cX12_costOf 16 = .ok (.iaload, 1) := by decide +kernel
theorem dX12_costOf_17 : decode cX12_costOf 17 = .ok (.iload 4, 2) := by decide +kernel
theorem dX12_costOf_19 : decode cX12_costOf 19 = .ok (.invokevirtual 266, 3) := by decide +kernel
theorem dX12_costOf_22 : decode cX12_costOf 22 = .ok (.istore 5, 2) := by decide +kernel
theorem dX12_costOf_24 : decode cX12_costOf 24 = .ok (.iload_n 2, 1) := by decide +kernel
theorem dX12_costOf_25 : decode cX12_costOf 25 = .ok (.iconst 1, 1) := by decide +kernel
theorem dX12_costOf_26 : decode cX12_costOf 26 = .ok (.iadd, 1) := by decide +kernel
theorem dX12_costOf_27 : decode cX12_costOf 27 = .ok (.istore 6, 2) := by decide +kernel
theorem dX12_costOf_29 : decode cX12_costOf 29 = .ok (.iload 6, 2) := by decide +kernel
theorem dX12_costOf_31 : decode cX12_costOf 31 = .ok (.iload_n 3, 1) := by decide +kernel
theorem dX12_costOf_32 : decode cX12_costOf 32 = .ok (.if_icmp .ge 30, 3) := by decide +kernel
theorem dX12_costOf_35 : decode cX12_costOf 35 = .ok (.iload 5, 2) := by decide +kernel
theorem dX12_costOf_37 : decode cX12_costOf 37 = .ok (.aload_n 0, 1) := by decide +kernel
theorem dX12_costOf_38 : decode cX12_costOf 38 = .ok (.iconst 1, 1) := by decide +kernel
theorem dX12_costOf_39 : decode cX12_costOf 39 = .ok (.iload 6, 2) := by decide +kernel
theorem dX12_costOf_41 : decode cX12_costOf 41 = .ok (.iload_n 2, 1) := by decide +kernel
theorem dX12_costOf_42 : decode cX12_costOf 42 = .ok (.aload_n 0, 1) := by decide +kernel
theorem dX12_costOf_43 : decode cX12_costOf 43 = .ok (.getfield 38, 3) := by decide +kernel
theorem dX12_costOf_46 : decode cX12_costOf 46 = .ok (.iload_n 1, 1) := by decide +kernel
theorem dX12_costOf_47 : decode cX12_costOf 47 = .ok (.iaload, 1) := by decide +kernel
theorem dX12_costOf_48 : decode cX12_costOf 48 = .ok (.iload 4, 2) := by decide +kernel
theorem dX12_costOf_50 : decode cX12_costOf 50 = .ok (.invokevirtual 266, 3) := by decide +kernel
theorem dX12_costOf_53 : decode cX12_costOf 53 = .ok (.iadd, 1) := by decide +kernel
theorem dX12_costOf_54 : decode cX12_costOf 54 = .ok (.istore 5, 2) := by decide +kernel
theorem dX12_costOf_56 : decode cX12_costOf 56 = .ok (.iinc 6 1, 3) := by decide +kernel
theorem dX12_costOf_59 : decode cX12_costOf 59 = .ok (.goto (-30), 3) := by decide +kernel
theorem dX12_costOf_62 : decode cX12_costOf 62 = .ok (.iload 5, 2) := by decide +kernel
theorem dX12_costOf_64 : decode cX12_costOf 64 = .ok (.ireturn, 1) := by decide +kernel
theorem dX12_costs_0 : decode cX12_costs 0 = .ok (.aload_n 0, 1) := by decide +kernel
theorem dX12_costs_1 : decode cX12_costs 1 = .ok (.iconst 0, 1) := by decide +kernel
theorem dX12_costs_2 : decode cX12_costs 2 = .ok (.putfield 140, 3) := by decide +kernel
theorem dX12_costs_5 : decode cX12_costs 5 = .ok (.aload_n 0, 1) := by decide +kernel
theorem dX12_costs_6 : decode cX12_costs 6 = .ok (.iload_n 1, 1) := by decide +kernel
theorem dX12_costs_7 : decode cX12_costs 7 = .ok (.invokevirtual 263, 3) := by decide +kernel
theorem dX12_costs_10 : decode cX12_costs 10 = .ok (.ifCond .eq 11, 3) := by decide +kernel
theorem dX12_costs_13 : decode cX12_costs 13 = .ok (.aload_n 0, 1) := by decide +kernel
theorem dX12_costs_14 : decode cX12_costs 14 = .ok (.iload_n 2, 1) := by decide +kernel
theorem dX12_costs_15 : decode cX12_costs 15 = .ok (.invokevirtual 249, 3) := by decide +kernel
theorem dX12_costs_18 : decode cX12_costs 18 = .ok (.ifCond .ne 5, 3) := by decide +kernel
theorem dX12_costs_21 : decode cX12_costs 21 = .ok (.iconst (-1), 1) := by decide +kernel
theorem dX12_costs_22 : decode cX12_costs 22 = .ok (.ireturn, 1) := by decide +kernel
theorem dX12_costs_23 : decode cX12_costs 23 = .ok (.aload_n 0, 1) := by decide +kernel
theorem dX12_costs_24 : decode cX12_costs 24 = .ok (.iload_n 1, 1) := by decide +kernel
theorem dX12_costs_25 : decode cX12_costs 25 = .ok (.aload_n 0, 1) := by decide +kernel
theorem dX12_costs_26 : decode cX12_costs 26 = .ok (.getfield 44, 3) := by decide +kernel
theorem dX12_costs_29 : decode cX12_costs 29 = .ok (.iload_n 1, 1) := by decide +kernel
theorem dX12_costs_30 : decode cX12_costs 30 = .ok (.iaload, 1) := by decide +kernel
theorem dX12_costs_31 : decode cX12_costs 31 = .ok (.iload_n 2, 1) := by decide +kernel
theorem dX12_costs_32 : decode cX12_costs 32 = .ok (.invokevirtual 270, 3) := by decide +kernel
theorem dX12_costs_35 : decode cX12_costs 35 = .ok (.ifCond .ne 6, 3) := by decide +kernel
theorem dX12_costs_38 : decode cX12_costs 38 = .ok (.bipush (-2), 2) := by decide +kernel
theorem dX12_costs_40 : decode cX12_costs 40 = .ok (.ireturn, 1) := by decide +kernel
theorem dX12_costs_41 : decode cX12_costs 41 = .ok (.aload_n 0, 1) := by decide +kernel
theorem dX12_costs_42 : decode cX12_costs 42 = .ok (.iconst 0, 1) := by decide +kernel
theorem dX12_costs_43 : decode cX12_costs 43 = .ok (.putfield 143, 3) := by decide +kernel
theorem dX12_costs_46 : decode cX12_costs 46 = .ok (.aload_n 0, 1) := by decide +kernel
theorem dX12_costs_47 : decode cX12_costs 47 = .ok (.aload_n 0, 1) := by decide +kernel
theorem dX12_costs_48 : decode cX12_costs 48 = .ok (.iload_n 1, 1) := by decide +kernel
theorem dX12_costs_49 : decode cX12_costs 49 = .ok (.aload_n 0, 1) := by decide +kernel
theorem dX12_costs_50 : decode cX12_costs 50 = .ok (.getfield 44, 3) := by decide +kernel
theorem dX12_costs_53 : decode cX12_costs 53 = .ok (.iload_n 1, 1) := by decide +kernel
theorem dX12_costs_54 : decode cX12_costs 54 = .ok (.iaload, 1) := by decide +kernel
theorem dX12_costs_55 : decode cX12_costs 55 = .ok (.iload_n 2, 1) := by decide +kernel
theorem dX12_costs_56 : decode cX12_costs 56 = .ok (.invokevirtual 273, 3) := by decide +kernel
theorem dX12_costs_59 : decode cX12_costs 59 = .ok (.i2l, 1) := by decide +kernel
theorem dX12_costs_60 : decode cX12_costs 60 = .ok (.invokevirtual 276, 3) := by decide +kernel
theorem dX12_costs_63 : decode cX12_costs 63 = .ok (.aload_n 0, 1) := by decide +kernel
theorem dX12_costs_64 : decode cX12_costs 64 = .ok (.iload_n 2, 1) := by decide +kernel
theorem dX12_costs_65 : decode cX12_costs 65 = .ok (.aload_n 0, 1) := by decide +kernel
theorem dX12_costs_66 : decode cX12_costs 66 = .ok (.getfield 44, 3) := by decide +kernel
theorem dX12_costs_69 : decode cX12_costs 69 = .ok (.iload_n 1, 1) := by decide +kernel
theorem dX12_costs_70 : decode cX12_costs 70 = .ok (.iaload, 1) := by decide +kernel
theorem dX12_costs_71 : decode cX12_costs 71 = .ok (.isub, 1) := by decide +kernel
theorem dX12_costs_72 : decode cX12_costs 72 = .ok (.iconst 1, 1) := by decide +kernel
theorem dX12_costs_73 : decode cX12_costs 73 = .ok (.isub, 1) := by decide +kernel
theorem dX12_costs_74 : decode cX12_costs 74 = .ok (.i2l, 1) := by decide +kernel
theorem dX12_costs_75 : decode cX12_costs 75 = .ok (.invokevirtual 276, 3) := by decide +kernel
theorem dX12_costs_78 : decode cX12_costs 78 = .ok (.aload_n 0, 1) := by decide +kernel
theorem dX12_costs_79 : decode cX12_costs 79 = .ok (.iload_n 1, 1) := by decide +kernel
theorem dX12_costs_80 : decode cX12_costs 80 = .ok (.aload_n 0, 1) := by decide +kernel
theorem dX12_costs_81 : decode cX12_costs 81 = .ok (.getfield 44, 3) := by decide +kernel
theorem dX12_costs_84 : decode cX12_costs 84 = .ok (.iload_n 1, 1) := by decide +kernel
theorem dX12_costs_85 : decode cX12_costs 85 = .ok (.iaload, 1) := by decide +kernel
theorem dX12_costs_86 : decode cX12_costs 86 = .ok (.iload_n 2, 1) := by decide +kernel
theorem dX12_costs_87 : decode cX12_costs 87 = .ok (.invokevirtual 280, 3) := by decide +kernel
theorem dX12_costs_90 : decode cX12_costs 90 = .ok (.ireturn, 1) := by decide +kernel
abbrev mX12_divide_0_e1 : ByteArray := .mk #[0x1c, 0x02, 0xa0, 0x00, 0x0f, 0x14, 0x01, 0x1b, 0x2a, 0xb4, 0x00, 0x92, 0x85, 0x69, 0xa7, 0x00, 0x06, 0x14, 0x01, 0x1b, 0x42, 0x1b, 0x36, 0x05, 0x03, 0x36, 0x06, 0x15, 0x06, 0x10, 0x08, 0xa2, 0x00, 0x69, 0x09, 0x37, 0x07, 0x03, 0x36, 0x09, 0x15, 0x09, 0x2a, 0xb4, 0x00, 0x92, 0xa2, 0x00, 0x2b, 0x16, 0x07, 0x1c, 0x02, 0x9f, 0x00, 0x09, 0x1c, 0x15, 0x09, 0xa0, 0x00, 0x14, 0x2a, 0xb4, 0x00, 0x17, 0x10, 0x08, 0x15, 0x09, 0x68, 0x15]
theorem kmX12_divide_0_e1 : CK cX12_divide 0 mX12_divide_0_e1 := ck_of (by decide +kernel)
theorem dX12_divide_0 : decode cX12_divide 0 = .ok (.iload_n 2, 1) := rd_chunk (k := 0) (i := 0) kmX12_divide_0_e1 (by decide +kernel)
theorem dX12_divide_1 : decode cX12_divide 1 = .ok (.iconst (-1), 1) := rd_chunk (k := 0) (i := 1) kmX12_divide_0_e1 (by decide +kernel)
theorem dX12_divide_2 : decode cX12_divide 2 = .ok (.if_icmp .ne 15, 3) := rd_chunk (k := 0) (i := 2) kmX12_divide_0_e1 (by decide +kernel)
theorem dX12_divide_5 : decode cX12_divide 5 = .ok (.ldc2_w 283, 3) := rd_chunk (k := 0) (i := 5) kmX12_divide_0_e1 (by decide +kernel)
theorem dX12_divide_8 : decode cX12_divide 8 = .ok (.aload_n 0, 1) := rd_chunk (k := 0) (i := 8) kmX12_divide_0_e1 (by decide +kernel)
theorem dX12_divide_9 : decode cX12_divide 9 = .ok (.getfield 146, 3) := rd_chunk (k := 0) (i := 9) kmX12_divide_0_e1 (by decide +kernel)
theorem dX12_divide_12 : decode cX12_divide 12 = .ok (.i2l, 1) := rd_chunk (k := 0) (i := 12) kmX12_divide_0_e1 (by decide +kernel)
theorem dX12_divide_13 : decode cX12_divide 13 = .ok (.lmul, 1) := rd_chunk (k := 0) (i := 13) kmX12_divide_0_e1 (by decide +kernel)
theorem dX12_divide_14 : decode cX12_divide 14 = .ok (.goto 6, 3) := rd_chunk (k := 0) (i := 14) kmX12_divide_0_e1 (by decide +kernel)
theorem dX12_divide_17 : decode cX12_divide 17 = .ok (.ldc2_w 283, 3) := rd_chunk (k := 0) (i := 17) kmX12_divide_0_e1 (by decide +kernel)
theorem dX12_divide_20 : decode cX12_divide 20 = .ok (.lstore_n 3, 1) := rd_chunk (k := 0) (i := 20) kmX12_divide_0_e1 (by decide +kernel)
theorem dX12_divide_21 : decode cX12_divide 21 = .ok (.iload_n 1, 1) := rd_chunk (k := 0) (i := 21) kmX12_divide_0_e1 (by decide +kernel)
theorem dX12_divide_22 : decode cX12_divide 22 = .ok (.istore 5, 2) := rd_chunk (k := 0) (i := 22) kmX12_divide_0_e1 (by decide +kernel)
theorem dX12_divide_24 : decode cX12_divide 24 = .ok (.iconst 0, 1) := rd_chunk (k := 0) (i := 24) kmX12_divide_0_e1 (by decide +kernel)
theorem dX12_divide_25 : decode cX12_divide 25 = .ok (.istore 6, 2) := rd_chunk (k := 0) (i := 25) kmX12_divide_0_e1 (by decide +kernel)
theorem dX12_divide_27 : decode cX12_divide 27 = .ok (.iload 6, 2) := rd_chunk (k := 0) (i := 27) kmX12_divide_0_e1 (by decide +kernel)
theorem dX12_divide_29 : decode cX12_divide 29 = .ok (.bipush 8, 2) := rd_chunk (k := 0) (i := 29) kmX12_divide_0_e1 (by decide +kernel)
theorem dX12_divide_31 : decode cX12_divide 31 = .ok (.if_icmp .ge 105, 3) := rd_chunk (k := 0) (i := 31) kmX12_divide_0_e1 (by decide +kernel)
theorem dX12_divide_34 : decode cX12_divide 34 = .ok (.lconst 0, 1) := rd_chunk (k := 0) (i := 34) kmX12_divide_0_e1 (by decide +kernel)
theorem dX12_divide_35 : decode cX12_divide 35 = .ok (.lstore 7, 2) := rd_chunk (k := 0) (i := 35) kmX12_divide_0_e1 (by decide +kernel)
theorem dX12_divide_37 : decode cX12_divide 37 = .ok (.iconst 0, 1) := rd_chunk (k := 0) (i := 37) kmX12_divide_0_e1 (by decide +kernel)
theorem dX12_divide_38 : decode cX12_divide 38 = .ok (.istore 9, 2) := rd_chunk (k := 0) (i := 38) kmX12_divide_0_e1 (by decide +kernel)
theorem dX12_divide_40 : decode cX12_divide 40 = .ok (.iload 9, 2) := rd_chunk (k := 0) (i := 40) kmX12_divide_0_e1 (by decide +kernel)
theorem dX12_divide_42 : decode cX12_divide 42 = .ok (.aload_n 0, 1) := rd_chunk (k := 0) (i := 42) kmX12_divide_0_e1 (by decide +kernel)
theorem dX12_divide_43 : decode cX12_divide 43 = .ok (.getfield 146, 3) := rd_chunk (k := 0) (i := 43) kmX12_divide_0_e1 (by decide +kernel)
theorem dX12_divide_46 : decode cX12_divide 46 = .ok (.if_icmp .ge 43, 3) := rd_chunk (k := 0) (i := 46) kmX12_divide_0_e1 (by decide +kernel)
theorem dX12_divide_49 : decode cX12_divide 49 = .ok (.lload 7, 2) := rd_chunk (k := 0) (i := 49) kmX12_divide_0_e1 (by decide +kernel)
theorem dX12_divide_51 : decode cX12_divide 51 = .ok (.iload_n 2, 1) := rd_chunk (k := 0) (i := 51) kmX12_divide_0_e1 (by decide +kernel)
theorem dX12_divide_52 : decode cX12_divide 52 = .ok (.iconst (-1), 1) := rd_chunk (k := 0) (i := 52) kmX12_divide_0_e1 (by decide +kernel)
theorem dX12_divide_53 : decode cX12_divide 53 = .ok (.if_icmp .eq 9, 3) := rd_chunk (k := 0) (i := 53) kmX12_divide_0_e1 (by decide +kernel)
theorem dX12_divide_56 : decode cX12_divide 56 = .ok (.iload_n 2, 1) := rd_chunk (k := 0) (i := 56) kmX12_divide_0_e1 (by decide +kernel)
theorem dX12_divide_57 : decode cX12_divide 57 = .ok (.iload 9, 2) := rd_chunk (k := 0) (i := 57) kmX12_divide_0_e1 (by decide +kernel)
theorem dX12_divide_59 : decode cX12_divide 59 = .ok (.if_icmp .ne 20, 3) := rd_chunk (k := 0) (i := 59) kmX12_divide_0_e1 (by decide +kernel)
theorem dX12_divide_62 : decode cX12_divide 62 = .ok (.aload_n 0, 1) := rd_chunk (k := 0) (i := 62) kmX12_divide_0_e1 (by decide +kernel)
theorem dX12_divide_63 : decode cX12_divide 63 = .ok (.getfield 23, 3) := rd_chunk (k := 0) (i := 63) kmX12_divide_0_e1 (by decide +kernel)
abbrev mX12_divide_64_e1 : ByteArray := .mk #[0x00, 0x17, 0x10, 0x08, 0x15, 0x09, 0x68, 0x15, 0x06, 0x60, 0x2e, 0x85, 0xa7, 0x00, 0x04, 0x09, 0x61, 0x37, 0x07, 0x84, 0x09, 0x01, 0xa7, 0xff, 0xd2, 0x2a, 0xb4, 0x00, 0x4f, 0x15, 0x06, 0x1b, 0x85, 0x16, 0x07, 0x69, 0x21, 0x6d, 0x88, 0x4f, 0x2a, 0xb4, 0x00, 0x52, 0x15, 0x06, 0x1b, 0x85, 0x16, 0x07, 0x69, 0x21, 0x71, 0x50, 0x15, 0x05, 0x2a, 0xb4, 0x00, 0x4f, 0x15, 0x06, 0x2e, 0x64, 0x36, 0x05, 0x84, 0x06, 0x01, 0xa7, 0xff, 0x96]
theorem kmX12_divide_64_e1 : CK cX12_divide 64 mX12_divide_64_e1 := ck_of (by decide +kernel)
theorem dX12_divide_66 : decode cX12_divide 66 = .ok (.bipush 8, 2) := rd_chunk (k := 64) (i := 2) kmX12_divide_64_e1 (by decide +kernel)
theorem dX12_divide_68 : decode cX12_divide 68 = .ok (.iload 9, 2) := rd_chunk (k := 64) (i := 4) kmX12_divide_64_e1 (by decide +kernel)
theorem dX12_divide_70 : decode cX12_divide 70 = .ok (.imul, 1) := rd_chunk (k := 64) (i := 6) kmX12_divide_64_e1 (by decide +kernel)
theorem dX12_divide_71 : decode cX12_divide 71 = .ok (.iload 6, 2) := rd_chunk (k := 64) (i := 7) kmX12_divide_64_e1 (by decide +kernel)
theorem dX12_divide_73 : decode cX12_divide 73 = .ok (.iadd, 1) := rd_chunk (k := 64) (i := 9) kmX12_divide_64_e1 (by decide +kernel)
theorem dX12_divide_74 : decode cX12_divide 74 = .ok (.iaload, 1) := rd_chunk (k := 64) (i := 10) kmX12_divide_64_e1 (by decide +kernel)
theorem dX12_divide_75 : decode cX12_divide 75 = .ok (.i2l, 1) := rd_chunk (k := 64) (i := 11) kmX12_divide_64_e1 (by decide +kernel)
theorem dX12_divide_76 : decode cX12_divide 76 = .ok (.goto 4, 3) := rd_chunk (k := 64) (i := 12) kmX12_divide_64_e1 (by decide +kernel)
theorem dX12_divide_79 : decode cX12_divide 79 = .ok (.lconst 0, 1) := rd_chunk (k := 64) (i := 15) kmX12_divide_64_e1 (by decide +kernel)
theorem dX12_divide_80 : decode cX12_divide 80 = .ok (.ladd, 1) := rd_chunk (k := 64) (i := 16) kmX12_divide_64_e1 (by decide +kernel)
theorem dX12_divide_81 : decode cX12_divide 81 = .ok (.lstore 7, 2) := rd_chunk (k := 64) (i := 17) kmX12_divide_64_e1 (by decide +kernel)
theorem dX12_divide_83 : decode cX12_divide 83 = .ok (.iinc 9 1, 3) := rd_chunk (k := 64) (i := 19) kmX12_divide_64_e1 (by decide +kernel)
theorem dX12_divide_86 : decode cX12_divide 86 = .ok (.goto (-46), 3) := rd_chunk (k := 64) (i := 22) kmX12_divide_64_e1 (by decide +kernel)
theorem dX12_divide_89 : decode cX12_divide 89 = .ok (.aload_n 0, 1) := rd_chunk (k := 64) (i := 25) kmX12_divide_64_e1 (by decide +kernel)
theorem dX12_divide_90 : decode cX12_divide 90 = .ok (.getfield 79, 3) := rd_chunk (k := 64) (i := 26) kmX12_divide_64_e1 (by decide +kernel)
theorem dX12_divide_93 : decode cX12_divide 93 = .ok (.iload 6, 2) := rd_chunk (k := 64) (i := 29) kmX12_divide_64_e1 (by decide +kernel)
theorem dX12_divide_95 : decode cX12_divide 95 = .ok (.iload_n 1, 1) := rd_chunk (k := 64) (i := 31) kmX12_divide_64_e1 (by decide +kernel)
theorem dX12_divide_96 : decode cX12_divide 96 = .ok (.i2l, 1) := rd_chunk (k := 64) (i := 32) kmX12_divide_64_e1 (by decide +kernel)
theorem dX12_divide_97 : decode cX12_divide 97 = .ok (.lload 7, 2) := rd_chunk (k := 64) (i := 33) kmX12_divide_64_e1 (by decide +kernel)
theorem dX12_divide_99 : decode cX12_divide 99 = .ok (.lmul, 1) := rd_chunk (k := 64) (i := 35) kmX12_divide_64_e1 (by decide +kernel)
theorem dX12_divide_100 : decode cX12_divide 100 = .ok (.lload_n 3, 1) := rd_chunk (k := 64) (i := 36) kmX12_divide_64_e1 (by decide +kernel)
theorem dX12_divide_101 : decode cX12_divide 101 = .ok (.ldiv, 1) := rd_chunk (k := 64) (i := 37) kmX12_divide_64_e1 (by decide +kernel)
theorem dX12_divide_102 : decode cX12_divide 102 = .ok (.l2i, 1) := rd_chunk (k := 64) (i := 38) kmX12_divide_64_e1 (by decide +kernel)
theorem dX12_divide_103 : decode cX12_divide 103 = .ok (.iastore, 1) := rd_chunk (k := 64) (i := 39) kmX12_divide_64_e1 (by decide +kernel)
theorem dX12_divide_104 : decode cX12_divide 104 = .ok (.aload_n 0, 1) := rd_chunk (k := 64) (i := 40) kmX12_divide_64_e1 (by decide +kernel)
theorem dX12_divide_105 : decode cX12_divide 105 = .ok (.getfield 82, 3) := rd_chunk (k := 64) (i := 41) kmX12_divide_64_e1 (by decide +kernel)
theorem dX12_divide_108 : decode cX12_divide 108 = .ok (.iload 6, 2) := rd_chunk (k := 64) (i := 44) kmX12_divide_64_e1 (by decide +kernel)
theorem dX12_divide_110 : decode cX12_divide 110 = .ok (.iload_n 1, 1) := rd_chunk (k := 64) (i := 46) kmX12_divide_64_e1 (by decide +kernel)
theorem dX12_divide_111 : decode cX12_divide 111 = .ok (.i2l, 1) := rd_chunk (k := 64) (i := 47) kmX12_divide_64_e1 (by decide +kernel)
theorem dX12_divide_112 : decode cX12_divide 112 = .ok (.lload 7, 2) := rd_chunk (k := 64) (i := 48) kmX12_divide_64_e1 (by decide +kernel)
theorem dX12_divide_114 : decode cX12_divide 114 = .ok (.lmul, 1) := rd_chunk (k := 64) (i := 50) kmX12_divide_64_e1 (by decide +kernel)
theorem dX12_divide_115 : decode cX12_divide 115 = .ok (.lload_n 3, 1) := rd_chunk (k := 64) (i := 51) kmX12_divide_64_e1 (by decide +kernel)
theorem dX12_divide_116 : decode cX12_divide 116 = .ok (.lrem, 1) := rd_chunk (k := 64) (i := 52) kmX12_divide_64_e1 (by decide +kernel)
theorem dX12_divide_117 : decode cX12_divide 117 = .ok (.lastore, 1) := rd_chunk (k := 64) (i := 53) kmX12_divide_64_e1 (by decide +kernel)
theorem dX12_divide_118 : decode cX12_divide 118 = .ok (.iload 5, 2) := rd_chunk (k := 64) (i := 54) kmX12_divide_64_e1 (by decide +kernel)
theorem dX12_divide_120 : decode cX12_divide 120 = .ok (.aload_n 0, 1) := rd_chunk (k := 64) (i := 56) kmX12_divide_64_e1 (by decide +kernel)
theorem dX12_divide_121 : decode cX12_divide 121 = .ok (.getfield 79, 3) := rd_chunk (k := 64) (i := 57) kmX12_divide_64_e1 (by decide +kernel)
theorem dX12_divide_124 : decode cX12_divide 124 = .ok (.iload 6, 2) := rd_chunk (k := 64) (i := 60) kmX12_divide_64_e1 (by decide +kernel)
theorem dX12_divide_126 : decode cX12_divide 126 = .ok (.iaload, 1) := rd_chunk (k := 64) (i := 62) kmX12_divide_64_e1 (by decide +kernel)
theorem dX12_divide_127 : decode cX12_divide 127 = .ok (.isub, 1) := rd_chunk (k := 64) (i := 63) kmX12_divide_64_e1 (by decide +kernel)
abbrev mX12_divide_128_e1 : ByteArray := .mk #[0x36, 0x05, 0x84, 0x06, 0x01, 0xa7, 0xff, 0x96, 0x15, 0x05, 0x9e, 0x00, 0x47, 0x03, 0x36, 0x06, 0x04, 0x36, 0x07, 0x15, 0x07, 0x10, 0x08, 0xa2, 0x00, 0x1f, 0x2a, 0xb4, 0x00, 0x52, 0x15, 0x07, 0x2f, 0x2a, 0xb4, 0x00, 0x52, 0x15, 0x06, 0x2f, 0x94, 0x9e, 0x00, 0x07, 0x15, 0x07, 0x36, 0x06, 0x84, 0x07, 0x01, 0xa7, 0xff, 0xe0, 0x2a, 0xb4, 0x00, 0x4f, 0x15, 0x06, 0x5c, 0x2e, 0x04, 0x60, 0x4f, 0x2a, 0xb4, 0x00, 0x52, 0x15, 0x06, 0x14]
theorem kmX12_divide_128_e1 : CK cX12_divide 128 mX12_divide_128_e1 := ck_of (by decide +kernel)
theorem dX12_divide_128 : decode cX12_divide 128 = .ok (.istore 5, 2) := rd_chunk (k := 128) (i := 0) kmX12_divide_128_e1 (by decide +kernel)
theorem dX12_divide_130 : decode cX12_divide 130 = .ok (.iinc 6 1, 3) := rd_chunk (k := 128) (i := 2) kmX12_divide_128_e1 (by decide +kernel)
theorem dX12_divide_133 : decode cX12_divide 133 = .ok (.goto (-106), 3) := rd_chunk (k := 128) (i := 5) kmX12_divide_128_e1 (by decide +kernel)
theorem dX12_divide_136 : decode cX12_divide 136 = .ok (.iload 5, 2) := rd_chunk (k := 128) (i := 8) kmX12_divide_128_e1 (by decide +kernel)
theorem dX12_divide_138 : decode cX12_divide 138 = .ok (.ifCond .le 71, 3) := rd_chunk (k := 128) (i := 10) kmX12_divide_128_e1 (by decide +kernel)
theorem dX12_divide_141 : decode cX12_divide 141 = .ok (.iconst 0, 1) := rd_chunk (k := 128) (i := 13) kmX12_divide_128_e1 (by decide +kernel)
theorem dX12_divide_142 : decode cX12_divide 142 = .ok (.istore 6, 2) := rd_chunk (k := 128) (i := 14) kmX12_divide_128_e1 (by decide +kernel)
theorem dX12_divide_144 : decode cX12_divide 144 = .ok (.iconst 1, 1) := rd_chunk (k := 128) (i := 16) kmX12_divide_128_e1 (by decide +kernel)
theorem dX12_divide_145 : decode cX12_divide 145 = .ok (.istore 7, 2) := rd_chunk (k := 128) (i := 17) kmX12_divide_128_e1 (by decide +kernel)
theorem dX12_divide_147 : decode cX12_divide 147 = .ok (.iload 7, 2) := rd_chunk (k := 128) (i := 19) kmX12_divide_128_e1 (by decide +kernel)
theorem dX12_divide_149 : decode cX12_divide 149 = .ok (.bipush 8, 2) := rd_chunk (k := 128) (i := 21) kmX12_divide_128_e1 (by decide +kernel)
theorem dX12_divide_151 : decode cX12_divide 151 = .ok (.if_icmp .ge 31, 3) := rd_chunk (k := 128) (i := 23) kmX12_divide_128_e1 (by decide +kernel)
theorem dX12_divide_154 : decode cX12_divide 154 = .ok (.aload_n 0, 1) := rd_chunk (k := 128) (i := 26) kmX12_divide_128_e1 (by decide +kernel)
theorem dX12_divide_155 : decode cX12_divide 155 = .ok (.getfield 82, 3) := rd_chunk (k := 128) (i := 27) kmX12_divide_128_e1 (by decide +kernel)
theorem dX12_divide_158 : decode cX12_divide 158 = .ok (.iload 7, 2) := rd_chunk (k := 128) (i := 30) kmX12_divide_128_e1 (by decide +kernel)
theorem dX12_divide_160 : decode cX12_divide 160 = .ok (.laload, 1) := rd_chunk (k := 128) (i := 32) kmX12_divide_128_e1 (by decide +kernel)
theorem dX12_divide_161 : decode cX12_divide 161 = .ok (.aload_n 0, 1) := rd_chunk (k := 128) (i := 33) kmX12_divide_128_e1 (by decide +kernel)
theorem dX12_divide_162 : decode cX12_divide 162 = .ok (.getfield 82, 3) := rd_chunk (k := 128) (i := 34) kmX12_divide_128_e1 (by decide +kernel)
theorem dX12_divide_165 : decode cX12_divide 165 = .ok (.iload 6, 2) := rd_chunk (k := 128) (i := 37) kmX12_divide_128_e1 (by decide +kernel)
theorem dX12_divide_167 : decode cX12_divide 167 = .ok (.laload, 1) := rd_chunk (k := 128) (i := 39) kmX12_divide_128_e1 (by decide +kernel)
theorem dX12_divide_168 : decode cX12_divide 168 = .ok (.lcmp, 1) := rd_chunk (k := 128) (i := 40) kmX12_divide_128_e1 (by decide +kernel)
theorem dX12_divide_169 : decode cX12_divide 169 = .ok (.ifCond .le 7, 3) := rd_chunk (k := 128) (i := 41) kmX12_divide_128_e1 (by decide +kernel)
theorem dX12_divide_172 : decode cX12_divide 172 = .ok (.iload 7, 2) := rd_chunk (k := 128) (i := 44) kmX12_divide_128_e1 (by decide +kernel)
theorem dX12_divide_174 : decode cX12_divide 174 = .ok (.istore 6, 2) := rd_chunk (k := 128) (i := 46) kmX12_divide_128_e1 (by decide +kernel)
theorem dX12_divide_176 : decode cX12_divide 176 = .ok (.iinc 7 1, 3) := rd_chunk (k := 128) (i := 48) kmX12_divide_128_e1 (by decide +kernel)
theorem dX12_divide_179 : decode cX12_divide 179 = .ok (.goto (-32), 3) := rd_chunk (k := 128) (i := 51) kmX12_divide_128_e1 (by decide +kernel)
theorem dX12_divide_182 : decode cX12_divide 182 = .ok (.aload_n 0, 1) := rd_chunk (k := 128) (i := 54) kmX12_divide_128_e1 (by decide +kernel)
theorem dX12_divide_183 : decode cX12_divide 183 = .ok (.getfield 79, 3) := rd_chunk (k := 128) (i := 55) kmX12_divide_128_e1 (by decide +kernel)
theorem dX12_divide_186 : decode cX12_divide 186 = .ok (.iload 6, 2) := rd_chunk (k := 128) (i := 58) kmX12_divide_128_e1 (by decide +kernel)
theorem dX12_divide_188 : decode cX12_divide 188 = .ok (.dup2, 1) := rd_chunk (k := 128) (i := 60) kmX12_divide_128_e1 (by decide +kernel)
theorem dX12_divide_189 : decode cX12_divide 189 = .ok (.iaload, 1) := rd_chunk (k := 128) (i := 61) kmX12_divide_128_e1 (by decide +kernel)
theorem dX12_divide_190 : decode cX12_divide 190 = .ok (.iconst 1, 1) := rd_chunk (k := 128) (i := 62) kmX12_divide_128_e1 (by decide +kernel)
theorem dX12_divide_191 : decode cX12_divide 191 = .ok (.iadd, 1) := rd_chunk (k := 128) (i := 63) kmX12_divide_128_e1 (by decide +kernel)
abbrev mX12_divide_192_e1 : ByteArray := .mk #[0x4f, 0x2a, 0xb4, 0x00, 0x52, 0x15, 0x06, 0x14, 0x01, 0x1d, 0x50, 0x84, 0x05, 0xff, 0xa7, 0xff, 0xba, 0xb1]
theorem kmX12_divide_192_e1 : CK cX12_divide 192 mX12_divide_192_e1 := ck_of (by decide +kernel)
theorem dX12_divide_192 : decode cX12_divide 192 = .ok (.iastore, 1) := rd_chunk (k := 192) (i := 0) kmX12_divide_192_e1 (by decide +kernel)
theorem dX12_divide_193 : decode cX12_divide 193 = .ok (.aload_n 0, 1) := rd_chunk (k := 192) (i := 1) kmX12_divide_192_e1 (by decide +kernel)
theorem dX12_divide_194 : decode cX12_divide 194 = .ok (.getfield 82, 3) := rd_chunk (k := 192) (i := 2) kmX12_divide_192_e1 (by decide +kernel)
theorem dX12_divide_197 : decode cX12_divide 197 = .ok (.iload 6, 2) := rd_chunk (k := 192) (i := 5) kmX12_divide_192_e1 (by decide +kernel)
theorem dX12_divide_199 : decode cX12_divide 199 = .ok (.ldc2_w 285, 3) := rd_chunk (k := 192) (i := 7) kmX12_divide_192_e1 (by decide +kernel)
theorem dX12_divide_202 : decode cX12_divide 202 = .ok (.lastore, 1) := rd_chunk (k := 192) (i := 10) kmX12_divide_192_e1 (by decide +kernel)
theorem dX12_divide_203 : decode cX12_divide 203 = .ok (.iinc 5 (-1), 3) := rd_chunk (k := 192) (i := 11) kmX12_divide_192_e1 (by decide +kernel)
theorem dX12_divide_206 : decode cX12_divide 206 = .ok (.goto (-70), 3) := rd_chunk (k := 192) (i := 14) kmX12_divide_192_e1 (by decide +kernel)
theorem dX12_divide_209 : decode cX12_divide 209 = .ok (.return_, 1) := rd_chunk (k := 192) (i := 17) kmX12_divide_192_e1 (by decide +kernel)
theorem dX12_earn_0 : decode cX12_earn 0 = .ok (.aload_n 0, 1) := by decide +kernel
theorem dX12_earn_1 : decode cX12_earn 1 = .ok (.iload_n 2, 1) := by decide +kernel
theorem dX12_earn_2 : decode cX12_earn 2 = .ok (.iload_n 1, 1) := by decide +kernel
theorem dX12_earn_3 : decode cX12_earn 3 = .ok (.invokevirtual 287, 3) := by decide +kernel
theorem dX12_earn_6 : decode cX12_earn 6 = .ok (.iconst 0, 1) := by decide +kernel
theorem dX12_earn_7 : decode cX12_earn 7 = .ok (.istore 4, 2) := by decide +kernel
theorem dX12_earn_9 : decode cX12_earn 9 = .ok (.iload 4, 2) := by decide +kernel
theorem dX12_earn_11 : decode cX12_earn 11 = .ok (.bipush 8, 2) := by decide +kernel
theorem dX12_earn_13 : decode cX12_earn 13 = .ok (.if_icmp .ge 28, 3) := by decide +kernel
theorem dX12_earn_16 : decode cX12_earn 16 = .ok (.aload_n 0, 1) := by decide +kernel
theorem dX12_earn_17 : decode cX12_earn 17 = .ok (.getfield 53, 3) := by decide +kernel
theorem dX12_earn_20 : decode cX12_earn 20 = .ok (.iload 4, 2) := by decide +kernel
theorem dX12_earn_22 : decode cX12_earn 22 = .ok (.dup2, 1) := by decide +kernel
theorem dX12_earn_23 : decode cX12_earn 23 = .ok (.iaload, 1) := by decide +kernel
theorem dX12_earn_24 : decode cX12_earn 24 = .ok (.iload_n 3, 1) := by decide +kernel
theorem dX12_earn_25 : decode cX12_earn 25 = .ok (.aload_n 0, 1) := by decide +kernel
theorem dX12_earn_26 : decode cX12_earn 26 = .ok (.getfield 79, 3) := by decide +kernel
theorem dX12_earn_29 : decode cX12_earn 29 = .ok (.iload 4, 2) := by decide +kernel
theorem dX12_earn_31 : decode cX12_earn 31 = .ok (.iaload, 1) := by decide +kernel
theorem dX12_earn_32 : decode cX12_earn 32 = .ok (.imul, 1) := by decide +kernel
theorem dX12_earn_33 : decode cX12_earn 33 = .ok (.iadd, 1) := by decide +kernel
theorem dX12_earn_34 : decode cX12_earn 34 = .ok (.iastore, 1) := by decide +kernel
theorem dX12_earn_35 : decode cX12_earn 35 = .ok (.iinc 4 1, 3) := by decide +kernel
theorem dX12_earn_38 : decode cX12_earn 38 = .ok (.goto (-29), 3) := by decide +kernel
theorem dX12_earn_41 : decode cX12_earn 41 = .ok (.return_, 1) := by decide +kernel
abbrev mX12_tread_0_e1 : ByteArray := .mk #[0x2a, 0x03, 0xb5, 0x00, 0x8c, 0x2a, 0x1b, 0xb6, 0x01, 0x07, 0x99, 0x00, 0x0b, 0x2a, 0x1c, 0xb6, 0x00, 0xf9, 0x9a, 0x00, 0x05, 0x02, 0xac, 0x2a, 0xb4, 0x00, 0x2c, 0x1b, 0x2e, 0x3e, 0x2a, 0x1b, 0x1d, 0x1c, 0xb6, 0x01, 0x0e, 0x9a, 0x00, 0x06, 0x10, 0xfe, 0xac, 0x2a, 0x1b, 0x1d, 0x1c, 0xb6, 0x01, 0x11, 0x36, 0x04, 0x2a, 0x1b, 0x1d, 0x1c, 0xb6, 0x01, 0x18, 0x36, 0x05, 0x2a, 0xb4, 0x00, 0x29, 0x1b, 0x2e, 0x2a, 0x1c, 0xb6, 0x00, 0xe7]
theorem kmX12_tread_0_e1 : CK cX12_tread 0 mX12_tread_0_e1 := ck_of (by decide +kernel)
theorem dX12_tread_0 : decode cX12_tread 0 = .ok (.aload_n 0, 1) := rd_chunk (k := 0) (i := 0) kmX12_tread_0_e1 (by decide +kernel)
theorem dX12_tread_1 : decode cX12_tread 1 = .ok (.iconst 0, 1) := rd_chunk (k := 0) (i := 1) kmX12_tread_0_e1 (by decide +kernel)
theorem dX12_tread_2 : decode cX12_tread 2 = .ok (.putfield 140, 3) := rd_chunk (k := 0) (i := 2) kmX12_tread_0_e1 (by decide +kernel)
theorem dX12_tread_5 : decode cX12_tread 5 = .ok (.aload_n 0, 1) := rd_chunk (k := 0) (i := 5) kmX12_tread_0_e1 (by decide +kernel)
theorem dX12_tread_6 : decode cX12_tread 6 = .ok (.iload_n 1, 1) := rd_chunk (k := 0) (i := 6) kmX12_tread_0_e1 (by decide +kernel)
theorem dX12_tread_7 : decode cX12_tread 7 = .ok (.invokevirtual 263, 3) := rd_chunk (k := 0) (i := 7) kmX12_tread_0_e1 (by decide +kernel)
theorem dX12_tread_10 : decode cX12_tread 10 = .ok (.ifCond .eq 11, 3) := rd_chunk (k := 0) (i := 10) kmX12_tread_0_e1 (by decide +kernel)
theorem dX12_tread_13 : decode cX12_tread 13 = .ok (.aload_n 0, 1) := rd_chunk (k := 0) (i := 13) kmX12_tread_0_e1 (by decide +kernel)
theorem dX12_tread_14 : decode cX12_tread 14 = .ok (.iload_n 2, 1) := rd_chunk (k := 0) (i := 14) kmX12_tread_0_e1 (by decide +kernel)
theorem dX12_tread_15 : decode cX12_tread 15 = .ok (.invokevirtual 249, 3) := rd_chunk (k := 0) (i := 15) kmX12_tread_0_e1 (by decide +kernel)
theorem dX12_tread_18 : decode cX12_tread 18 = .ok (.ifCond .ne 5, 3) := rd_chunk (k := 0) (i := 18) kmX12_tread_0_e1 (by decide +kernel)
theorem dX12_tread_21 : decode cX12_tread 21 = .ok (.iconst (-1), 1) := rd_chunk (k := 0) (i := 21) kmX12_tread_0_e1 (by decide +kernel)
theorem dX12_tread_22 : decode cX12_tread 22 = .ok (.ireturn, 1) := rd_chunk (k := 0) (i := 22) kmX12_tread_0_e1 (by decide +kernel)
theorem dX12_tread_23 : decode cX12_tread 23 = .ok (.aload_n 0, 1) := rd_chunk (k := 0) (i := 23) kmX12_tread_0_e1 (by decide +kernel)
theorem dX12_tread_24 : decode cX12_tread 24 = .ok (.getfield 44, 3) := rd_chunk (k := 0) (i := 24) kmX12_tread_0_e1 (by decide +kernel)
theorem dX12_tread_27 : decode cX12_tread 27 = .ok (.iload_n 1, 1) := rd_chunk (k := 0) (i := 27) kmX12_tread_0_e1 (by decide +kernel)
theorem dX12_tread_28 : decode cX12_tread 28 = .ok (.iaload, 1) := rd_chunk (k := 0) (i := 28) kmX12_tread_0_e1 (by decide +kernel)
theorem dX12_tread_29 : decode cX12_tread 29 = .ok (.istore_n 3, 1) := rd_chunk (k := 0) (i := 29) kmX12_tread_0_e1 (by decide +kernel)
theorem dX12_tread_30 : decode cX12_tread 30 = .ok (.aload_n 0, 1) := rd_chunk (k := 0) (i := 30) kmX12_tread_0_e1 (by decide +kernel)
theorem dX12_tread_31 : decode cX12_tread 31 = .ok (.iload_n 1, 1) := rd_chunk (k := 0) (i := 31) kmX12_tread_0_e1 (by decide +kernel)
theorem dX12_tread_32 : decode cX12_tread 32 = .ok (.iload_n 3, 1) := rd_chunk (k := 0) (i := 32) kmX12_tread_0_e1 (by decide +kernel)
theorem dX12_tread_33 : decode cX12_tread 33 = .ok (.iload_n 2, 1) := rd_chunk (k := 0) (i := 33) kmX12_tread_0_e1 (by decide +kernel)
theorem dX12_tread_34 : decode cX12_tread 34 = .ok (.invokevirtual 270, 3) := rd_chunk (k := 0) (i := 34) kmX12_tread_0_e1 (by decide +kernel)
theorem dX12_tread_37 : decode cX12_tread 37 = .ok (.ifCond .ne 6, 3) := rd_chunk (k := 0) (i := 37) kmX12_tread_0_e1 (by decide +kernel)
theorem dX12_tread_40 : decode cX12_tread 40 = .ok (.bipush (-2), 2) := rd_chunk (k := 0) (i := 40) kmX12_tread_0_e1 (by decide +kernel)
theorem dX12_tread_42 : decode cX12_tread 42 = .ok (.ireturn, 1) := rd_chunk (k := 0) (i := 42) kmX12_tread_0_e1 (by decide +kernel)
theorem dX12_tread_43 : decode cX12_tread 43 = .ok (.aload_n 0, 1) := rd_chunk (k := 0) (i := 43) kmX12_tread_0_e1 (by decide +kernel)
theorem dX12_tread_44 : decode cX12_tread 44 = .ok (.iload_n 1, 1) := rd_chunk (k := 0) (i := 44) kmX12_tread_0_e1 (by decide +kernel)
theorem dX12_tread_45 : decode cX12_tread 45 = .ok (.iload_n 3, 1) := rd_chunk (k := 0) (i := 45) kmX12_tread_0_e1 (by decide +kernel)
theorem dX12_tread_46 : decode cX12_tread 46 = .ok (.iload_n 2, 1) := rd_chunk (k := 0) (i := 46) kmX12_tread_0_e1 (by decide +kernel)
theorem dX12_tread_47 : decode cX12_tread 47 = .ok (.invokevirtual 273, 3) := rd_chunk (k := 0) (i := 47) kmX12_tread_0_e1 (by decide +kernel)
theorem dX12_tread_50 : decode cX12_tread 50 = .ok (.istore 4, 2) := rd_chunk (k := 0) (i := 50) kmX12_tread_0_e1 (by decide +kernel)
theorem dX12_tread_52 : decode cX12_tread 52 = .ok (.aload_n 0, 1) := rd_chunk (k := 0) (i := 52) kmX12_tread_0_e1 (by decide +kernel)
theorem dX12_tread_53 : decode cX12_tread 53 = .ok (.iload_n 1, 1) := rd_chunk (k := 0) (i := 53) kmX12_tread_0_e1 (by decide +kernel)
theorem dX12_tread_54 : decode cX12_tread 54 = .ok (.iload_n 3, 1) := rd_chunk (k := 0) (i := 54) kmX12_tread_0_e1 (by decide +kernel)
theorem dX12_tread_55 : decode cX12_tread 55 = .ok (.iload_n 2, 1) := rd_chunk (k := 0) (i := 55) kmX12_tread_0_e1 (by decide +kernel)
theorem dX12_tread_56 : decode cX12_tread 56 = .ok (.invokevirtual 280, 3) := rd_chunk (k := 0) (i := 56) kmX12_tread_0_e1 (by decide +kernel)
theorem dX12_tread_59 : decode cX12_tread 59 = .ok (.istore 5, 2) := rd_chunk (k := 0) (i := 59) kmX12_tread_0_e1 (by decide +kernel)
theorem dX12_tread_61 : decode cX12_tread 61 = .ok (.aload_n 0, 1) := rd_chunk (k := 0) (i := 61) kmX12_tread_0_e1 (by decide +kernel)
theorem dX12_tread_62 : decode cX12_tread 62 = .ok (.getfield 41, 3) := rd_chunk (k := 0) (i := 62) kmX12_tread_0_e1 (by decide +kernel)
abbrev mX12_tread_64_e1 : ByteArray := .mk #[0x29, 0x1b, 0x2e, 0x2a, 0x1c, 0xb6, 0x00, 0xe7, 0xb8, 0x01, 0x23, 0x99, 0x00, 0x06, 0x10, 0xfd, 0xac, 0x15, 0x04, 0x2a, 0xb4, 0x00, 0x2f, 0x1b, 0x2e, 0xa4, 0x00, 0x06, 0x10, 0xfc, 0xac, 0x15, 0x05, 0x2a, 0xb4, 0x00, 0x32, 0x1b, 0x2e, 0xa4, 0x00, 0x06, 0x10, 0xfb, 0xac, 0x1c, 0x1d, 0x64, 0x04, 0x64, 0x36, 0x06, 0x1d, 0x04, 0x60, 0x36, 0x07, 0x15, 0x07, 0x1c, 0xa3, 0x00, 0x2a, 0x2a, 0x15, 0x07, 0x2a, 0x15, 0x07, 0x1c, 0xa0, 0x00]
theorem kmX12_tread_64_e1 : CK cX12_tread 64 mX12_tread_64_e1 := ck_of (by decide +kernel)
theorem dX12_tread_65 : decode cX12_tread 65 = .ok (.iload_n 1, 1) := rd_chunk (k := 64) (i := 1) kmX12_tread_64_e1 (by decide +kernel)
theorem dX12_tread_66 : decode cX12_tread 66 = .ok (.iaload, 1) := rd_chunk (k := 64) (i := 2) kmX12_tread_64_e1 (by decide +kernel)
theorem dX12_tread_67 : decode cX12_tread 67 = .ok (.aload_n 0, 1) := rd_chunk (k := 64) (i := 3) kmX12_tread_64_e1 (by decide +kernel)
theorem dX12_tread_68 : decode cX12_tread 68 = .ok (.iload_n 2, 1) := rd_chunk (k := 64) (i := 4) kmX12_tread_64_e1 (by decide +kernel)
theorem dX12_tread_69 : decode cX12_tread 69 = .ok (.invokevirtual 231, 3) := rd_chunk (k := 64) (i := 5) kmX12_tread_64_e1 (by decide +kernel)
theorem dX12_tread_72 : decode cX12_tread 72 = .ok (.invokestatic 291, 3) := rd_chunk (k := 64) (i := 8) kmX12_tread_64_e1 (by decide +kernel)
theorem dX12_tread_75 : decode cX12_tread 75 = .ok (.ifCond .eq 6, 3) := rd_chunk (k := 64) (i := 11) kmX12_tread_64_e1 (by decide +kernel)
theorem dX12_tread_78 : decode cX12_tread 78 = .ok (.bipush (-3), 2) := rd_chunk (k := 64) (i := 14) kmX12_tread_64_e1 (by decide +kernel)
theorem dX12_tread_80 : decode cX12_tread 80 = .ok (.ireturn, 1) := rd_chunk (k := 64) (i := 16) kmX12_tread_64_e1 (by decide +kernel)
theorem dX12_tread_81 : decode cX12_tread 81 = .ok (.iload 4, 2) := rd_chunk (k := 64) (i := 17) kmX12_tread_64_e1 (by decide +kernel)
theorem dX12_tread_83 : decode cX12_tread 83 = .ok (.aload_n 0, 1) := rd_chunk (k := 64) (i := 19) kmX12_tread_64_e1 (by decide +kernel)
theorem dX12_tread_84 : decode cX12_tread 84 = .ok (.getfield 47, 3) := rd_chunk (k := 64) (i := 20) kmX12_tread_64_e1 (by decide +kernel)
theorem dX12_tread_87 : decode cX12_tread 87 = .ok (.iload_n 1, 1) := rd_chunk (k := 64) (i := 23) kmX12_tread_64_e1 (by decide +kernel)
theorem dX12_tread_88 : decode cX12_tread 88 = .ok (.iaload, 1) := rd_chunk (k := 64) (i := 24) kmX12_tread_64_e1 (by decide +kernel)
theorem dX12_tread_89 : decode cX12_tread 89 = .ok (.if_icmp .le 6, 3) := rd_chunk (k := 64) (i := 25) kmX12_tread_64_e1 (by decide +kernel)
theorem dX12_tread_92 : decode cX12_tread 92 = .ok (.bipush (-4), 2) := rd_chunk (k := 64) (i := 28) kmX12_tread_64_e1 (by decide +kernel)
theorem dX12_tread_94 : decode cX12_tread 94 = .ok (.ireturn, 1) := rd_chunk (k := 64) (i := 30) kmX12_tread_64_e1 (by decide +kernel)
theorem dX12_tread_95 : decode cX12_tread 95 = .ok (.iload 5, 2) := rd_chunk (k := 64) (i := 31) kmX12_tread_64_e1 (by decide +kernel)
theorem dX12_tread_97 : decode cX12_tread 97 = .ok (.aload_n 0, 1) := rd_chunk (k := 64) (i := 33) kmX12_tread_64_e1 (by decide +kernel)
theorem dX12_tread_98 : decode cX12_tread 98 = .ok (.getfield 50, 3) := rd_chunk (k := 64) (i := 34) kmX12_tread_64_e1 (by decide +kernel)
theorem dX12_tread_101 : decode cX12_tread 101 = .ok (.iload_n 1, 1) := rd_chunk (k := 64) (i := 37) kmX12_tread_64_e1 (by decide +kernel)
theorem dX12_tread_102 : decode cX12_tread 102 = .ok (.iaload, 1) := rd_chunk (k := 64) (i := 38) kmX12_tread_64_e1 (by decide +kernel)
theorem dX12_tread_103 : decode cX12_tread 103 = .ok (.if_icmp .le 6, 3) := rd_chunk (k := 64) (i := 39) kmX12_tread_64_e1 (by decide +kernel)
theorem dX12_tread_106 : decode cX12_tread 106 = .ok (.bipush (-5), 2) := rd_chunk (k := 64) (i := 42) kmX12_tread_64_e1 (by decide +kernel)
theorem dX12_tread_108 : decode cX12_tread 108 = .ok (.ireturn, 1) := rd_chunk (k := 64) (i := 44) kmX12_tread_64_e1 (by decide +kernel)
theorem dX12_tread_109 : decode cX12_tread 109 = .ok (.iload_n 2, 1) := rd_chunk (k := 64) (i := 45) kmX12_tread_64_e1 (by decide +kernel)
theorem dX12_tread_110 : decode cX12_tread 110 = .ok (.iload_n 3, 1) := rd_chunk (k := 64) (i := 46) kmX12_tread_64_e1 (by decide +kernel)
theorem dX12_tread_111 : decode cX12_tread 111 = .ok (.isub, 1) := rd_chunk (k := 64) (i := 47) kmX12_tread_64_e1 (by decide +kernel)
theorem dX12_tread_112 : decode cX12_tread 112 = .ok (.iconst 1, 1) := rd_chunk (k := 64) (i := 48) kmX12_tread_64_e1 (by decide +kernel)
theorem dX12_tread_113 : decode cX12_tread 113 = .ok (.isub, 1) := rd_chunk (k := 64) (i := 49) kmX12_tread_64_e1 (by decide +kernel)
theorem dX12_tread_114 : decode cX12_tread 114 = .ok (.istore 6, 2) := rd_chunk (k := 64) (i := 50) kmX12_tread_64_e1 (by decide +kernel)
theorem dX12_tread_116 : decode cX12_tread 116 = .ok (.iload_n 3, 1) := rd_chunk (k := 64) (i := 52) kmX12_tread_64_e1 (by decide +kernel)
theorem dX12_tread_117 : decode cX12_tread 117 = .ok (.iconst 1, 1) := rd_chunk (k := 64) (i := 53) kmX12_tread_64_e1 (by decide +kernel)
theorem dX12_tread_118 : decode cX12_tread 118 = .ok (.iadd, 1) := rd_chunk (k := 64) (i := 54) kmX12_tread_64_e1 (by decide +kernel)
theorem dX12_tread_119 : decode cX12_tread 119 = .ok (.istore 7, 2) := rd_chunk (k := 64) (i := 55) kmX12_tread_64_e1 (by decide +kernel)
theorem dX12_tread_121 : decode cX12_tread 121 = .ok (.iload 7, 2) := rd_chunk (k := 64) (i := 57) kmX12_tread_64_e1 (by decide +kernel)
theorem dX12_tread_123 : decode cX12_tread 123 = .ok (.iload_n 2, 1) := rd_chunk (k := 64) (i := 59) kmX12_tread_64_e1 (by decide +kernel)
theorem dX12_tread_124 : decode cX12_tread 124 = .ok (.if_icmp .gt 42, 3) := rd_chunk (k := 64) (i := 60) kmX12_tread_64_e1 (by decide +kernel)
theorem dX12_tread_127 : decode cX12_tread 127 = .ok (.aload_n 0, 1) := rd_chunk (k := 64) (i := 63) kmX12_tread_64_e1 (by decide +kernel)
abbrev mX12_tread_128_e1 : ByteArray := .mk #[0x15, 0x07, 0x2a, 0x15, 0x07, 0x1c, 0xa0, 0x00, 0x07, 0x03, 0xa7, 0x00, 0x04, 0x04, 0x15, 0x07, 0x1d, 0x2a, 0xb4, 0x00, 0x26, 0x1b, 0x2e, 0x15, 0x06, 0xb6, 0x01, 0x0a, 0x04, 0xb6, 0x01, 0x27, 0x84, 0x07, 0x01, 0xa7, 0xff, 0xd6, 0x2a, 0xb4, 0x00, 0x2f, 0x1b, 0x5c, 0x2e, 0x15, 0x04, 0x64, 0x4f, 0x2a, 0xb4, 0x00, 0x32, 0x1b, 0x5c, 0x2e, 0x15, 0x05, 0x64, 0x4f, 0x2a, 0xb4, 0x00, 0x2c, 0x1b, 0x1c, 0x4f, 0x15, 0x05, 0xac]
theorem kmX12_tread_128_e1 : CK cX12_tread 128 mX12_tread_128_e1 := ck_of (by decide +kernel)
theorem dX12_tread_128 : decode cX12_tread 128 = .ok (.iload 7, 2) := rd_chunk (k := 128) (i := 0) kmX12_tread_128_e1 (by decide +kernel)
theorem dX12_tread_130 : decode cX12_tread 130 = .ok (.aload_n 0, 1) := rd_chunk (k := 128) (i := 2) kmX12_tread_128_e1 (by decide +kernel)
theorem dX12_tread_131 : decode cX12_tread 131 = .ok (.iload 7, 2) := rd_chunk (k := 128) (i := 3) kmX12_tread_128_e1 (by decide +kernel)
theorem dX12_tread_133 : decode cX12_tread 133 = .ok (.iload_n 2, 1) := rd_chunk (k := 128) (i := 5) kmX12_tread_128_e1 (by decide +kernel)
theorem dX12_tread_134 : decode cX12_tread 134 = .ok (.if_icmp .ne 7, 3) := rd_chunk (k := 128) (i := 6) kmX12_tread_128_e1 (by decide +kernel)
theorem dX12_tread_137 : decode cX12_tread 137 = .ok (.iconst 0, 1) := rd_chunk (k := 128) (i := 9) kmX12_tread_128_e1 (by decide +kernel)
theorem dX12_tread_138 : decode cX12_tread 138 = .ok (.goto 4, 3) := rd_chunk (k := 128) (i := 10) kmX12_tread_128_e1 (by decide +kernel)
theorem dX12_tread_141 : decode cX12_tread 141 = .ok (.iconst 1, 1) := rd_chunk (k := 128) (i := 13) kmX12_tread_128_e1 (by decide +kernel)
theorem dX12_tread_142 : decode cX12_tread 142 = .ok (.iload 7, 2) := rd_chunk (k := 128) (i := 14) kmX12_tread_128_e1 (by decide +kernel)
theorem dX12_tread_144 : decode cX12_tread 144 = .ok (.iload_n 3, 1) := rd_chunk (k := 128) (i := 16) kmX12_tread_128_e1 (by decide +kernel)
theorem dX12_tread_145 : decode cX12_tread 145 = .ok (.aload_n 0, 1) := rd_chunk (k := 128) (i := 17) kmX12_tread_128_e1 (by decide +kernel)
theorem dX12_tread_146 : decode cX12_tread 146 = .ok (.getfield 38, 3) := rd_chunk (k := 128) (i := 18) kmX12_tread_128_e1 (by decide +kernel)
theorem dX12_tread_149 : decode cX12_tread 149 = .ok (.iload_n 1, 1) := rd_chunk (k := 128) (i := 21) kmX12_tread_128_e1 (by decide +kernel)
theorem dX12_tread_150 : decode cX12_tread 150 = .ok (.iaload, 1) := rd_chunk (k := 128) (i := 22) kmX12_tread_128_e1 (by decide +kernel)
theorem dX12_tread_151 : decode cX12_tread 151 = .ok (.iload 6, 2) := rd_chunk (k := 128) (i := 23) kmX12_tread_128_e1 (by decide +kernel)
theorem dX12_tread_153 : decode cX12_tread 153 = .ok (.invokevirtual 266, 3) := rd_chunk (k := 128) (i := 25) kmX12_tread_128_e1 (by decide +kernel)
theorem dX12_tread_156 : decode cX12_tread 156 = .ok (.iconst 1, 1) := rd_chunk (k := 128) (i := 28) kmX12_tread_128_e1 (by decide +kernel)
theorem dX12_tread_157 : decode cX12_tread 157 = .ok (.invokevirtual 295, 3) := rd_chunk (k := 128) (i := 29) kmX12_tread_128_e1 (by decide +kernel)
theorem dX12_tread_160 : decode cX12_tread 160 = .ok (.iinc 7 1, 3) := rd_chunk (k := 128) (i := 32) kmX12_tread_128_e1 (by decide +kernel)
theorem dX12_tread_163 : decode cX12_tread 163 = .ok (.goto (-42), 3) := rd_chunk (k := 128) (i := 35) kmX12_tread_128_e1 (by decide +kernel)
theorem dX12_tread_166 : decode cX12_tread 166 = .ok (.aload_n 0, 1) := rd_chunk (k := 128) (i := 38) kmX12_tread_128_e1 (by decide +kernel)
theorem dX12_tread_167 : decode cX12_tread 167 = .ok (.getfield 47, 3) := rd_chunk (k := 128) (i := 39) kmX12_tread_128_e1 (by decide +kernel)
theorem dX12_tread_170 : decode cX12_tread 170 = .ok (.iload_n 1, 1) := rd_chunk (k := 128) (i := 42) kmX12_tread_128_e1 (by decide +kernel)
theorem dX12_tread_171 : decode cX12_tread 171 = .ok (.dup2, 1) := rd_chunk (k := 128) (i := 43) kmX12_tread_128_e1 (by decide +kernel)
theorem dX12_tread_172 : decode cX12_tread 172 = .ok (.iaload, 1) := rd_chunk (k := 128) (i := 44) kmX12_tread_128_e1 (by decide +kernel)
theorem dX12_tread_173 : decode cX12_tread 173 = .ok (.iload 4, 2) := rd_chunk (k := 128) (i := 45) kmX12_tread_128_e1 (by decide +kernel)
theorem dX12_tread_175 : decode cX12_tread 175 = .ok (.isub, 1) := rd_chunk (k := 128) (i := 47) kmX12_tread_128_e1 (by decide +kernel)
theorem dX12_tread_176 : decode cX12_tread 176 = .ok (.iastore, 1) := rd_chunk (k := 128) (i := 48) kmX12_tread_128_e1 (by decide +kernel)
theorem dX12_tread_177 : decode cX12_tread 177 = .ok (.aload_n 0, 1) := rd_chunk (k := 128) (i := 49) kmX12_tread_128_e1 (by decide +kernel)
theorem dX12_tread_178 : decode cX12_tread 178 = .ok (.getfield 50, 3) := rd_chunk (k := 128) (i := 50) kmX12_tread_128_e1 (by decide +kernel)
theorem dX12_tread_181 : decode cX12_tread 181 = .ok (.iload_n 1, 1) := rd_chunk (k := 128) (i := 53) kmX12_tread_128_e1 (by decide +kernel)
theorem dX12_tread_182 : decode cX12_tread 182 = .ok (.dup2, 1) := rd_chunk (k := 128) (i := 54) kmX12_tread_128_e1 (by decide +kernel)
theorem dX12_tread_183 : decode cX12_tread 183 = .ok (.iaload, 1) := rd_chunk (k := 128) (i := 55) kmX12_tread_128_e1 (by decide +kernel)
theorem dX12_tread_184 : decode cX12_tread 184 = .ok (.iload 5, 2) := rd_chunk (k := 128) (i := 56) kmX12_tread_128_e1 (by decide +kernel)
theorem dX12_tread_186 : decode cX12_tread 186 = .ok (.isub, 1) := rd_chunk (k := 128) (i := 58) kmX12_tread_128_e1 (by decide +kernel)
theorem dX12_tread_187 : decode cX12_tread 187 = .ok (.iastore, 1) := rd_chunk (k := 128) (i := 59) kmX12_tread_128_e1 (by decide +kernel)
theorem dX12_tread_188 : decode cX12_tread 188 = .ok (.aload_n 0, 1) := rd_chunk (k := 128) (i := 60) kmX12_tread_128_e1 (by decide +kernel)
theorem dX12_tread_189 : decode cX12_tread 189 = .ok (.getfield 44, 3) := rd_chunk (k := 128) (i := 61) kmX12_tread_128_e1 (by decide +kernel)
abbrev mX12_tread_192_e1 : ByteArray := .mk #[0x1b, 0x1c, 0x4f, 0x15, 0x05, 0xac]
theorem kmX12_tread_192_e1 : CK cX12_tread 192 mX12_tread_192_e1 := ck_of (by decide +kernel)
theorem dX12_tread_192 : decode cX12_tread 192 = .ok (.iload_n 1, 1) := rd_chunk (k := 192) (i := 0) kmX12_tread_192_e1 (by decide +kernel)
theorem dX12_tread_193 : decode cX12_tread 193 = .ok (.iload_n 2, 1) := rd_chunk (k := 192) (i := 1) kmX12_tread_192_e1 (by decide +kernel)
theorem dX12_tread_194 : decode cX12_tread 194 = .ok (.iastore, 1) := rd_chunk (k := 192) (i := 2) kmX12_tread_192_e1 (by decide +kernel)
theorem dX12_tread_195 : decode cX12_tread 195 = .ok (.iload 5, 2) := rd_chunk (k := 192) (i := 3) kmX12_tread_192_e1 (by decide +kernel)
theorem dX12_tread_197 : decode cX12_tread 197 = .ok (.ireturn, 1) := rd_chunk (k := 192) (i := 5) kmX12_tread_192_e1 (by decide +kernel)
abbrev mX12_rests_0_e1 : ByteArray := .mk #[0x2a, 0x03, 0xb5, 0x00, 0x8c, 0x2a, 0x1b, 0xb6, 0x01, 0x07, 0x99, 0x00, 0x0d, 0x1c, 0x04, 0x10, 0x1e, 0xb8, 0x00, 0x95, 0x9a, 0x00, 0x05, 0x02, 0xac, 0x2a, 0xb4, 0x00, 0x2c, 0x1b, 0x2e, 0x3e, 0x1d, 0x02, 0xa0, 0x00, 0x07, 0x03, 0xa7, 0x00, 0x11, 0x2a, 0x03, 0x1d, 0x1d, 0x2a, 0xb4, 0x00, 0x26, 0x1b, 0x2e, 0x03, 0xb6, 0x01, 0x0a, 0x36, 0x04, 0x15, 0x04, 0x2a, 0xb4, 0x00, 0x32, 0x1b, 0x2e, 0xa4, 0x00, 0x06, 0x10, 0xfb, 0xac, 0x2a]
theorem kmX12_rests_0_e1 : CK cX12_rests 0 mX12_rests_0_e1 := ck_of (by decide +kernel)
theorem dX12_rests_0 : decode cX12_rests 0 = .ok (.aload_n 0, 1) := rd_chunk (k := 0) (i := 0) kmX12_rests_0_e1 (by decide +kernel)
theorem dX12_rests_1 : decode cX12_rests 1 = .ok (.iconst 0, 1) := rd_chunk (k := 0) (i := 1) kmX12_rests_0_e1 (by decide +kernel)
theorem dX12_rests_2 : decode cX12_rests 2 = .ok (.putfield 140, 3) := rd_chunk (k := 0) (i := 2) kmX12_rests_0_e1 (by decide +kernel)
theorem dX12_rests_5 : decode cX12_rests 5 = .ok (.aload_n 0, 1) := rd_chunk (k := 0) (i := 5) kmX12_rests_0_e1 (by decide +kernel)
theorem dX12_rests_6 : decode cX12_rests 6 = .ok (.iload_n 1, 1) := rd_chunk (k := 0) (i := 6) kmX12_rests_0_e1 (by decide +kernel)
theorem dX12_rests_7 : decode cX12_rests 7 = .ok (.invokevirtual 263, 3) := rd_chunk (k := 0) (i := 7) kmX12_rests_0_e1 (by decide +kernel)
theorem dX12_rests_10 : decode cX12_rests 10 = .ok (.ifCond .eq 13, 3) := rd_chunk (k := 0) (i := 10) kmX12_rests_0_e1 (by decide +kernel)
theorem dX12_rests_13 : decode cX12_rests 13 = .ok (.iload_n 2, 1) := rd_chunk (k := 0) (i := 13) kmX12_rests_0_e1 (by decide +kernel)
theorem dX12_rests_14 : decode cX12_rests 14 = .ok (.iconst 1, 1) := rd_chunk (k := 0) (i := 14) kmX12_rests_0_e1 (by decide +kernel)
theorem dX12_rests_15 : decode cX12_rests 15 = .ok (.bipush 30, 2) := rd_chunk (k := 0) (i := 15) kmX12_rests_0_e1 (by decide +kernel)
theorem dX12_rests_17 : decode cX12_rests 17 = .ok (.invokestatic 149, 3) := rd_chunk (k := 0) (i := 17) kmX12_rests_0_e1 (by decide +kernel)
theorem dX12_rests_20 : decode cX12_rests 20 = .ok (.ifCond .ne 5, 3) := rd_chunk (k := 0) (i := 20) kmX12_rests_0_e1 (by decide +kernel)
theorem dX12_rests_23 : decode cX12_rests 23 = .ok (.iconst (-1), 1) := rd_chunk (k := 0) (i := 23) kmX12_rests_0_e1 (by decide +kernel)
theorem dX12_rests_24 : decode cX12_rests 24 = .ok (.ireturn, 1) := rd_chunk (k := 0) (i := 24) kmX12_rests_0_e1 (by decide +kernel)
theorem dX12_rests_25 : decode cX12_rests 25 = .ok (.aload_n 0, 1) := rd_chunk (k := 0) (i := 25) kmX12_rests_0_e1 (by decide +kernel)
theorem dX12_rests_26 : decode cX12_rests 26 = .ok (.getfield 44, 3) := rd_chunk (k := 0) (i := 26) kmX12_rests_0_e1 (by decide +kernel)
theorem dX12_rests_29 : decode cX12_rests 29 = .ok (.iload_n 1, 1) := rd_chunk (k := 0) (i := 29) kmX12_rests_0_e1 (by decide +kernel)
theorem dX12_rests_30 : decode cX12_rests 30 = .ok (.iaload, 1) := rd_chunk (k := 0) (i := 30) kmX12_rests_0_e1 (by decide +kernel)
theorem dX12_rests_31 : decode cX12_rests 31 = .ok (.istore_n 3, 1) := rd_chunk (k := 0) (i := 31) kmX12_rests_0_e1 (by decide +kernel)
theorem dX12_rests_32 : decode cX12_rests 32 = .ok (.iload_n 3, 1) := rd_chunk (k := 0) (i := 32) kmX12_rests_0_e1 (by decide +kernel)
theorem dX12_rests_33 : decode cX12_rests 33 = .ok (.iconst (-1), 1) := rd_chunk (k := 0) (i := 33) kmX12_rests_0_e1 (by decide +kernel)
theorem dX12_rests_34 : decode cX12_rests 34 = .ok (.if_icmp .ne 7, 3) := rd_chunk (k := 0) (i := 34) kmX12_rests_0_e1 (by decide +kernel)
theorem dX12_rests_37 : decode cX12_rests 37 = .ok (.iconst 0, 1) := rd_chunk (k := 0) (i := 37) kmX12_rests_0_e1 (by decide +kernel)
theorem dX12_rests_38 : decode cX12_rests 38 = .ok (.goto 17, 3) := rd_chunk (k := 0) (i := 38) kmX12_rests_0_e1 (by decide +kernel)
theorem dX12_rests_41 : decode cX12_rests 41 = .ok (.aload_n 0, 1) := rd_chunk (k := 0) (i := 41) kmX12_rests_0_e1 (by decide +kernel)
theorem dX12_rests_42 : decode cX12_rests 42 = .ok (.iconst 0, 1) := rd_chunk (k := 0) (i := 42) kmX12_rests_0_e1 (by decide +kernel)
theorem dX12_rests_43 : decode cX12_rests 43 = .ok (.iload_n 3, 1) := rd_chunk (k := 0) (i := 43) kmX12_rests_0_e1 (by decide +kernel)
theorem dX12_rests_44 : decode cX12_rests 44 = .ok (.iload_n 3, 1) := rd_chunk (k := 0) (i := 44) kmX12_rests_0_e1 (by decide +kernel)
theorem dX12_rests_45 : decode cX12_rests 45 = .ok (.aload_n 0, 1) := rd_chunk (k := 0) (i := 45) kmX12_rests_0_e1 (by decide +kernel)
theorem dX12_rests_46 : decode cX12_rests 46 = .ok (.getfield 38, 3) := rd_chunk (k := 0) (i := 46) kmX12_rests_0_e1 (by decide +kernel)
theorem dX12_rests_49 : decode cX12_rests 49 = .ok (.iload_n 1, 1) := rd_chunk (k := 0) (i := 49) kmX12_rests_0_e1 (by decide +kernel)
theorem dX12_rests_50 : decode cX12_rests 50 = .ok (.iaload, 1) := rd_chunk (k := 0) (i := 50) kmX12_rests_0_e1 (by decide +kernel)
theorem dX12_rests_51 : decode cX12_rests 51 = .ok (.iconst 0, 1) := rd_chunk (k := 0) (i := 51) kmX12_rests_0_e1 (by decide +kernel)
theorem dX12_rests_52 : decode cX12_rests 52 = .ok (.invokevirtual 266, 3) := rd_chunk (k := 0) (i := 52) kmX12_rests_0_e1 (by decide +kernel)
theorem dX12_rests_55 : decode cX12_rests 55 = .ok (.istore 4, 2) := rd_chunk (k := 0) (i := 55) kmX12_rests_0_e1 (by decide +kernel)
theorem dX12_rests_57 : decode cX12_rests 57 = .ok (.iload 4, 2) := rd_chunk (k := 0) (i := 57) kmX12_rests_0_e1 (by decide +kernel)
theorem dX12_rests_59 : decode cX12_rests 59 = .ok (.aload_n 0, 1) := rd_chunk (k := 0) (i := 59) kmX12_rests_0_e1 (by decide +kernel)
theorem dX12_rests_60 : decode cX12_rests 60 = .ok (.getfield 50, 3) := rd_chunk (k := 0) (i := 60) kmX12_rests_0_e1 (by decide +kernel)
theorem dX12_rests_63 : decode cX12_rests 63 = .ok (.iload_n 1, 1) := rd_chunk (k := 0) (i := 63) kmX12_rests_0_e1 (by decide +kernel)
abbrev mX12_rests_64_e1 : ByteArray := .mk #[0x2e, 0xa4, 0x00, 0x06, 0x10, 0xfb, 0xac, 0x2a, 0xb4, 0x00, 0x32, 0x1b, 0x5c, 0x2e, 0x15, 0x04, 0x64, 0x4f, 0x2a, 0xb4, 0x00, 0x2f, 0x1b, 0x2a, 0xb4, 0x00, 0x1d, 0x1b, 0x2e, 0x2a, 0xb4, 0x00, 0x2f, 0x1b, 0x2e, 0x1c, 0x60, 0xb8, 0x00, 0xf0, 0x4f, 0x1d, 0x02, 0x9f, 0x00, 0x0b, 0x2a, 0x1d, 0x15, 0x04, 0x04, 0xb6, 0x01, 0x27, 0x15, 0x04, 0xac]
theorem kmX12_rests_64_e1 : CK cX12_rests 64 mX12_rests_64_e1 := ck_of (by decide +kernel)
theorem dX12_rests_64 : decode cX12_rests 64 = .ok (.iaload, 1) := rd_chunk (k := 64) (i := 0) kmX12_rests_64_e1 (by decide +kernel)
theorem dX12_rests_65 : decode cX12_rests 65 = .ok (.if_icmp .le 6, 3) := rd_chunk (k := 64) (i := 1) kmX12_rests_64_e1 (by decide +kernel)
theorem dX12_rests_68 : decode cX12_rests 68 = .ok (.bipush (-5), 2) := rd_chunk (k := 64) (i := 4) kmX12_rests_64_e1 (by decide +kernel)
theorem dX12_rests_70 : decode cX12_rests 70 = .ok (.ireturn, 1) := rd_chunk (k := 64) (i := 6) kmX12_rests_64_e1 (by decide +kernel)
theorem dX12_rests_71 : decode cX12_rests 71 = .ok (.aload_n 0, 1) := rd_chunk (k := 64) (i := 7) kmX12_rests_64_e1 (by decide +kernel)
theorem dX12_rests_72 : decode cX12_rests 72 = .ok (.getfield 50, 3) := rd_chunk (k := 64) (i := 8) kmX12_rests_64_e1 (by decide +kernel)
theorem dX12_rests_75 : decode cX12_rests 75 = .ok (.iload_n 1, 1) := rd_chunk (k := 64) (i := 11) kmX12_rests_64_e1 (by decide +kernel)
theorem dX12_rests_76 : decode cX12_rests 76 = .ok (.dup2, 1) := rd_chunk (k := 64) (i := 12) kmX12_rests_64_e1 (by decide +kernel)
theorem dX12_rests_77 : decode cX12_rests 77 = .ok (.iaload, 1) := rd_chunk (k := 64) (i := 13) kmX12_rests_64_e1 (by decide +kernel)
theorem dX12_rests_78 : decode cX12_rests 78 = .ok (.iload 4, 2) := rd_chunk (k := 64) (i := 14) kmX12_rests_64_e1 (by decide +kernel)
theorem dX12_rests_80 : decode cX12_rests 80 = .ok (.isub, 1) := rd_chunk (k := 64) (i := 16) kmX12_rests_64_e1 (by decide +kernel)
theorem dX12_rests_81 : decode cX12_rests 81 = .ok (.iastore, 1) := rd_chunk (k := 64) (i := 17) kmX12_rests_64_e1 (by decide +kernel)
theorem dX12_rests_82 : decode cX12_rests 82 = .ok (.aload_n 0, 1) := rd_chunk (k := 64) (i := 18) kmX12_rests_64_e1 (by decide +kernel)
theorem dX12_rests_83 : decode cX12_rests 83 = .ok (.getfield 47, 3) := rd_chunk (k := 64) (i := 19) kmX12_rests_64_e1 (by decide +kernel)
theorem dX12_rests_86 : decode cX12_rests 86 = .ok (.iload_n 1, 1) := rd_chunk (k := 64) (i := 22) kmX12_rests_64_e1 (by decide +kernel)
theorem dX12_rests_87 : decode cX12_rests 87 = .ok (.aload_n 0, 1) := rd_chunk (k := 64) (i := 23) kmX12_rests_64_e1 (by decide +kernel)
theorem dX12_rests_88 : decode cX12_rests 88 = .ok (.getfield 29, 3) := rd_chunk (k := 64) (i := 24) kmX12_rests_64_e1 (by decide +kernel)
theorem dX12_rests_91 : decode cX12_rests 91 = .ok (.iload_n 1, 1) := rd_chunk (k := 64) (i := 27) kmX12_rests_64_e1 (by decide +kernel)
theorem dX12_rests_92 : decode cX12_rests 92 = .ok (.iaload, 1) := rd_chunk (k := 64) (i := 28) kmX12_rests_64_e1 (by decide +kernel)
theorem dX12_rests_93 : decode cX12_rests 93 = .ok (.aload_n 0, 1) := rd_chunk (k := 64) (i := 29) kmX12_rests_64_e1 (by decide +kernel)
theorem dX12_rests_94 : decode cX12_rests 94 = .ok (.getfield 47, 3) := rd_chunk (k := 64) (i := 30) kmX12_rests_64_e1 (by decide +kernel)
theorem dX12_rests_97 : decode cX12_rests 97 = .ok (.iload_n 1, 1) := rd_chunk (k := 64) (i := 33) kmX12_rests_64_e1 (by decide +kernel)
theorem dX12_rests_98 : decode cX12_rests 98 = .ok (.iaload, 1) := rd_chunk (k := 64) (i := 34) kmX12_rests_64_e1 (by decide +kernel)
theorem dX12_rests_99 : decode cX12_rests 99 = .ok (.iload_n 2, 1) := rd_chunk (k := 64) (i := 35) kmX12_rests_64_e1 (by decide +kernel)
theorem dX12_rests_100 : decode cX12_rests 100 = .ok (.iadd, 1) := rd_chunk (k := 64) (i := 36) kmX12_rests_64_e1 (by decide +kernel)
theorem dX12_rests_101 : decode cX12_rests 101 = .ok (.invokestatic 240, 3) := rd_chunk (k := 64) (i := 37) kmX12_rests_64_e1 (by decide +kernel)
theorem dX12_rests_104 : decode cX12_rests 104 = .ok (.iastore, 1) := rd_chunk (k := 64) (i := 40) kmX12_rests_64_e1 (by decide +kernel)
theorem dX12_rests_105 : decode cX12_rests 105 = .ok (.iload_n 3, 1) := rd_chunk (k := 64) (i := 41) kmX12_rests_64_e1 (by decide +kernel)
theorem dX12_rests_106 : decode cX12_rests 106 = .ok (.iconst (-1), 1) := rd_chunk (k := 64) (i := 42) kmX12_rests_64_e1 (by decide +kernel)
theorem dX12_rests_107 : decode cX12_rests 107 = .ok (.if_icmp .eq 11, 3) := rd_chunk (k := 64) (i := 43) kmX12_rests_64_e1 (by decide +kernel)
theorem dX12_rests_110 : decode cX12_rests 110 = .ok (.aload_n 0, 1) := rd_chunk (k := 64) (i := 46) kmX12_rests_64_e1 (by decide +kernel)
theorem dX12_rests_111 : decode cX12_rests 111 = .ok (.iload_n 3, 1) := rd_chunk (k := 64) (i := 47) kmX12_rests_64_e1 (by decide +kernel)
theorem dX12_rests_112 : decode cX12_rests 112 = .ok (.iload 4, 2) := rd_chunk (k := 64) (i := 48) kmX12_rests_64_e1 (by decide +kernel)
theorem dX12_rests_114 : decode cX12_rests 114 = .ok (.iconst 1, 1) := rd_chunk (k := 64) (i := 50) kmX12_rests_64_e1 (by decide +kernel)
theorem dX12_rests_115 : decode cX12_rests 115 = .ok (.invokevirtual 295, 3) := rd_chunk (k := 64) (i := 51) kmX12_rests_64_e1 (by decide +kernel)
theorem dX12_rests_118 : decode cX12_rests 118 = .ok (.iload 4, 2) := rd_chunk (k := 64) (i := 54) kmX12_rests_64_e1 (by decide +kernel)
theorem dX12_rests_120 : decode cX12_rests 120 = .ok (.ireturn, 1) := rd_chunk (k := 64) (i := 56) kmX12_rests_64_e1 (by decide +kernel)
theorem dX12_returns_0 : decode cX12_returns 0 = .ok (.aload_n 0, 1) := by decide +kernel
theorem dX12_returns_1 : decode cX12_returns 1 = .ok (.iconst 0, 1) := by decide +kernel
theorem dX12_returns_2 : decode cX12_returns 2 = .ok (.putfield 140, 3) := by decide +kernel
theorem dX12_returns_5 : decode cX12_returns 5 = .ok (.aload_n 0, 1) := by decide +kernel
theorem dX12_returns_6 : decode cX12_returns 6 = .ok (.iload_n 1, 1) := by decide +kernel
theorem dX12_returns_7 : decode cX12_returns 7 = .ok (.invokevirtual 263, 3) := by decide +kernel
theorem dX12_returns_10 : decode cX12_returns 10 = .ok (.ifCond .ne 5, 3) := by decide +kernel
theorem dX12_returns_13 : decode cX12_returns 13 = .ok (.iconst (-1), 1) := by decide +kernel
theorem dX12_returns_14 : decode cX12_returns 14 = .ok (.ireturn, 1) := by decide +kernel
theorem dX12_returns_15 : decode cX12_returns 15 = .ok (.aload_n 0, 1) := by decide +kernel
theorem dX12_returns_16 : decode cX12_returns 16 = .ok (.getfield 44, 3) := by decide +kernel
theorem dX12_returns_19 : decode cX12_returns 19 = .ok (.iload_n 1, 1) := by decide +kernel
theorem dX12_returns_20 : decode cX12_returns 20 = .ok (.iaload, 1) := by decide +kernel
theorem dX12_returns_21 : decode cX12_returns 21 = .ok (.istore_n 2, 1) := by decide +kernel
theorem dX12_returns_22 : decode cX12_returns 22 = .ok (.aload_n 0, 1) := by decide +kernel
theorem dX12_returns_23 : decode cX12_returns 23 = .ok (.getfield 44, 3) := by decide +kernel
theorem dX12_returns_26 : decode cX12_returns 26 = .ok (.iload_n 1, 1) := by decide +kernel
theorem dX12_returns_27 : decode cX12_returns 27 = .ok (.iconst (-1), 1) := by decide +kernel
theorem dX12_returns_28 : decode cX12_returns 28 = .ok (.iastore, 1) := by decide +kernel
theorem dX12_returns_29 : decode cX12_returns 29 = .ok (.aload_n 0, 1) := by decide +kernel
theorem dX12_returns_30 : decode cX12_returns 30 = .ok (.getfield 47, 3) := by decide +kernel
theorem dX12_returns_33 : decode cX12_returns 33 = .ok (.iload_n 1, 1) := by decide +kernel
theorem dX12_returns_34 : decode cX12_returns 34 = .ok (.aload_n 0, 1) := by decide +kernel
theorem dX12_returns_35 : decode cX12_returns 35 = .ok (.getfield 29, 3) := by decide +kernel
theorem dX12_returns_38 : decode cX12_returns 38 = .ok (.iload_n 1, 1) := by decide +kernel
theorem dX12_returns_39 : decode cX12_returns 39 = .ok (.iaload, 1) := by decide +kernel
theorem dX12_returns_40 : decode cX12_returns 40 = .ok (.iastore, 1) := by decide +kernel
theorem dX12_returns_41 : decode cX12_returns 41 = .ok (.iload_n 2, 1) := by decide +kernel
theorem dX12_returns_42 : decode cX12_returns 42 = .ok (.ireturn, 1) := by decide +kernel
theorem dX12_earned_0 : decode cX12_earned 0 = .ok (.aload_n 0, 1) := by decide +kernel
theorem dX12_earned_1 : decode cX12_earned 1 = .ok (.iconst 0, 1) := by decide +kernel
theorem dX12_earned_2 : decode cX12_earned 2 = .ok (.putfield 140, 3) := by decide +kernel
theorem dX12_earned_5 : decode cX12_earned 5 = .ok (.iload_n 1, 1) := by decide +kernel
theorem dX12_earned_6 : decode cX12_earned 6 = .ok (.invokestatic 256, 3) := by decide +kernel
theorem dX12_earned_9 : decode cX12_earned 9 = .ok (.ifCond .ne 5, 3) := by decide +kernel
theorem dX12_earned_12 : decode cX12_earned 12 = .ok (.iconst (-1), 1) := by decide +kernel
theorem dX12_earned_13 : decode cX12_earned 13 = .ok (.ireturn, 1) := by decide +kernel
theorem dX12_earned_14 : decode cX12_earned 14 = .ok (.iconst 0, 1) := by decide +kernel
theorem dX12_earned_15 : decode cX12_earned 15 = .ok (.istore_n 2, 1) := by decide +kernel
theorem dX12_earned_16 : decode cX12_earned 16 = .ok (.iconst 0, 1) := by decide +kernel
theorem dX12_earned_17 : decode cX12_earned 17 = .ok (.istore_n 3, 1) := by decide +kernel
theorem dX12_earned_18 : decode cX12_earned 18 = .ok (.iload_n 3, 1) := by decide +kernel
theorem dX12_earned_19 : decode cX12_earned 19 = .ok (.aload_n 0, 1) := by decide +kernel
theorem dX12_earned_20 : decode cX12_earned 20 = .ok (.getfield 146, 3) := by decide +kernel
theorem dX12_earned_23 : decode cX12_earned 23 = .ok (.if_icmp .ge 23, 3) := by decide +kernel
theorem dX12_earned_26 : decode cX12_earned 26 = .ok (.iload_n 2, 1) := by decide +kernel
theorem dX12_earned_27 : decode cX12_earned 27 = .ok (.aload_n 0, 1) := by decide +kernel
theorem dX12_earned_28 : decode cX12_earned 28 = .ok (.getfield 23, 3) := by decide +kernel
theorem dX12_earned_31 : decode cX12_earned 31 = .ok (.bipush 8, 2) := by decide +kernel
theorem dX12_earned_33 : decode cX12_earned 33 = .ok (.iload_n 3, 1) := by decide +kernel
theorem dX12_earned_34 : decode cX12_earned 34 = .ok (.imul, 1) := by decide +kernel
theorem dX12_earned_35 : decode cX12_earned 35 = .ok (.iload_n 1, 1) := by decide +kernel
theorem dX12_earned_36 : decode cX12_earned 36 = .ok (.iadd, 1) := by decide +kernel
theorem dX12_earned_37 : decode cX12_earned 37 = .ok (.iaload, 1) := by decide +kernel
theorem dX12_earned_38 : decode cX12_earned 38 = .ok (.iadd, 1) := by decide +kernel
theorem dX12_earned_39 : decode cX12_earned 39 = .ok (.istore_n 2, 1) := by decide +kernel
theorem dX12_earned_40 : decode cX12_earned 40 = .ok (.iinc 3 1, 3) := by decide +kernel
theorem dX12_earned_43 : decode cX12_earned 43 = .ok (.goto (-25), 3) := by decide +kernel
theorem dX12_earned_46 : decode cX12_earned 46 = .ok (.aload_n 0, 1) := by decide +kernel
theorem dX12_earned_47 : decode cX12_earned 47 = .ok (.iconst 0, 1) := by decide +kernel
theorem dX12_earned_48 : decode cX12_earned 48 = .ok (.putfield 143, 3) := by decide +kernel
theorem dX12_earned_51 : decode cX12_earned 51 = .ok (.aload_n 0, 1) := by decide +kernel
theorem dX12_earned_52 : decode cX12_earned 52 = .ok (.iload_n 2, 1) := by decide +kernel
theorem dX12_earned_53 : decode cX12_earned 53 = .ok (.i2l, 1) := by decide +kernel
theorem dX12_earned_54 : decode cX12_earned 54 = .ok (.invokevirtual 276, 3) := by decide +kernel
theorem dX12_earned_57 : decode cX12_earned 57 = .ok (.aload_n 0, 1) := by decide +kernel
theorem dX12_earned_58 : decode cX12_earned 58 = .ok (.getfield 53, 3) := by decide +kernel
theorem dX12_earned_61 : decode cX12_earned 61 = .ok (.iload_n 1, 1) := by decide +kernel
theorem dX12_earned_62 : decode cX12_earned 62 = .ok (.iaload, 1) := by decide +kernel
theorem dX12_earned_63 : decode cX12_earned 63 = .ok (.ireturn, 1) := by decide +kernel
abbrev mX12_layMoves_0_e1 : ByteArray := .mk #[0x02, 0x3d, 0x1c, 0x2a, 0xb4, 0x00, 0x92, 0xa2, 0x00, 0x7f, 0x04, 0x3e, 0x1d, 0x06, 0xa3, 0x00, 0x72, 0x06, 0x1c, 0x04, 0x60, 0x68, 0x1d, 0x60, 0x04, 0x64, 0x36, 0x04, 0x1c, 0x1d, 0x60, 0x36, 0x05, 0x2a, 0xb4, 0x00, 0x55, 0x15, 0x04, 0x13, 0x01, 0x2b, 0x4f, 0x1d, 0x2a, 0xb4, 0x00, 0x23, 0x1b, 0x2e, 0xa3, 0x00, 0x48, 0x15, 0x05, 0x2a, 0xb4, 0x00, 0x92, 0xa2, 0x00, 0x3f, 0x15, 0x05, 0x2a, 0xb4, 0x00, 0x5b, 0x9f, 0x00, 0x36, 0x2a]
theorem kmX12_layMoves_0_e1 : CK cX12_layMoves 0 mX12_layMoves_0_e1 := ck_of (by decide +kernel)
theorem dX12_layMoves_0 : decode cX12_layMoves 0 = .ok (.iconst (-1), 1) := rd_chunk (k := 0) (i := 0) kmX12_layMoves_0_e1 (by decide +kernel)
theorem dX12_layMoves_1 : decode cX12_layMoves 1 = .ok (.istore_n 2, 1) := rd_chunk (k := 0) (i := 1) kmX12_layMoves_0_e1 (by decide +kernel)
theorem dX12_layMoves_2 : decode cX12_layMoves 2 = .ok (.iload_n 2, 1) := rd_chunk (k := 0) (i := 2) kmX12_layMoves_0_e1 (by decide +kernel)
theorem dX12_layMoves_3 : decode cX12_layMoves 3 = .ok (.aload_n 0, 1) := rd_chunk (k := 0) (i := 3) kmX12_layMoves_0_e1 (by decide +kernel)
theorem dX12_layMoves_4 : decode cX12_layMoves 4 = .ok (.getfield 146, 3) := rd_chunk (k := 0) (i := 4) kmX12_layMoves_0_e1 (by decide +kernel)
theorem dX12_layMoves_7 : decode cX12_layMoves 7 = .ok (.if_icmp .ge 127, 3) := rd_chunk (k := 0) (i := 7) kmX12_layMoves_0_e1 (by decide +kernel)
theorem dX12_layMoves_10 : decode cX12_layMoves 10 = .ok (.iconst 1, 1) := rd_chunk (k := 0) (i := 10) kmX12_layMoves_0_e1 (by decide +kernel)
theorem dX12_layMoves_11 : decode cX12_layMoves 11 = .ok (.istore_n 3, 1) := rd_chunk (k := 0) (i := 11) kmX12_layMoves_0_e1 (by decide +kernel)
theorem dX12_layMoves_12 : decode cX12_layMoves 12 = .ok (.iload_n 3, 1) := rd_chunk (k := 0) (i := 12) kmX12_layMoves_0_e1 (by decide +kernel)
theorem dX12_layMoves_13 : decode cX12_layMoves 13 = .ok (.iconst 3, 1) := rd_chunk (k := 0) (i := 13) kmX12_layMoves_0_e1 (by decide +kernel)
theorem dX12_layMoves_14 : decode cX12_layMoves 14 = .ok (.if_icmp .gt 114, 3) := rd_chunk (k := 0) (i := 14) kmX12_layMoves_0_e1 (by decide +kernel)
theorem dX12_layMoves_17 : decode cX12_layMoves 17 = .ok (.iconst 3, 1) := rd_chunk (k := 0) (i := 17) kmX12_layMoves_0_e1 (by decide +kernel)
theorem dX12_layMoves_18 : decode cX12_layMoves 18 = .ok (.iload_n 2, 1) := rd_chunk (k := 0) (i := 18) kmX12_layMoves_0_e1 (by decide +kernel)
theorem dX12_layMoves_19 : decode cX12_layMoves 19 = .ok (.iconst 1, 1) := rd_chunk (k := 0) (i := 19) kmX12_layMoves_0_e1 (by decide +kernel)
theorem dX12_layMoves_20 : decode cX12_layMoves 20 = .ok (.iadd, 1) := rd_chunk (k := 0) (i := 20) kmX12_layMoves_0_e1 (by decide +kernel)
theorem dX12_layMoves_21 : decode cX12_layMoves 21 = .ok (.imul, 1) := rd_chunk (k := 0) (i := 21) kmX12_layMoves_0_e1 (by decide +kernel)
theorem dX12_layMoves_22 : decode cX12_layMoves 22 = .ok (.iload_n 3, 1) := rd_chunk (k := 0) (i := 22) kmX12_layMoves_0_e1 (by decide +kernel)
theorem dX12_layMoves_23 : decode cX12_layMoves 23 = .ok (.iadd, 1) := rd_chunk (k := 0) (i := 23) kmX12_layMoves_0_e1 (by decide +kernel)
theorem dX12_layMoves_24 : decode cX12_layMoves 24 = .ok (.iconst 1, 1) := rd_chunk (k := 0) (i := 24) kmX12_layMoves_0_e1 (by decide +kernel)
theorem dX12_layMoves_25 : decode cX12_layMoves 25 = .ok (.isub, 1) := rd_chunk (k := 0) (i := 25) kmX12_layMoves_0_e1 (by decide +kernel)
theorem dX12_layMoves_26 : decode cX12_layMoves 26 = .ok (.istore 4, 2) := rd_chunk (k := 0) (i := 26) kmX12_layMoves_0_e1 (by decide +kernel)
theorem dX12_layMoves_28 : decode cX12_layMoves 28 = .ok (.iload_n 2, 1) := rd_chunk (k := 0) (i := 28) kmX12_layMoves_0_e1 (by decide +kernel)
theorem dX12_layMoves_29 : decode cX12_layMoves 29 = .ok (.iload_n 3, 1) := rd_chunk (k := 0) (i := 29) kmX12_layMoves_0_e1 (by decide +kernel)
theorem dX12_layMoves_30 : decode cX12_layMoves 30 = .ok (.iadd, 1) := rd_chunk (k := 0) (i := 30) kmX12_layMoves_0_e1 (by decide +kernel)
theorem dX12_layMoves_31 : decode cX12_layMoves 31 = .ok (.istore 5, 2) := rd_chunk (k := 0) (i := 31) kmX12_layMoves_0_e1 (by decide +kernel)
theorem dX12_layMoves_33 : decode cX12_layMoves 33 = .ok (.aload_n 0, 1) := rd_chunk (k := 0) (i := 33) kmX12_layMoves_0_e1 (by decide +kernel)
theorem dX12_layMoves_34 : decode cX12_layMoves 34 = .ok (.getfield 85, 3) := rd_chunk (k := 0) (i := 34) kmX12_layMoves_0_e1 (by decide +kernel)
theorem dX12_layMoves_37 : decode cX12_layMoves 37 = .ok (.iload 4, 2) := rd_chunk (k := 0) (i := 37) kmX12_layMoves_0_e1 (by decide +kernel)
theorem dX12_layMoves_39 : decode cX12_layMoves 39 = .ok (.ldc_w 299, 3) := rd_chunk (k := 0) (i := 39) kmX12_layMoves_0_e1 (by decide +kernel)
theorem dX12_layMoves_42 : decode cX12_layMoves 42 = .ok (.iastore, 1) := rd_chunk (k := 0) (i := 42) kmX12_layMoves_0_e1 (by decide +kernel)
theorem dX12_layMoves_43 : decode cX12_layMoves 43 = .ok (.iload_n 3, 1) := rd_chunk (k := 0) (i := 43) kmX12_layMoves_0_e1 (by decide +kernel)
theorem dX12_layMoves_44 : decode cX12_layMoves 44 = .ok (.aload_n 0, 1) := rd_chunk (k := 0) (i := 44) kmX12_layMoves_0_e1 (by decide +kernel)
theorem dX12_layMoves_45 : decode cX12_layMoves 45 = .ok (.getfield 35, 3) := rd_chunk (k := 0) (i := 45) kmX12_layMoves_0_e1 (by decide +kernel)
theorem dX12_layMoves_48 : decode cX12_layMoves 48 = .ok (.iload_n 1, 1) := rd_chunk (k := 0) (i := 48) kmX12_layMoves_0_e1 (by decide +kernel)
theorem dX12_layMoves_49 : decode cX12_layMoves 49 = .ok (.iaload, 1) := rd_chunk (k := 0) (i := 49) kmX12_layMoves_0_e1 (by decide +kernel)
theorem dX12_layMoves_50 : decode cX12_layMoves 50 = .ok (.if_icmp .gt 72, 3) := rd_chunk (k := 0) (i := 50) kmX12_layMoves_0_e1 (by decide +kernel)
theorem dX12_layMoves_53 : decode cX12_layMoves 53 = .ok (.iload 5, 2) := rd_chunk (k := 0) (i := 53) kmX12_layMoves_0_e1 (by decide +kernel)
theorem dX12_layMoves_55 : decode cX12_layMoves 55 = .ok (.aload_n 0, 1) := rd_chunk (k := 0) (i := 55) kmX12_layMoves_0_e1 (by decide +kernel)
theorem dX12_layMoves_56 : decode cX12_layMoves 56 = .ok (.getfield 146, 3) := rd_chunk (k := 0) (i := 56) kmX12_layMoves_0_e1 (by decide +kernel)
theorem dX12_layMoves_59 : decode cX12_layMoves 59 = .ok (.if_icmp .ge 63, 3) := rd_chunk (k := 0) (i := 59) kmX12_layMoves_0_e1 (by decide +kernel)
theorem dX12_layMoves_62 : decode cX12_layMoves 62 = .ok (.iload 5, 2) := rd_chunk (k := 0) (i := 62) kmX12_layMoves_0_e1 (by decide +kernel)
abbrev mX12_layMoves_64_e1 : ByteArray := .mk #[0x2a, 0xb4, 0x00, 0x5b, 0x9f, 0x00, 0x36, 0x2a, 0xb4, 0x00, 0x29, 0x1b, 0x2e, 0x2a, 0x15, 0x05, 0xb6, 0x00, 0xe7, 0xb8, 0x01, 0x23, 0x99, 0x00, 0x06, 0xa7, 0x00, 0x21, 0x2a, 0xb4, 0x00, 0x55, 0x15, 0x04, 0x2a, 0x1b, 0x1c, 0x15, 0x05, 0xb6, 0x01, 0x18, 0x4f, 0x2a, 0xb4, 0x00, 0x58, 0x15, 0x04, 0x2a, 0x1b, 0x1c, 0x15, 0x05, 0xb6, 0x01, 0x11, 0x4f, 0x84, 0x03, 0x01, 0xa7, 0xff, 0x8f, 0x84, 0x02, 0x01, 0xa7, 0xff, 0x7f, 0xb1]
theorem kmX12_layMoves_64_e1 : CK cX12_layMoves 64 mX12_layMoves_64_e1 := ck_of (by decide +kernel)
theorem dX12_layMoves_64 : decode cX12_layMoves 64 = .ok (.aload_n 0, 1) := rd_chunk (k := 64) (i := 0) kmX12_layMoves_64_e1 (by decide +kernel)
theorem dX12_layMoves_65 : decode cX12_layMoves 65 = .ok (.getfield 91, 3) := rd_chunk (k := 64) (i := 1) kmX12_layMoves_64_e1 (by decide +kernel)
theorem dX12_layMoves_68 : decode cX12_layMoves 68 = .ok (.if_icmp .eq 54, 3) := rd_chunk (k := 64) (i := 4) kmX12_layMoves_64_e1 (by decide +kernel)
theorem dX12_layMoves_71 : decode cX12_layMoves 71 = .ok (.aload_n 0, 1) := rd_chunk (k := 64) (i := 7) kmX12_layMoves_64_e1 (by decide +kernel)
theorem dX12_layMoves_72 : decode cX12_layMoves 72 = .ok (.getfield 41, 3) := rd_chunk (k := 64) (i := 8) kmX12_layMoves_64_e1 (by decide +kernel)
theorem dX12_layMoves_75 : decode cX12_layMoves 75 = .ok (.iload_n 1, 1) := rd_chunk (k := 64) (i := 11) kmX12_layMoves_64_e1 (by decide +kernel)
theorem dX12_layMoves_76 : decode cX12_layMoves 76 = .ok (.iaload, 1) := rd_chunk (k := 64) (i := 12) kmX12_layMoves_64_e1 (by decide +kernel)
theorem dX12_layMoves_77 : decode cX12_layMoves 77 = .ok (.aload_n 0, 1) := rd_chunk (k := 64) (i := 13) kmX12_layMoves_64_e1 (by decide +kernel)
theorem dX12_layMoves_78 : decode cX12_layMoves 78 = .ok (.iload 5, 2) := rd_chunk (k := 64) (i := 14) kmX12_layMoves_64_e1 (by decide +kernel)
theorem dX12_layMoves_80 : decode cX12_layMoves 80 = .ok (.invokevirtual 231, 3) := rd_chunk (k := 64) (i := 16) kmX12_layMoves_64_e1 (by decide +kernel)
theorem dX12_layMoves_83 : decode cX12_layMoves 83 = .ok (.invokestatic 291, 3) := rd_chunk (k := 64) (i := 19) kmX12_layMoves_64_e1 (by decide +kernel)
theorem dX12_layMoves_86 : decode cX12_layMoves 86 = .ok (.ifCond .eq 6, 3) := rd_chunk (k := 64) (i := 22) kmX12_layMoves_64_e1 (by decide +kernel)
theorem dX12_layMoves_89 : decode cX12_layMoves 89 = .ok (.goto 33, 3) := rd_chunk (k := 64) (i := 25) kmX12_layMoves_64_e1 (by decide +kernel)
theorem dX12_layMoves_92 : decode cX12_layMoves 92 = .ok (.aload_n 0, 1) := rd_chunk (k := 64) (i := 28) kmX12_layMoves_64_e1 (by decide +kernel)
theorem dX12_layMoves_93 : decode cX12_layMoves 93 = .ok (.getfield 85, 3) := rd_chunk (k := 64) (i := 29) kmX12_layMoves_64_e1 (by decide +kernel)
theorem dX12_layMoves_96 : decode cX12_layMoves 96 = .ok (.iload 4, 2) := rd_chunk (k := 64) (i := 32) kmX12_layMoves_64_e1 (by decide +kernel)
theorem dX12_layMoves_98 : decode cX12_layMoves 98 = .ok (.aload_n 0, 1) := rd_chunk (k := 64) (i := 34) kmX12_layMoves_64_e1 (by decide +kernel)
theorem dX12_layMoves_99 : decode cX12_layMoves 99 = .ok (.iload_n 1, 1) := rd_chunk (k := 64) (i := 35) kmX12_layMoves_64_e1 (by decide +kernel)
theorem dX12_layMoves_100 : decode cX12_layMoves 100 = .ok (.iload_n 2, 1) := rd_chunk (k := 64) (i := 36) kmX12_layMoves_64_e1 (by decide +kernel)
theorem dX12_layMoves_101 : decode cX12_layMoves 101 = .ok (.iload 5, 2) := rd_chunk (k := 64) (i := 37) kmX12_layMoves_64_e1 (by decide +kernel)
theorem dX12_layMoves_103 : decode cX12_layMoves 103 = .ok (.invokevirtual 280, 3) := rd_chunk (k := 64) (i := 39) kmX12_layMoves_64_e1 (by decide +kernel)
theorem dX12_layMoves_106 : decode cX12_layMoves 106 = .ok (.iastore, 1) := rd_chunk (k := 64) (i := 42) kmX12_layMoves_64_e1 (by decide +kernel)
theorem dX12_layMoves_107 : decode cX12_layMoves 107 = .ok (.aload_n 0, 1) := rd_chunk (k := 64) (i := 43) kmX12_layMoves_64_e1 (by decide +kernel)
theorem dX12_layMoves_108 : decode cX12_layMoves 108 = .ok (.getfield 88, 3) := rd_chunk (k := 64) (i := 44) kmX12_layMoves_64_e1 (by decide +kernel)
theorem dX12_layMoves_111 : decode cX12_layMoves 111 = .ok (.iload 4, 2) := rd_chunk (k := 64) (i := 47) kmX12_layMoves_64_e1 (by decide +kernel)
theorem dX12_layMoves_113 : decode cX12_layMoves 113 = .ok (.aload_n 0, 1) := rd_chunk (k := 64) (i := 49) kmX12_layMoves_64_e1 (by decide +kernel)
theorem dX12_layMoves_114 : decode cX12_layMoves 114 = .ok (.iload_n 1, 1) := rd_chunk (k := 64) (i := 50) kmX12_layMoves_64_e1 (by decide +kernel)
theorem dX12_layMoves_115 : decode cX12_layMoves 115 = .ok (.iload_n 2, 1) := rd_chunk (k := 64) (i := 51) kmX12_layMoves_64_e1 (by decide +kernel)
theorem dX12_layMoves_116 : decode cX12_layMoves 116 = .ok (.iload 5, 2) := rd_chunk (k := 64) (i := 52) kmX12_layMoves_64_e1 (by decide +kernel)
theorem dX12_layMoves_118 : decode cX12_layMoves 118 = .ok (.invokevirtual 273, 3) := rd_chunk (k := 64) (i := 54) kmX12_layMoves_64_e1 (by decide +kernel)
theorem dX12_layMoves_121 : decode cX12_layMoves 121 = .ok (.iastore, 1) := rd_chunk (k := 64) (i := 57) kmX12_layMoves_64_e1 (by decide +kernel)
theorem dX12_layMoves_122 : decode cX12_layMoves 122 = .ok (.iinc 3 1, 3) := rd_chunk (k := 64) (i := 58) kmX12_layMoves_64_e1 (by decide +kernel)
theorem dX12_layMoves_125 : decode cX12_layMoves 125 = .ok (.goto (-113), 3) := rd_chunk (k := 64) (i := 61) kmX12_layMoves_64_e1 (by decide +kernel)
abbrev mX12_layMoves_128_e1 : ByteArray := .mk #[0x84, 0x02, 0x01, 0xa7, 0xff, 0x7f, 0xb1]
theorem kmX12_layMoves_128_e1 : CK cX12_layMoves 128 mX12_layMoves_128_e1 := ck_of (by decide +kernel)
theorem dX12_layMoves_128 : decode cX12_layMoves 128 = .ok (.iinc 2 1, 3) := rd_chunk (k := 128) (i := 0) kmX12_layMoves_128_e1 (by decide +kernel)
theorem dX12_layMoves_131 : decode cX12_layMoves 131 = .ok (.goto (-129), 3) := rd_chunk (k := 128) (i := 3) kmX12_layMoves_128_e1 (by decide +kernel)
theorem dX12_layMoves_134 : decode cX12_layMoves 134 = .ok (.return_, 1) := rd_chunk (k := 128) (i := 6) kmX12_layMoves_128_e1 (by decide +kernel)
abbrev mX12_findByEffort_0_e1 : ByteArray := .mk #[0x2a, 0xb4, 0x00, 0x92, 0x04, 0x64, 0x3d, 0x1c, 0x02, 0xa1, 0x00, 0xac, 0x03, 0x3e, 0x1d, 0x1b, 0xa3, 0x00, 0x9f, 0x1c, 0x2a, 0xb4, 0x00, 0x92, 0x04, 0x64, 0xa0, 0x00, 0x0b, 0x1d, 0x9a, 0x00, 0x07, 0x03, 0xa7, 0x00, 0x06, 0x13, 0x01, 0x2b, 0x36, 0x04, 0x04, 0x36, 0x05, 0x15, 0x05, 0x06, 0xa3, 0x00, 0x69, 0x06, 0x1c, 0x04, 0x60, 0x68, 0x15, 0x05, 0x60, 0x04, 0x64, 0x36, 0x06, 0x2a, 0xb4, 0x00, 0x55, 0x15, 0x06, 0x2e, 0x13, 0x01]
theorem kmX12_findByEffort_0_e1 : CK cX12_findByEffort 0 mX12_findByEffort_0_e1 := ck_of (by decide +kernel)
theorem dX12_findByEffort_0 : decode cX12_findByEffort 0 = .ok (.aload_n 0, 1) := rd_chunk (k := 0) (i := 0) kmX12_findByEffort_0_e1 (by decide +kernel)
theorem dX12_findByEffort_1 : decode cX12_findByEffort 1 = .ok (.getfield 146, 3) := rd_chunk (k := 0) (i := 1) kmX12_findByEffort_0_e1 (by decide +kernel)
theorem dX12_findByEffort_4 : decode cX12_findByEffort 4 = .ok (.iconst 1, 1) := rd_chunk (k := 0) (i := 4) kmX12_findByEffort_0_e1 (by decide +kernel)
theorem dX12_findByEffort_5 : decode cX12_findByEffort 5 = .ok (.isub, 1) := rd_chunk (k := 0) (i := 5) kmX12_findByEffort_0_e1 (by decide +kernel)
theorem dX12_findByEffort_6 : decode cX12_findByEffort 6 = .ok (.istore_n 2, 1) := rd_chunk (k := 0) (i := 6) kmX12_findByEffort_0_e1 (by decide +kernel)
theorem dX12_findByEffort_7 : decode cX12_findByEffort 7 = .ok (.iload_n 2, 1) := rd_chunk (k := 0) (i := 7) kmX12_findByEffort_0_e1 (by decide +kernel)
theorem dX12_findByEffort_8 : decode cX12_findByEffort 8 = .ok (.iconst (-1), 1) := rd_chunk (k := 0) (i := 8) kmX12_findByEffort_0_e1 (by decide +kernel)
theorem dX12_findByEffort_9 : decode cX12_findByEffort 9 = .ok (.if_icmp .lt 172, 3) := rd_chunk (k := 0) (i := 9) kmX12_findByEffort_0_e1 (by decide +kernel)
theorem dX12_findByEffort_12 : decode cX12_findByEffort 12 = .ok (.iconst 0, 1) := rd_chunk (k := 0) (i := 12) kmX12_findByEffort_0_e1 (by decide +kernel)
theorem dX12_findByEffort_13 : decode cX12_findByEffort 13 = .ok (.istore_n 3, 1) := rd_chunk (k := 0) (i := 13) kmX12_findByEffort_0_e1 (by decide +kernel)
theorem dX12_findByEffort_14 : decode cX12_findByEffort 14 = .ok (.iload_n 3, 1) := rd_chunk (k := 0) (i := 14) kmX12_findByEffort_0_e1 (by decide +kernel)
theorem dX12_findByEffort_15 : decode cX12_findByEffort 15 = .ok (.iload_n 1, 1) := rd_chunk (k := 0) (i := 15) kmX12_findByEffort_0_e1 (by decide +kernel)
theorem dX12_findByEffort_16 : decode cX12_findByEffort 16 = .ok (.if_icmp .gt 159, 3) := rd_chunk (k := 0) (i := 16) kmX12_findByEffort_0_e1 (by decide +kernel)
theorem dX12_findByEffort_19 : decode cX12_findByEffort 19 = .ok (.iload_n 2, 1) := rd_chunk (k := 0) (i := 19) kmX12_findByEffort_0_e1 (by decide +kernel)
theorem dX12_findByEffort_20 : decode cX12_findByEffort 20 = .ok (.aload_n 0, 1) := rd_chunk (k := 0) (i := 20) kmX12_findByEffort_0_e1 (by decide +kernel)
theorem dX12_findByEffort_21 : decode cX12_findByEffort 21 = .ok (.getfield 146, 3) := rd_chunk (k := 0) (i := 21) kmX12_findByEffort_0_e1 (by decide +kernel)
theorem dX12_findByEffort_24 : decode cX12_findByEffort 24 = .ok (.iconst 1, 1) := rd_chunk (k := 0) (i := 24) kmX12_findByEffort_0_e1 (by decide +kernel)
theorem dX12_findByEffort_25 : decode cX12_findByEffort 25 = .ok (.isub, 1) := rd_chunk (k := 0) (i := 25) kmX12_findByEffort_0_e1 (by decide +kernel)
theorem dX12_findByEffort_26 : decode cX12_findByEffort 26 = .ok (.if_icmp .ne 11, 3) := rd_chunk (k := 0) (i := 26) kmX12_findByEffort_0_e1 (by decide +kernel)
theorem dX12_findByEffort_29 : decode cX12_findByEffort 29 = .ok (.iload_n 3, 1) := rd_chunk (k := 0) (i := 29) kmX12_findByEffort_0_e1 (by decide +kernel)
theorem dX12_findByEffort_30 : decode cX12_findByEffort 30 = .ok (.ifCond .ne 7, 3) := rd_chunk (k := 0) (i := 30) kmX12_findByEffort_0_e1 (by decide +kernel)
theorem dX12_findByEffort_33 : decode cX12_findByEffort 33 = .ok (.iconst 0, 1) := rd_chunk (k := 0) (i := 33) kmX12_findByEffort_0_e1 (by decide +kernel)
theorem dX12_findByEffort_34 : decode cX12_findByEffort 34 = .ok (.goto 6, 3) := rd_chunk (k := 0) (i := 34) kmX12_findByEffort_0_e1 (by decide +kernel)
theorem dX12_findByEffort_37 : decode cX12_findByEffort 37 = .ok (.ldc_w 299, 3) := rd_chunk (k := 0) (i := 37) kmX12_findByEffort_0_e1 (by decide +kernel)
theorem dX12_findByEffort_40 : decode cX12_findByEffort 40 = .ok (.istore 4, 2) := rd_chunk (k := 0) (i := 40) kmX12_findByEffort_0_e1 (by decide +kernel)
theorem dX12_findByEffort_42 : decode cX12_findByEffort 42 = .ok (.iconst 1, 1) := rd_chunk (k := 0) (i := 42) kmX12_findByEffort_0_e1 (by decide +kernel)
theorem dX12_findByEffort_43 : decode cX12_findByEffort 43 = .ok (.istore 5, 2) := rd_chunk (k := 0) (i := 43) kmX12_findByEffort_0_e1 (by decide +kernel)
theorem dX12_findByEffort_45 : decode cX12_findByEffort 45 = .ok (.iload 5, 2) := rd_chunk (k := 0) (i := 45) kmX12_findByEffort_0_e1 (by decide +kernel)
theorem dX12_findByEffort_47 : decode cX12_findByEffort 47 = .ok (.iconst 3, 1) := rd_chunk (k := 0) (i := 47) kmX12_findByEffort_0_e1 (by decide +kernel)
theorem dX12_findByEffort_48 : decode cX12_findByEffort 48 = .ok (.if_icmp .gt 105, 3) := rd_chunk (k := 0) (i := 48) kmX12_findByEffort_0_e1 (by decide +kernel)
theorem dX12_findByEffort_51 : decode cX12_findByEffort 51 = .ok (.iconst 3, 1) := rd_chunk (k := 0) (i := 51) kmX12_findByEffort_0_e1 (by decide +kernel)
theorem dX12_findByEffort_52 : decode cX12_findByEffort 52 = .ok (.iload_n 2, 1) := rd_chunk (k := 0) (i := 52) kmX12_findByEffort_0_e1 (by decide +kernel)
theorem dX12_findByEffort_53 : decode cX12_findByEffort 53 = .ok (.iconst 1, 1) := rd_chunk (k := 0) (i := 53) kmX12_findByEffort_0_e1 (by decide +kernel)
theorem dX12_findByEffort_54 : decode cX12_findByEffort 54 = .ok (.iadd, 1) := rd_chunk (k := 0) (i := 54) kmX12_findByEffort_0_e1 (by decide +kernel)
theorem dX12_findByEffort_55 : decode cX12_findByEffort 55 = .ok (.imul, 1) := rd_chunk (k := 0) (i := 55) kmX12_findByEffort_0_e1 (by decide +kernel)
theorem dX12_findByEffort_56 : decode cX12_findByEffort 56 = .ok (.iload 5, 2) := rd_chunk (k := 0) (i := 56) kmX12_findByEffort_0_e1 (by decide +kernel)
theorem dX12_findByEffort_58 : decode cX12_findByEffort 58 = .ok (.iadd, 1) := rd_chunk (k := 0) (i := 58) kmX12_findByEffort_0_e1 (by decide +kernel)
theorem dX12_findByEffort_59 : decode cX12_findByEffort 59 = .ok (.iconst 1, 1) := rd_chunk (k := 0) (i := 59) kmX12_findByEffort_0_e1 (by decide +kernel)
theorem dX12_findByEffort_60 : decode cX12_findByEffort 60 = .ok (.isub, 1) := rd_chunk (k := 0) (i := 60) kmX12_findByEffort_0_e1 (by decide +kernel)
theorem dX12_findByEffort_61 : decode cX12_findByEffort 61 = .ok (.istore 6, 2) := rd_chunk (k := 0) (i := 61) kmX12_findByEffort_0_e1 (by decide +kernel)
theorem dX12_findByEffort_63 : decode cX12_findByEffort 63 = .ok (.aload_n 0, 1) := rd_chunk (k := 0) (i := 63) kmX12_findByEffort_0_e1 (by decide +kernel)
abbrev mX12_findByEffort_64_e1 : ByteArray := .mk #[0xb4, 0x00, 0x55, 0x15, 0x06, 0x2e, 0x13, 0x01, 0x2b, 0x9f, 0x00, 0x4a, 0x2a, 0xb4, 0x00, 0x58, 0x15, 0x06, 0x2e, 0x1d, 0xa4, 0x00, 0x06, 0xa7, 0x00, 0x3c, 0x2a, 0xb4, 0x00, 0x5e, 0x11, 0x03, 0xe8, 0x1c, 0x15, 0x05, 0x60, 0x04, 0x60, 0x68, 0x1d, 0x60, 0x2a, 0xb4, 0x00, 0x58, 0x15, 0x06, 0x2e, 0x64, 0x2e, 0x36, 0x07, 0x15, 0x07, 0x13, 0x01, 0x2b, 0x9f, 0x00, 0x19, 0x15, 0x04, 0x15, 0x07, 0x10, 0x64, 0x2a, 0xb4, 0x00, 0x55, 0x15]
theorem kmX12_findByEffort_64_e1 : CK cX12_findByEffort 64 mX12_findByEffort_64_e1 := ck_of (by decide +kernel)
theorem dX12_findByEffort_64 : decode cX12_findByEffort 64 = .ok (.getfield 85, 3) := rd_chunk (k := 64) (i := 0) kmX12_findByEffort_64_e1 (by decide +kernel)
theorem dX12_findByEffort_67 : decode cX12_findByEffort 67 = .ok (.iload 6, 2) := rd_chunk (k := 64) (i := 3) kmX12_findByEffort_64_e1 (by decide +kernel)
theorem dX12_findByEffort_69 : decode cX12_findByEffort 69 = .ok (.iaload, 1) := rd_chunk (k := 64) (i := 5) kmX12_findByEffort_64_e1 (by decide +kernel)
theorem dX12_findByEffort_70 : decode cX12_findByEffort 70 = .ok (.ldc_w 299, 3) := rd_chunk (k := 64) (i := 6) kmX12_findByEffort_64_e1 (by decide +kernel)
theorem dX12_findByEffort_73 : decode cX12_findByEffort 73 = .ok (.if_icmp .eq 74, 3) := rd_chunk (k := 64) (i := 9) kmX12_findByEffort_64_e1 (by decide +kernel)
theorem dX12_findByEffort_76 : decode cX12_findByEffort 76 = .ok (.aload_n 0, 1) := rd_chunk (k := 64) (i := 12) kmX12_findByEffort_64_e1 (by decide +kernel)
theorem dX12_findByEffort_77 : decode cX12_findByEffort 77 = .ok (.getfield 88, 3) := rd_chunk (k := 64) (i := 13) kmX12_findByEffort_64_e1 (by decide +kernel)
theorem dX12_findByEffort_80 : decode cX12_findByEffort 80 = .ok (.iload 6, 2) := rd_chunk (k := 64) (i := 16) kmX12_findByEffort_64_e1 (by decide +kernel)
theorem dX12_findByEffort_82 : decode cX12_findByEffort 82 = .ok (.iaload, 1) := rd_chunk (k := 64) (i := 18) kmX12_findByEffort_64_e1 (by decide +kernel)
theorem dX12_findByEffort_83 : decode cX12_findByEffort 83 = .ok (.iload_n 3, 1) := rd_chunk (k := 64) (i := 19) kmX12_findByEffort_64_e1 (by decide +kernel)
theorem dX12_findByEffort_84 : decode cX12_findByEffort 84 = .ok (.if_icmp .le 6, 3) := rd_chunk (k := 64) (i := 20) kmX12_findByEffort_64_e1 (by decide +kernel)
theorem dX12_findByEffort_87 : decode cX12_findByEffort 87 = .ok (.goto 60, 3) := rd_chunk (k := 64) (i := 23) kmX12_findByEffort_64_e1 (by decide +kernel)
theorem dX12_findByEffort_90 : decode cX12_findByEffort 90 = .ok (.aload_n 0, 1) := rd_chunk (k := 64) (i := 26) kmX12_findByEffort_64_e1 (by decide +kernel)
theorem dX12_findByEffort_91 : decode cX12_findByEffort 91 = .ok (.getfield 94, 3) := rd_chunk (k := 64) (i := 27) kmX12_findByEffort_64_e1 (by decide +kernel)
theorem dX12_findByEffort_94 : decode cX12_findByEffort 94 = .ok (.sipush 1000, 3) := rd_chunk (k := 64) (i := 30) kmX12_findByEffort_64_e1 (by decide +kernel)
theorem dX12_findByEffort_97 : decode cX12_findByEffort 97 = .ok (.iload_n 2, 1) := rd_chunk (k := 64) (i := 33) kmX12_findByEffort_64_e1 (by decide +kernel)
theorem dX12_findByEffort_98 : decode cX12_findByEffort 98 = .ok (.iload 5, 2) := rd_chunk (k := 64) (i := 34) kmX12_findByEffort_64_e1 (by decide +kernel)
theorem dX12_findByEffort_100 : decode cX12_findByEffort 100 = .ok (.iadd, 1) := rd_chunk (k := 64) (i := 36) kmX12_findByEffort_64_e1 (by decide +kernel)
theorem dX12_findByEffort_101 : decode cX12_findByEffort 101 = .ok (.iconst 1, 1) := rd_chunk (k := 64) (i := 37) kmX12_findByEffort_64_e1 (by decide +kernel)
theorem dX12_findByEffort_102 : decode cX12_findByEffort 102 = .ok (.iadd, 1) := rd_chunk (k := 64) (i := 38) kmX12_findByEffort_64_e1 (by decide +kernel)
theorem dX12_findByEffort_103 : decode cX12_findByEffort 103 = .ok (.imul, 1) := rd_chunk (k := 64) (i := 39) kmX12_findByEffort_64_e1 (by decide +kernel)
theorem dX12_findByEffort_104 : decode cX12_findByEffort 104 = .ok (.iload_n 3, 1) := rd_chunk (k := 64) (i := 40) kmX12_findByEffort_64_e1 (by decide +kernel)
theorem dX12_findByEffort_105 : decode cX12_findByEffort 105 = .ok (.iadd, 1) := rd_chunk (k := 64) (i := 41) kmX12_findByEffort_64_e1 (by decide +kernel)
theorem dX12_findByEffort_106 : decode cX12_findByEffort 106 = .ok (.aload_n 0, 1) := rd_chunk (k := 64) (i := 42) kmX12_findByEffort_64_e1 (by decide +kernel)
theorem dX12_findByEffort_107 : decode cX12_findByEffort 107 = .ok (.getfield 88, 3) := rd_chunk (k := 64) (i := 43) kmX12_findByEffort_64_e1 (by decide +kernel)
theorem dX12_findByEffort_110 : decode cX12_findByEffort 110 = .ok (.iload 6, 2) := rd_chunk (k := 64) (i := 46) kmX12_findByEffort_64_e1 (by decide +kernel)
theorem dX12_findByEffort_112 : decode cX12_findByEffort 112 = .ok (.iaload, 1) := rd_chunk (k := 64) (i := 48) kmX12_findByEffort_64_e1 (by decide +kernel)
theorem dX12_findByEffort_113 : decode cX12_findByEffort 113 = .ok (.isub, 1) := rd_chunk (k := 64) (i := 49) kmX12_findByEffort_64_e1 (by decide +kernel)
theorem dX12_findByEffort_114 : decode cX12_findByEffort 114 = .ok (.iaload, 1) := rd_chunk (k := 64) (i := 50) kmX12_findByEffort_64_e1 (by decide +kernel)
theorem dX12_findByEffort_115 : decode cX12_findByEffort 115 = .ok (.istore 7, 2) := rd_chunk (k := 64) (i := 51) kmX12_findByEffort_64_e1 (by decide +kernel)
theorem dX12_findByEffort_117 : decode cX12_findByEffort 117 = .ok (.iload 7, 2) := rd_chunk (k := 64) (i := 53) kmX12_findByEffort_64_e1 (by decide +kernel)
theorem dX12_findByEffort_119 : decode cX12_findByEffort 119 = .ok (.ldc_w 299, 3) := rd_chunk (k := 64) (i := 55) kmX12_findByEffort_64_e1 (by decide +kernel)
theorem dX12_findByEffort_122 : decode cX12_findByEffort 122 = .ok (.if_icmp .eq 25, 3) := rd_chunk (k := 64) (i := 58) kmX12_findByEffort_64_e1 (by decide +kernel)
theorem dX12_findByEffort_125 : decode cX12_findByEffort 125 = .ok (.iload 4, 2) := rd_chunk (k := 64) (i := 61) kmX12_findByEffort_64_e1 (by decide +kernel)
theorem dX12_findByEffort_127 : decode cX12_findByEffort 127 = .ok (.iload 7, 2) := rd_chunk (k := 64) (i := 63) kmX12_findByEffort_64_e1 (by decide +kernel)
abbrev mX12_findByEffort_128_e1 : ByteArray := .mk #[0x07, 0x10, 0x64, 0x2a, 0xb4, 0x00, 0x55, 0x15, 0x06, 0x2e, 0x68, 0x60, 0x04, 0x60, 0xb8, 0x00, 0xf0, 0x36, 0x04, 0x84, 0x05, 0x01, 0xa7, 0xff, 0x97, 0x2a, 0xb4, 0x00, 0x5e, 0x11, 0x03, 0xe8, 0x1c, 0x04, 0x60, 0x68, 0x1d, 0x60, 0x15, 0x04, 0x4f, 0x84, 0x03, 0x01, 0xa7, 0xff, 0x62, 0x84, 0x02, 0xff, 0xa7, 0xff, 0x55, 0xb1]
theorem kmX12_findByEffort_128_e1 : CK cX12_findByEffort 128 mX12_findByEffort_128_e1 := ck_of (by decide +kernel)
theorem dX12_findByEffort_129 : decode cX12_findByEffort 129 = .ok (.bipush 100, 2) := rd_chunk (k := 128) (i := 1) kmX12_findByEffort_128_e1 (by decide +kernel)
theorem dX12_findByEffort_131 : decode cX12_findByEffort 131 = .ok (.aload_n 0, 1) := rd_chunk (k := 128) (i := 3) kmX12_findByEffort_128_e1 (by decide +kernel)
theorem dX12_findByEffort_132 : decode cX12_findByEffort 132 = .ok (.getfield 85, 3) := rd_chunk (k := 128) (i := 4) kmX12_findByEffort_128_e1 (by decide +kernel)
theorem dX12_findByEffort_135 : decode cX12_findByEffort 135 = .ok (.iload 6, 2) := rd_chunk (k := 128) (i := 7) kmX12_findByEffort_128_e1 (by decide +kernel)
theorem dX12_findByEffort_137 : decode cX12_findByEffort 137 = .ok (.iaload, 1) := rd_chunk (k := 128) (i := 9) kmX12_findByEffort_128_e1 (by decide +kernel)
theorem dX12_findByEffort_138 : decode cX12_findByEffort 138 = .ok (.imul, 1) := rd_chunk (k := 128) (i := 10) kmX12_findByEffort_128_e1 (by decide +kernel)
theorem dX12_findByEffort_139 : decode cX12_findByEffort 139 = .ok (.iadd, 1) := rd_chunk (k := 128) (i := 11) kmX12_findByEffort_128_e1 (by decide +kernel)
theorem dX12_findByEffort_140 : decode cX12_findByEffort 140 = .ok (.iconst 1, 1) := rd_chunk (k := 128) (i := 12) kmX12_findByEffort_128_e1 (by decide +kernel)
theorem dX12_findByEffort_141 : decode cX12_findByEffort 141 = .ok (.iadd, 1) := rd_chunk (k := 128) (i := 13) kmX12_findByEffort_128_e1 (by decide +kernel)
theorem dX12_findByEffort_142 : decode cX12_findByEffort 142 = .ok (.invokestatic 240, 3) := rd_chunk (k := 128) (i := 14) kmX12_findByEffort_128_e1 (by decide +kernel)
theorem dX12_findByEffort_145 : decode cX12_findByEffort 145 = .ok (.istore 4, 2) := rd_chunk (k := 128) (i := 17) kmX12_findByEffort_128_e1 (by decide +kernel)
theorem dX12_findByEffort_147 : decode cX12_findByEffort 147 = .ok (.iinc 5 1, 3) := rd_chunk (k := 128) (i := 19) kmX12_findByEffort_128_e1 (by decide +kernel)
theorem dX12_findByEffort_150 : decode cX12_findByEffort 150 = .ok (.goto (-105), 3) := rd_chunk (k := 128) (i := 22) kmX12_findByEffort_128_e1 (by decide +kernel)
theorem dX12_findByEffort_153 : decode cX12_findByEffort 153 = .ok (.aload_n 0, 1) := rd_chunk (k := 128) (i := 25) kmX12_findByEffort_128_e1 (by decide +kernel)
theorem dX12_findByEffort_154 : decode cX12_findByEffort 154 = .ok (.getfield 94, 3) := rd_chunk (k := 128) (i := 26) kmX12_findByEffort_128_e1 (by decide +kernel)
theorem dX12_findByEffort_157 : decode cX12_findByEffort 157 = .ok (.sipush 1000, 3) := rd_chunk (k := 128) (i := 29) kmX12_findByEffort_128_e1 (by decide +kernel)
theorem dX12_findByEffort_160 : decode cX12_findByEffort 160 = .ok (.iload_n 2, 1) := rd_chunk (k := 128) (i := 32) kmX12_findByEffort_128_e1 (by decide +kernel)
theorem dX12_findByEffort_161 : decode cX12_findByEffort 161 = .ok (.iconst 1, 1) := rd_chunk (k := 128) (i := 33) kmX12_findByEffort_128_e1 (by decide +kernel)
theorem dX12_findByEffort_162 : decode cX12_findByEffort 162 = .ok (.iadd, 1) := rd_chunk (k := 128) (i := 34) kmX12_findByEffort_128_e1 (by decide +kernel)
theorem dX12_findByEffort_163 : decode cX12_findByEffort 163 = .ok (.imul, 1) := rd_chunk (k := 128) (i := 35) kmX12_findByEffort_128_e1 (by decide +kernel)
theorem dX12_findByEffort_164 : decode cX12_findByEffort 164 = .ok (.iload_n 3, 1) := rd_chunk (k := 128) (i := 36) kmX12_findByEffort_128_e1 (by decide +kernel)
theorem dX12_findByEffort_165 : decode cX12_findByEffort 165 = .ok (.iadd, 1) := rd_chunk (k := 128) (i := 37) kmX12_findByEffort_128_e1 (by decide +kernel)
theorem dX12_findByEffort_166 : decode cX12_findByEffort 166 = .ok (.iload 4, 2) := rd_chunk (k := 128) (i := 38) kmX12_findByEffort_128_e1 (by decide +kernel)
theorem dX12_findByEffort_168 : decode cX12_findByEffort 168 = .ok (.iastore, 1) := rd_chunk (k := 128) (i := 40) kmX12_findByEffort_128_e1 (by decide +kernel)
theorem dX12_findByEffort_169 : decode cX12_findByEffort 169 = .ok (.iinc 3 1, 3) := rd_chunk (k := 128) (i := 41) kmX12_findByEffort_128_e1 (by decide +kernel)
theorem dX12_findByEffort_172 : decode cX12_findByEffort 172 = .ok (.goto (-158), 3) := rd_chunk (k := 128) (i := 44) kmX12_findByEffort_128_e1 (by decide +kernel)
theorem dX12_findByEffort_175 : decode cX12_findByEffort 175 = .ok (.iinc 2 (-1), 3) := rd_chunk (k := 128) (i := 47) kmX12_findByEffort_128_e1 (by decide +kernel)
theorem dX12_findByEffort_178 : decode cX12_findByEffort 178 = .ok (.goto (-171), 3) := rd_chunk (k := 128) (i := 50) kmX12_findByEffort_128_e1 (by decide +kernel)
theorem dX12_findByEffort_181 : decode cX12_findByEffort 181 = .ok (.return_, 1) := rd_chunk (k := 128) (i := 53) kmX12_findByEffort_128_e1 (by decide +kernel)
abbrev mX12_findClimb_0_e1 : ByteArray := .mk #[0x2a, 0x1b, 0xb6, 0x01, 0x2c, 0x2a, 0x2a, 0xb4, 0x00, 0x1d, 0x1b, 0x2e, 0xb6, 0x01, 0x2f, 0x02, 0x3d, 0x03, 0x3e, 0x1d, 0x2a, 0xb4, 0x00, 0x1d, 0x1b, 0x2e, 0xa3, 0x00, 0x46, 0x2a, 0xb4, 0x00, 0x5e, 0x1d, 0x2e, 0x13, 0x01, 0x2b, 0x9f, 0x00, 0x34, 0x2a, 0xb4, 0x00, 0x5e, 0x1d, 0x2e, 0x10, 0x64, 0x6c, 0x2a, 0xb4, 0x00, 0x20, 0x1b, 0x2e, 0xa4, 0x00, 0x06, 0xa7, 0x00, 0x1f, 0x1c, 0x02, 0x9f, 0x00, 0x18, 0x2a, 0xb4, 0x00, 0x5e, 0x1d]
theorem kmX12_findClimb_0_e1 : CK cX12_findClimb 0 mX12_findClimb_0_e1 := ck_of (by decide +kernel)
theorem dX12_findClimb_0 : decode cX12_findClimb 0 = .ok (.aload_n 0, 1) := rd_chunk (k := 0) (i := 0) kmX12_findClimb_0_e1 (by decide +kernel)
theorem dX12_findClimb_1 : decode cX12_findClimb 1 = .ok (.iload_n 1, 1) := rd_chunk (k := 0) (i := 1) kmX12_findClimb_0_e1 (by decide +kernel)
theorem dX12_findClimb_2 : decode cX12_findClimb 2 = .ok (.invokevirtual 300, 3) := rd_chunk (k := 0) (i := 2) kmX12_findClimb_0_e1 (by decide +kernel)
theorem dX12_findClimb_5 : decode cX12_findClimb 5 = .ok (.aload_n 0, 1) := rd_chunk (k := 0) (i := 5) kmX12_findClimb_0_e1 (by decide +kernel)
theorem dX12_findClimb_6 : decode cX12_findClimb 6 = .ok (.aload_n 0, 1) := rd_chunk (k := 0) (i := 6) kmX12_findClimb_0_e1 (by decide +kernel)
theorem dX12_findClimb_7 : decode cX12_findClimb 7 = .ok (.getfield 29, 3) := rd_chunk (k := 0) (i := 7) kmX12_findClimb_0_e1 (by decide +kernel)
theorem dX12_findClimb_10 : decode cX12_findClimb 10 = .ok (.iload_n 1, 1) := rd_chunk (k := 0) (i := 10) kmX12_findClimb_0_e1 (by decide +kernel)
theorem dX12_findClimb_11 : decode cX12_findClimb 11 = .ok (.iaload, 1) := rd_chunk (k := 0) (i := 11) kmX12_findClimb_0_e1 (by decide +kernel)
theorem dX12_findClimb_12 : decode cX12_findClimb 12 = .ok (.invokevirtual 303, 3) := rd_chunk (k := 0) (i := 12) kmX12_findClimb_0_e1 (by decide +kernel)
theorem dX12_findClimb_15 : decode cX12_findClimb 15 = .ok (.iconst (-1), 1) := rd_chunk (k := 0) (i := 15) kmX12_findClimb_0_e1 (by decide +kernel)
theorem dX12_findClimb_16 : decode cX12_findClimb 16 = .ok (.istore_n 2, 1) := rd_chunk (k := 0) (i := 16) kmX12_findClimb_0_e1 (by decide +kernel)
theorem dX12_findClimb_17 : decode cX12_findClimb 17 = .ok (.iconst 0, 1) := rd_chunk (k := 0) (i := 17) kmX12_findClimb_0_e1 (by decide +kernel)
theorem dX12_findClimb_18 : decode cX12_findClimb 18 = .ok (.istore_n 3, 1) := rd_chunk (k := 0) (i := 18) kmX12_findClimb_0_e1 (by decide +kernel)
theorem dX12_findClimb_19 : decode cX12_findClimb 19 = .ok (.iload_n 3, 1) := rd_chunk (k := 0) (i := 19) kmX12_findClimb_0_e1 (by decide +kernel)
theorem dX12_findClimb_20 : decode cX12_findClimb 20 = .ok (.aload_n 0, 1) := rd_chunk (k := 0) (i := 20) kmX12_findClimb_0_e1 (by decide +kernel)
theorem dX12_findClimb_21 : decode cX12_findClimb 21 = .ok (.getfield 29, 3) := rd_chunk (k := 0) (i := 21) kmX12_findClimb_0_e1 (by decide +kernel)
theorem dX12_findClimb_24 : decode cX12_findClimb 24 = .ok (.iload_n 1, 1) := rd_chunk (k := 0) (i := 24) kmX12_findClimb_0_e1 (by decide +kernel)
theorem dX12_findClimb_25 : decode cX12_findClimb 25 = .ok (.iaload, 1) := rd_chunk (k := 0) (i := 25) kmX12_findClimb_0_e1 (by decide +kernel)
theorem dX12_findClimb_26 : decode cX12_findClimb 26 = .ok (.if_icmp .gt 70, 3) := rd_chunk (k := 0) (i := 26) kmX12_findClimb_0_e1 (by decide +kernel)
theorem dX12_findClimb_29 : decode cX12_findClimb 29 = .ok (.aload_n 0, 1) := rd_chunk (k := 0) (i := 29) kmX12_findClimb_0_e1 (by decide +kernel)
theorem dX12_findClimb_30 : decode cX12_findClimb 30 = .ok (.getfield 94, 3) := rd_chunk (k := 0) (i := 30) kmX12_findClimb_0_e1 (by decide +kernel)
theorem dX12_findClimb_33 : decode cX12_findClimb 33 = .ok (.iload_n 3, 1) := rd_chunk (k := 0) (i := 33) kmX12_findClimb_0_e1 (by decide +kernel)
theorem dX12_findClimb_34 : decode cX12_findClimb 34 = .ok (.iaload, 1) := rd_chunk (k := 0) (i := 34) kmX12_findClimb_0_e1 (by decide +kernel)
theorem dX12_findClimb_35 : decode cX12_findClimb 35 = .ok (.ldc_w 299, 3) := rd_chunk (k := 0) (i := 35) kmX12_findClimb_0_e1 (by decide +kernel)
theorem dX12_findClimb_38 : decode cX12_findClimb 38 = .ok (.if_icmp .eq 52, 3) := rd_chunk (k := 0) (i := 38) kmX12_findClimb_0_e1 (by decide +kernel)
theorem dX12_findClimb_41 : decode cX12_findClimb 41 = .ok (.aload_n 0, 1) := rd_chunk (k := 0) (i := 41) kmX12_findClimb_0_e1 (by decide +kernel)
theorem dX12_findClimb_42 : decode cX12_findClimb 42 = .ok (.getfield 94, 3) := rd_chunk (k := 0) (i := 42) kmX12_findClimb_0_e1 (by decide +kernel)
theorem dX12_findClimb_45 : decode cX12_findClimb 45 = .ok (.iload_n 3, 1) := rd_chunk (k := 0) (i := 45) kmX12_findClimb_0_e1 (by decide +kernel)
theorem dX12_findClimb_46 : decode cX12_findClimb 46 = .ok (.iaload, 1) := rd_chunk (k := 0) (i := 46) kmX12_findClimb_0_e1 (by decide +kernel)
theorem dX12_findClimb_47 : decode cX12_findClimb 47 = .ok (.bipush 100, 2) := rd_chunk (k := 0) (i := 47) kmX12_findClimb_0_e1 (by decide +kernel)
theorem dX12_findClimb_49 : decode cX12_findClimb 49 = .ok (.idiv, 1) := rd_chunk (k := 0) (i := 49) kmX12_findClimb_0_e1 (by decide +kernel)
theorem dX12_findClimb_50 : decode cX12_findClimb 50 = .ok (.aload_n 0, 1) := rd_chunk (k := 0) (i := 50) kmX12_findClimb_0_e1 (by decide +kernel)
theorem dX12_findClimb_51 : decode cX12_findClimb 51 = .ok (.getfield 32, 3) := rd_chunk (k := 0) (i := 51) kmX12_findClimb_0_e1 (by decide +kernel)
theorem dX12_findClimb_54 : decode cX12_findClimb 54 = .ok (.iload_n 1, 1) := rd_chunk (k := 0) (i := 54) kmX12_findClimb_0_e1 (by decide +kernel)
theorem dX12_findClimb_55 : decode cX12_findClimb 55 = .ok (.iaload, 1) := rd_chunk (k := 0) (i := 55) kmX12_findClimb_0_e1 (by decide +kernel)
theorem dX12_findClimb_56 : decode cX12_findClimb 56 = .ok (.if_icmp .le 6, 3) := rd_chunk (k := 0) (i := 56) kmX12_findClimb_0_e1 (by decide +kernel)
theorem dX12_findClimb_59 : decode cX12_findClimb 59 = .ok (.goto 31, 3) := rd_chunk (k := 0) (i := 59) kmX12_findClimb_0_e1 (by decide +kernel)
theorem dX12_findClimb_62 : decode cX12_findClimb 62 = .ok (.iload_n 2, 1) := rd_chunk (k := 0) (i := 62) kmX12_findClimb_0_e1 (by decide +kernel)
theorem dX12_findClimb_63 : decode cX12_findClimb 63 = .ok (.iconst (-1), 1) := rd_chunk (k := 0) (i := 63) kmX12_findClimb_0_e1 (by decide +kernel)
abbrev mX12_findClimb_64_e1 : ByteArray := .mk #[0x9f, 0x00, 0x18, 0x2a, 0xb4, 0x00, 0x5e, 0x1d, 0x2e, 0x10, 0x64, 0x6c, 0x2a, 0xb4, 0x00, 0x5e, 0x1c, 0x2e, 0x10, 0x64, 0x6c, 0xa2, 0x00, 0x05, 0x1d, 0x3d, 0x84, 0x03, 0x01, 0xa7, 0xff, 0xb6, 0x1c, 0x02, 0xa0, 0x00, 0x05, 0x03, 0xac, 0x2a, 0x2a, 0xb4, 0x00, 0x5e, 0x1c, 0x2e, 0x10, 0x64, 0x6c, 0xb5, 0x01, 0x32, 0x2a, 0x1c, 0xb5, 0x01, 0x35, 0x2a, 0x03, 0xb5, 0x01, 0x38, 0x02, 0x3e, 0x1c, 0x36, 0x04, 0x1d, 0x2a, 0xb4, 0x00, 0x92]
theorem kmX12_findClimb_64_e1 : CK cX12_findClimb 64 mX12_findClimb_64_e1 := ck_of (by decide +kernel)
theorem dX12_findClimb_64 : decode cX12_findClimb 64 = .ok (.if_icmp .eq 24, 3) := rd_chunk (k := 64) (i := 0) kmX12_findClimb_64_e1 (by decide +kernel)
theorem dX12_findClimb_67 : decode cX12_findClimb 67 = .ok (.aload_n 0, 1) := rd_chunk (k := 64) (i := 3) kmX12_findClimb_64_e1 (by decide +kernel)
theorem dX12_findClimb_68 : decode cX12_findClimb 68 = .ok (.getfield 94, 3) := rd_chunk (k := 64) (i := 4) kmX12_findClimb_64_e1 (by decide +kernel)
theorem dX12_findClimb_71 : decode cX12_findClimb 71 = .ok (.iload_n 3, 1) := rd_chunk (k := 64) (i := 7) kmX12_findClimb_64_e1 (by decide +kernel)
theorem dX12_findClimb_72 : decode cX12_findClimb 72 = .ok (.iaload, 1) := rd_chunk (k := 64) (i := 8) kmX12_findClimb_64_e1 (by decide +kernel)
theorem dX12_findClimb_73 : decode cX12_findClimb 73 = .ok (.bipush 100, 2) := rd_chunk (k := 64) (i := 9) kmX12_findClimb_64_e1 (by decide +kernel)
theorem dX12_findClimb_75 : decode cX12_findClimb 75 = .ok (.idiv, 1) := rd_chunk (k := 64) (i := 11) kmX12_findClimb_64_e1 (by decide +kernel)
theorem dX12_findClimb_76 : decode cX12_findClimb 76 = .ok (.aload_n 0, 1) := rd_chunk (k := 64) (i := 12) kmX12_findClimb_64_e1 (by decide +kernel)
theorem dX12_findClimb_77 : decode cX12_findClimb 77 = .ok (.getfield 94, 3) := rd_chunk (k := 64) (i := 13) kmX12_findClimb_64_e1 (by decide +kernel)
theorem dX12_findClimb_80 : decode cX12_findClimb 80 = .ok (.iload_n 2, 1) := rd_chunk (k := 64) (i := 16) kmX12_findClimb_64_e1 (by decide +kernel)
theorem dX12_findClimb_81 : decode cX12_findClimb 81 = .ok (.iaload, 1) := rd_chunk (k := 64) (i := 17) kmX12_findClimb_64_e1 (by decide +kernel)
theorem dX12_findClimb_82 : decode cX12_findClimb 82 = .ok (.bipush 100, 2) := rd_chunk (k := 64) (i := 18) kmX12_findClimb_64_e1 (by decide +kernel)
theorem dX12_findClimb_84 : decode cX12_findClimb 84 = .ok (.idiv, 1) := rd_chunk (k := 64) (i := 20) kmX12_findClimb_64_e1 (by decide +kernel)
theorem dX12_findClimb_85 : decode cX12_findClimb 85 = .ok (.if_icmp .ge 5, 3) := rd_chunk (k := 64) (i := 21) kmX12_findClimb_64_e1 (by decide +kernel)
theorem dX12_findClimb_88 : decode cX12_findClimb 88 = .ok (.iload_n 3, 1) := rd_chunk (k := 64) (i := 24) kmX12_findClimb_64_e1 (by decide +kernel)
theorem dX12_findClimb_89 : decode cX12_findClimb 89 = .ok (.istore_n 2, 1) := rd_chunk (k := 64) (i := 25) kmX12_findClimb_64_e1 (by decide +kernel)
theorem dX12_findClimb_90 : decode cX12_findClimb 90 = .ok (.iinc 3 1, 3) := rd_chunk (k := 64) (i := 26) kmX12_findClimb_64_e1 (by decide +kernel)
theorem dX12_findClimb_93 : decode cX12_findClimb 93 = .ok (.goto (-74), 3) := rd_chunk (k := 64) (i := 29) kmX12_findClimb_64_e1 (by decide +kernel)
theorem dX12_findClimb_96 : decode cX12_findClimb 96 = .ok (.iload_n 2, 1) := rd_chunk (k := 64) (i := 32) kmX12_findClimb_64_e1 (by decide +kernel)
theorem dX12_findClimb_97 : decode cX12_findClimb 97 = .ok (.iconst (-1), 1) := rd_chunk (k := 64) (i := 33) kmX12_findClimb_64_e1 (by decide +kernel)
theorem dX12_findClimb_98 : decode cX12_findClimb 98 = .ok (.if_icmp .ne 5, 3) := rd_chunk (k := 64) (i := 34) kmX12_findClimb_64_e1 (by decide +kernel)
theorem dX12_findClimb_101 : decode cX12_findClimb 101 = .ok (.iconst 0, 1) := rd_chunk (k := 64) (i := 37) kmX12_findClimb_64_e1 (by decide +kernel)
theorem dX12_findClimb_102 : decode cX12_findClimb 102 = .ok (.ireturn, 1) := rd_chunk (k := 64) (i := 38) kmX12_findClimb_64_e1 (by decide +kernel)
theorem dX12_findClimb_103 : decode cX12_findClimb 103 = .ok (.aload_n 0, 1) := rd_chunk (k := 64) (i := 39) kmX12_findClimb_64_e1 (by decide +kernel)
theorem dX12_findClimb_104 : decode cX12_findClimb 104 = .ok (.aload_n 0, 1) := rd_chunk (k := 64) (i := 40) kmX12_findClimb_64_e1 (by decide +kernel)
theorem dX12_findClimb_105 : decode cX12_findClimb 105 = .ok (.getfield 94, 3) := rd_chunk (k := 64) (i := 41) kmX12_findClimb_64_e1 (by decide +kernel)
theorem dX12_findClimb_108 : decode cX12_findClimb 108 = .ok (.iload_n 2, 1) := rd_chunk (k := 64) (i := 44) kmX12_findClimb_64_e1 (by decide +kernel)
theorem dX12_findClimb_109 : decode cX12_findClimb 109 = .ok (.iaload, 1) := rd_chunk (k := 64) (i := 45) kmX12_findClimb_64_e1 (by decide +kernel)
theorem dX12_findClimb_110 : decode cX12_findClimb 110 = .ok (.bipush 100, 2) := rd_chunk (k := 64) (i := 46) kmX12_findClimb_64_e1 (by decide +kernel)
theorem dX12_findClimb_112 : decode cX12_findClimb 112 = .ok (.idiv, 1) := rd_chunk (k := 64) (i := 48) kmX12_findClimb_64_e1 (by decide +kernel)
theorem dX12_findClimb_113 : decode cX12_findClimb 113 = .ok (.putfield 306, 3) := rd_chunk (k := 64) (i := 49) kmX12_findClimb_64_e1 (by decide +kernel)
theorem dX12_findClimb_116 : decode cX12_findClimb 116 = .ok (.aload_n 0, 1) := rd_chunk (k := 64) (i := 52) kmX12_findClimb_64_e1 (by decide +kernel)
theorem dX12_findClimb_117 : decode cX12_findClimb 117 = .ok (.iload_n 2, 1) := rd_chunk (k := 64) (i := 53) kmX12_findClimb_64_e1 (by decide +kernel)
theorem dX12_findClimb_118 : decode cX12_findClimb 118 = .ok (.putfield 309, 3) := rd_chunk (k := 64) (i := 54) kmX12_findClimb_64_e1 (by decide +kernel)
theorem dX12_findClimb_121 : decode cX12_findClimb 121 = .ok (.aload_n 0, 1) := rd_chunk (k := 64) (i := 57) kmX12_findClimb_64_e1 (by decide +kernel)
theorem dX12_findClimb_122 : decode cX12_findClimb 122 = .ok (.iconst 0, 1) := rd_chunk (k := 64) (i := 58) kmX12_findClimb_64_e1 (by decide +kernel)
theorem dX12_findClimb_123 : decode cX12_findClimb 123 = .ok (.putfield 312, 3) := rd_chunk (k := 64) (i := 59) kmX12_findClimb_64_e1 (by decide +kernel)
theorem dX12_findClimb_126 : decode cX12_findClimb 126 = .ok (.iconst (-1), 1) := rd_chunk (k := 64) (i := 62) kmX12_findClimb_64_e1 (by decide +kernel)
theorem dX12_findClimb_127 : decode cX12_findClimb 127 = .ok (.istore_n 3, 1) := rd_chunk (k := 64) (i := 63) kmX12_findClimb_64_e1 (by decide +kernel)
abbrev mX12_findClimb_128_e1 : ByteArray := .mk #[0x1c, 0x36, 0x04, 0x1d, 0x2a, 0xb4, 0x00, 0x92, 0x04, 0x64, 0xa2, 0x00, 0x48, 0x04, 0x36, 0x05, 0x2a, 0x1d, 0x15, 0x05, 0x15, 0x04, 0xb6, 0x01, 0x3b, 0x9a, 0x00, 0x09, 0x84, 0x05, 0x01, 0xa7, 0xff, 0xf1, 0x15, 0x04, 0x2a, 0xb4, 0x00, 0x58, 0x06, 0x1d, 0x04, 0x60, 0x68, 0x15, 0x05, 0x60, 0x04, 0x64, 0x2e, 0x64, 0x36, 0x04, 0x1d, 0x15, 0x05, 0x60, 0x3e, 0x2a, 0xb4, 0x00, 0x61, 0x2a, 0xb4, 0x01, 0x38, 0x1d, 0x4f, 0x2a, 0x59, 0xb4]
theorem kmX12_findClimb_128_e1 : CK cX12_findClimb 128 mX12_findClimb_128_e1 := ck_of (by decide +kernel)
theorem dX12_findClimb_128 : decode cX12_findClimb 128 = .ok (.iload_n 2, 1) := rd_chunk (k := 128) (i := 0) kmX12_findClimb_128_e1 (by decide +kernel)
theorem dX12_findClimb_129 : decode cX12_findClimb 129 = .ok (.istore 4, 2) := rd_chunk (k := 128) (i := 1) kmX12_findClimb_128_e1 (by decide +kernel)
theorem dX12_findClimb_131 : decode cX12_findClimb 131 = .ok (.iload_n 3, 1) := rd_chunk (k := 128) (i := 3) kmX12_findClimb_128_e1 (by decide +kernel)
theorem dX12_findClimb_132 : decode cX12_findClimb 132 = .ok (.aload_n 0, 1) := rd_chunk (k := 128) (i := 4) kmX12_findClimb_128_e1 (by decide +kernel)
theorem dX12_findClimb_133 : decode cX12_findClimb 133 = .ok (.getfield 146, 3) := rd_chunk (k := 128) (i := 5) kmX12_findClimb_128_e1 (by decide +kernel)
theorem dX12_findClimb_136 : decode cX12_findClimb 136 = .ok (.iconst 1, 1) := rd_chunk (k := 128) (i := 8) kmX12_findClimb_128_e1 (by decide +kernel)
theorem dX12_findClimb_137 : decode cX12_findClimb 137 = .ok (.isub, 1) := rd_chunk (k := 128) (i := 9) kmX12_findClimb_128_e1 (by decide +kernel)
theorem dX12_findClimb_138 : decode cX12_findClimb 138 = .ok (.if_icmp .ge 72, 3) := rd_chunk (k := 128) (i := 10) kmX12_findClimb_128_e1 (by decide +kernel)
theorem dX12_findClimb_141 : decode cX12_findClimb 141 = .ok (.iconst 1, 1) := rd_chunk (k := 128) (i := 13) kmX12_findClimb_128_e1 (by decide +kernel)
theorem dX12_findClimb_142 : decode cX12_findClimb 142 = .ok (.istore 5, 2) := rd_chunk (k := 128) (i := 14) kmX12_findClimb_128_e1 (by decide +kernel)
theorem dX12_findClimb_144 : decode cX12_findClimb 144 = .ok (.aload_n 0, 1) := rd_chunk (k := 128) (i := 16) kmX12_findClimb_128_e1 (by decide +kernel)
theorem dX12_findClimb_145 : decode cX12_findClimb 145 = .ok (.iload_n 3, 1) := rd_chunk (k := 128) (i := 17) kmX12_findClimb_128_e1 (by decide +kernel)
theorem dX12_findClimb_146 : decode cX12_findClimb 146 = .ok (.iload 5, 2) := rd_chunk (k := 128) (i := 18) kmX12_findClimb_128_e1 (by decide +kernel)
theorem dX12_findClimb_148 : decode cX12_findClimb 148 = .ok (.iload 4, 2) := rd_chunk (k := 128) (i := 20) kmX12_findClimb_128_e1 (by decide +kernel)
theorem dX12_findClimb_150 : decode cX12_findClimb 150 = .ok (.invokevirtual 315, 3) := rd_chunk (k := 128) (i := 22) kmX12_findClimb_128_e1 (by decide +kernel)
theorem dX12_findClimb_153 : decode cX12_findClimb 153 = .ok (.ifCond .ne 9, 3) := rd_chunk (k := 128) (i := 25) kmX12_findClimb_128_e1 (by decide +kernel)
theorem dX12_findClimb_156 : decode cX12_findClimb 156 = .ok (.iinc 5 1, 3) := rd_chunk (k := 128) (i := 28) kmX12_findClimb_128_e1 (by decide +kernel)
theorem dX12_findClimb_159 : decode cX12_findClimb 159 = .ok (.goto (-15), 3) := rd_chunk (k := 128) (i := 31) kmX12_findClimb_128_e1 (by decide +kernel)
theorem dX12_findClimb_162 : decode cX12_findClimb 162 = .ok (.iload 4, 2) := rd_chunk (k := 128) (i := 34) kmX12_findClimb_128_e1 (by decide +kernel)
theorem dX12_findClimb_164 : decode cX12_findClimb 164 = .ok (.aload_n 0, 1) := rd_chunk (k := 128) (i := 36) kmX12_findClimb_128_e1 (by decide +kernel)
theorem dX12_findClimb_165 : decode cX12_findClimb 165 = .ok (.getfield 88, 3) := rd_chunk (k := 128) (i := 37) kmX12_findClimb_128_e1 (by decide +kernel)
theorem dX12_findClimb_168 : decode cX12_findClimb 168 = .ok (.iconst 3, 1) := rd_chunk (k := 128) (i := 40) kmX12_findClimb_128_e1 (by decide +kernel)
theorem dX12_findClimb_169 : decode cX12_findClimb 169 = .ok (.iload_n 3, 1) := rd_chunk (k := 128) (i := 41) kmX12_findClimb_128_e1 (by decide +kernel)
theorem dX12_findClimb_170 : decode cX12_findClimb 170 = .ok (.iconst 1, 1) := rd_chunk (k := 128) (i := 42) kmX12_findClimb_128_e1 (by decide +kernel)
theorem dX12_findClimb_171 : decode cX12_findClimb 171 = .ok (.iadd, 1) := rd_chunk (k := 128) (i := 43) kmX12_findClimb_128_e1 (by decide +kernel)
theorem dX12_findClimb_172 : decode cX12_findClimb 172 = .ok (.imul, 1) := rd_chunk (k := 128) (i := 44) kmX12_findClimb_128_e1 (by decide +kernel)
theorem dX12_findClimb_173 : decode cX12_findClimb 173 = .ok (.iload 5, 2) := rd_chunk (k := 128) (i := 45) kmX12_findClimb_128_e1 (by decide +kernel)
theorem dX12_findClimb_175 : decode cX12_findClimb 175 = .ok (.iadd, 1) := rd_chunk (k := 128) (i := 47) kmX12_findClimb_128_e1 (by decide +kernel)
theorem dX12_findClimb_176 : decode cX12_findClimb 176 = .ok (.iconst 1, 1) := rd_chunk (k := 128) (i := 48) kmX12_findClimb_128_e1 (by decide +kernel)
theorem dX12_findClimb_177 : decode cX12_findClimb 177 = .ok (.isub, 1) := rd_chunk (k := 128) (i := 49) kmX12_findClimb_128_e1 (by decide +kernel)
theorem dX12_findClimb_178 : decode cX12_findClimb 178 = .ok (.iaload, 1) := rd_chunk (k := 128) (i := 50) kmX12_findClimb_128_e1 (by decide +kernel)
theorem dX12_findClimb_179 : decode cX12_findClimb 179 = .ok (.isub, 1) := rd_chunk (k := 128) (i := 51) kmX12_findClimb_128_e1 (by decide +kernel)
theorem dX12_findClimb_180 : decode cX12_findClimb 180 = .ok (.istore 4, 2) := rd_chunk (k := 128) (i := 52) kmX12_findClimb_128_e1 (by decide +kernel)
theorem dX12_findClimb_182 : decode cX12_findClimb 182 = .ok (.iload_n 3, 1) := rd_chunk (k := 128) (i := 54) kmX12_findClimb_128_e1 (by decide +kernel)
theorem dX12_findClimb_183 : decode cX12_findClimb 183 = .ok (.iload 5, 2) := rd_chunk (k := 128) (i := 55) kmX12_findClimb_128_e1 (by decide +kernel)
theorem dX12_findClimb_185 : decode cX12_findClimb 185 = .ok (.iadd, 1) := rd_chunk (k := 128) (i := 57) kmX12_findClimb_128_e1 (by decide +kernel)
theorem dX12_findClimb_186 : decode cX12_findClimb 186 = .ok (.istore_n 3, 1) := rd_chunk (k := 128) (i := 58) kmX12_findClimb_128_e1 (by decide +kernel)
theorem dX12_findClimb_187 : decode cX12_findClimb 187 = .ok (.aload_n 0, 1) := rd_chunk (k := 128) (i := 59) kmX12_findClimb_128_e1 (by decide +kernel)
theorem dX12_findClimb_188 : decode cX12_findClimb 188 = .ok (.getfield 97, 3) := rd_chunk (k := 128) (i := 60) kmX12_findClimb_128_e1 (by decide +kernel)
theorem dX12_findClimb_191 : decode cX12_findClimb 191 = .ok (.aload_n 0, 1) := rd_chunk (k := 128) (i := 63) kmX12_findClimb_128_e1 (by decide +kernel)
abbrev mX12_findClimb_192_e1 : ByteArray := .mk #[0xb4, 0x01, 0x38, 0x1d, 0x4f, 0x2a, 0x59, 0xb4, 0x01, 0x38, 0x04, 0x60, 0xb5, 0x01, 0x38, 0xa7, 0xff, 0xb4, 0x04, 0xac]
theorem kmX12_findClimb_192_e1 : CK cX12_findClimb 192 mX12_findClimb_192_e1 := ck_of (by decide +kernel)
theorem dX12_findClimb_192 : decode cX12_findClimb 192 = .ok (.getfield 312, 3) := rd_chunk (k := 192) (i := 0) kmX12_findClimb_192_e1 (by decide +kernel)
theorem dX12_findClimb_195 : decode cX12_findClimb 195 = .ok (.iload_n 3, 1) := rd_chunk (k := 192) (i := 3) kmX12_findClimb_192_e1 (by decide +kernel)
theorem dX12_findClimb_196 : decode cX12_findClimb 196 = .ok (.iastore, 1) := rd_chunk (k := 192) (i := 4) kmX12_findClimb_192_e1 (by decide +kernel)
theorem dX12_findClimb_197 : decode cX12_findClimb 197 = .ok (.aload_n 0, 1) := rd_chunk (k := 192) (i := 5) kmX12_findClimb_192_e1 (by decide +kernel)
theorem dX12_findClimb_198 : decode cX12_findClimb 198 = .ok (.dup, 1) := rd_chunk (k := 192) (i := 6) kmX12_findClimb_192_e1 (by decide +kernel)
theorem dX12_findClimb_199 : decode cX12_findClimb 199 = .ok (.getfield 312, 3) := rd_chunk (k := 192) (i := 7) kmX12_findClimb_192_e1 (by decide +kernel)
theorem dX12_findClimb_202 : decode cX12_findClimb 202 = .ok (.iconst 1, 1) := rd_chunk (k := 192) (i := 10) kmX12_findClimb_192_e1 (by decide +kernel)
theorem dX12_findClimb_203 : decode cX12_findClimb 203 = .ok (.iadd, 1) := rd_chunk (k := 192) (i := 11) kmX12_findClimb_192_e1 (by decide +kernel)
theorem dX12_findClimb_204 : decode cX12_findClimb 204 = .ok (.putfield 312, 3) := rd_chunk (k := 192) (i := 12) kmX12_findClimb_192_e1 (by decide +kernel)
theorem dX12_findClimb_207 : decode cX12_findClimb 207 = .ok (.goto (-76), 3) := rd_chunk (k := 192) (i := 15) kmX12_findClimb_192_e1 (by decide +kernel)
theorem dX12_findClimb_210 : decode cX12_findClimb 210 = .ok (.iconst 1, 1) := rd_chunk (k := 192) (i := 18) kmX12_findClimb_192_e1 (by decide +kernel)
theorem dX12_findClimb_211 : decode cX12_findClimb 211 = .ok (.ireturn, 1) := rd_chunk (k := 192) (i := 19) kmX12_findClimb_192_e1 (by decide +kernel)
abbrev mX12_isOn_0_e1 : ByteArray := .mk #[0x06, 0x1b, 0x04, 0x60, 0x68, 0x1c, 0x60, 0x04, 0x64, 0x36, 0x04, 0x2a, 0xb4, 0x00, 0x55, 0x15, 0x04, 0x2e, 0x13, 0x01, 0x2b, 0x9f, 0x00, 0x0e, 0x2a, 0xb4, 0x00, 0x58, 0x15, 0x04, 0x2e, 0x1d, 0xa4, 0x00, 0x05, 0x03, 0xac, 0x2a, 0xb4, 0x00, 0x5e, 0x11, 0x03, 0xe8, 0x1b, 0x1c, 0x60, 0x04, 0x60, 0x68, 0x1d, 0x60, 0x2a, 0xb4, 0x00, 0x58, 0x15, 0x04, 0x2e, 0x64, 0x2e, 0x36, 0x05, 0x15, 0x05, 0x13, 0x01, 0x2b, 0x9f, 0x00, 0x27, 0x15]
theorem kmX12_isOn_0_e1 : CK cX12_isOn 0 mX12_isOn_0_e1 := ck_of (by decide +kernel)
theorem dX12_isOn_0 : decode cX12_isOn 0 = .ok (.iconst 3, 1) := rd_chunk (k := 0) (i := 0) kmX12_isOn_0_e1 (by decide +kernel)
theorem dX12_isOn_1 : decode cX12_isOn 1 = .ok (.iload_n 1, 1) := rd_chunk (k := 0) (i := 1) kmX12_isOn_0_e1 (by decide +kernel)
theorem dX12_isOn_2 : decode cX12_isOn 2 = .ok (.iconst 1, 1) := rd_chunk (k := 0) (i := 2) kmX12_isOn_0_e1 (by decide +kernel)
theorem dX12_isOn_3 : decode cX12_isOn 3 = .ok (.iadd, 1) := rd_chunk (k := 0) (i := 3) kmX12_isOn_0_e1 (by decide +kernel)
theorem dX12_isOn_4 : decode cX12_isOn 4 = .ok (.imul, 1) := rd_chunk (k := 0) (i := 4) kmX12_isOn_0_e1 (by decide +kernel)
theorem dX12_isOn_5 : decode cX12_isOn 5 = .ok (.iload_n 2, 1) := rd_chunk (k := 0) (i := 5) kmX12_isOn_0_e1 (by decide +kernel)
theorem dX12_isOn_6 : decode cX12_isOn 6 = .ok (.iadd, 1) := rd_chunk (k := 0) (i := 6) kmX12_isOn_0_e1 (by decide +kernel)
theorem dX12_isOn_7 : decode cX12_isOn 7 = .ok (.iconst 1, 1) := rd_chunk (k := 0) (i := 7) kmX12_isOn_0_e1 (by decide +kernel)
theorem dX12_isOn_8 : decode cX12_isOn 8 = .ok (.isub, 1) := rd_chunk (k := 0) (i := 8) kmX12_isOn_0_e1 (by decide +kernel)
theorem dX12_isOn_9 : decode cX12_isOn 9 = .ok (.istore 4, 2) := rd_chunk (k := 0) (i := 9) kmX12_isOn_0_e1 (by decide +kernel)
theorem dX12_isOn_11 : decode cX12_isOn 11 = .ok (.aload_n 0, 1) := rd_chunk (k := 0) (i := 11) kmX12_isOn_0_e1 (by decide +kernel)
theorem dX12_isOn_12 : decode cX12_isOn 12 = .ok (.getfield 85, 3) := rd_chunk (k := 0) (i := 12) kmX12_isOn_0_e1 (by decide +kernel)
theorem dX12_isOn_15 : decode cX12_isOn 15 = .ok (.iload 4, 2) := rd_chunk (k := 0) (i := 15) kmX12_isOn_0_e1 (by decide +kernel)
theorem dX12_isOn_17 : decode cX12_isOn 17 = .ok (.iaload, 1) := rd_chunk (k := 0) (i := 17) kmX12_isOn_0_e1 (by decide +kernel)
theorem dX12_isOn_18 : decode cX12_isOn 18 = .ok (.ldc_w 299, 3) := rd_chunk (k := 0) (i := 18) kmX12_isOn_0_e1 (by decide +kernel)
theorem dX12_isOn_21 : decode cX12_isOn 21 = .ok (.if_icmp .eq 14, 3) := rd_chunk (k := 0) (i := 21) kmX12_isOn_0_e1 (by decide +kernel)
theorem dX12_isOn_24 : decode cX12_isOn 24 = .ok (.aload_n 0, 1) := rd_chunk (k := 0) (i := 24) kmX12_isOn_0_e1 (by decide +kernel)
theorem dX12_isOn_25 : decode cX12_isOn 25 = .ok (.getfield 88, 3) := rd_chunk (k := 0) (i := 25) kmX12_isOn_0_e1 (by decide +kernel)
theorem dX12_isOn_28 : decode cX12_isOn 28 = .ok (.iload 4, 2) := rd_chunk (k := 0) (i := 28) kmX12_isOn_0_e1 (by decide +kernel)
theorem dX12_isOn_30 : decode cX12_isOn 30 = .ok (.iaload, 1) := rd_chunk (k := 0) (i := 30) kmX12_isOn_0_e1 (by decide +kernel)
theorem dX12_isOn_31 : decode cX12_isOn 31 = .ok (.iload_n 3, 1) := rd_chunk (k := 0) (i := 31) kmX12_isOn_0_e1 (by decide +kernel)
theorem dX12_isOn_32 : decode cX12_isOn 32 = .ok (.if_icmp .le 5, 3) := rd_chunk (k := 0) (i := 32) kmX12_isOn_0_e1 (by decide +kernel)
theorem dX12_isOn_35 : decode cX12_isOn 35 = .ok (.iconst 0, 1) := rd_chunk (k := 0) (i := 35) kmX12_isOn_0_e1 (by decide +kernel)
theorem dX12_isOn_36 : decode cX12_isOn 36 = .ok (.ireturn, 1) := rd_chunk (k := 0) (i := 36) kmX12_isOn_0_e1 (by decide +kernel)
theorem dX12_isOn_37 : decode cX12_isOn 37 = .ok (.aload_n 0, 1) := rd_chunk (k := 0) (i := 37) kmX12_isOn_0_e1 (by decide +kernel)
theorem dX12_isOn_38 : decode cX12_isOn 38 = .ok (.getfield 94, 3) := rd_chunk (k := 0) (i := 38) kmX12_isOn_0_e1 (by decide +kernel)
theorem dX12_isOn_41 : decode cX12_isOn 41 = .ok (.sipush 1000, 3) := rd_chunk (k := 0) (i := 41) kmX12_isOn_0_e1 (by decide +kernel)
theorem dX12_isOn_44 : decode cX12_isOn 44 = .ok (.iload_n 1, 1) := rd_chunk (k := 0) (i := 44) kmX12_isOn_0_e1 (by decide +kernel)
theorem dX12_isOn_45 : decode cX12_isOn 45 = .ok (.iload_n 2, 1) := rd_chunk (k := 0) (i := 45) kmX12_isOn_0_e1 (by decide +kernel)
theorem dX12_isOn_46 : decode cX12_isOn 46 = .ok (.iadd, 1) := rd_chunk (k := 0) (i := 46) kmX12_isOn_0_e1 (by decide +kernel)
theorem dX12_isOn_47 : decode cX12_isOn 47 = .ok (.iconst 1, 1) := rd_chunk (k := 0) (i := 47) kmX12_isOn_0_e1 (by decide +kernel)
theorem dX12_isOn_48 : decode cX12_isOn 48 = .ok (.iadd, 1) := rd_chunk (k := 0) (i := 48) kmX12_isOn_0_e1 (by decide +kernel)
theorem dX12_isOn_49 : decode cX12_isOn 49 = .ok (.imul, 1) := rd_chunk (k := 0) (i := 49) kmX12_isOn_0_e1 (by decide +kernel)
theorem dX12_isOn_50 : decode cX12_isOn 50 = .ok (.iload_n 3, 1) := rd_chunk (k := 0) (i := 50) kmX12_isOn_0_e1 (by decide +kernel)
theorem dX12_isOn_51 : decode cX12_isOn 51 = .ok (.iadd, 1) := rd_chunk (k := 0) (i := 51) kmX12_isOn_0_e1 (by decide +kernel)
theorem dX12_isOn_52 : decode cX12_isOn 52 = .ok (.aload_n 0, 1) := rd_chunk (k := 0) (i := 52) kmX12_isOn_0_e1 (by decide +kernel)
theorem dX12_isOn_53 : decode cX12_isOn 53 = .ok (.getfield 88, 3) := rd_chunk (k := 0) (i := 53) kmX12_isOn_0_e1 (by decide +kernel)
theorem dX12_isOn_56 : decode cX12_isOn 56 = .ok (.iload 4, 2) := rd_chunk (k := 0) (i := 56) kmX12_isOn_0_e1 (by decide +kernel)
theorem dX12_isOn_58 : decode cX12_isOn 58 = .ok (.iaload, 1) := rd_chunk (k := 0) (i := 58) kmX12_isOn_0_e1 (by decide +kernel)
theorem dX12_isOn_59 : decode cX12_isOn 59 = .ok (.isub, 1) := rd_chunk (k := 0) (i := 59) kmX12_isOn_0_e1 (by decide +kernel)
theorem dX12_isOn_60 : decode cX12_isOn 60 = .ok (.iaload, 1) := rd_chunk (k := 0) (i := 60) kmX12_isOn_0_e1 (by decide +kernel)
theorem dX12_isOn_61 : decode cX12_isOn 61 = .ok (.istore 5, 2) := rd_chunk (k := 0) (i := 61) kmX12_isOn_0_e1 (by decide +kernel)
theorem dX12_isOn_63 : decode cX12_isOn 63 = .ok (.iload 5, 2) := rd_chunk (k := 0) (i := 63) kmX12_isOn_0_e1 (by decide +kernel)
abbrev mX12_isOn_64_e1 : ByteArray := .mk #[0x05, 0x13, 0x01, 0x2b, 0x9f, 0x00, 0x27, 0x15, 0x05, 0x10, 0x64, 0x2a, 0xb4, 0x00, 0x55, 0x15, 0x04, 0x2e, 0x68, 0x60, 0x04, 0x60, 0x2a, 0xb4, 0x00, 0x5e, 0x11, 0x03, 0xe8, 0x1b, 0x04, 0x60, 0x68, 0x1d, 0x60, 0x2e, 0xa0, 0x00, 0x07, 0x04, 0xa7, 0x00, 0x04, 0x03, 0xac]
theorem kmX12_isOn_64_e1 : CK cX12_isOn 64 mX12_isOn_64_e1 := ck_of (by decide +kernel)
theorem dX12_isOn_65 : decode cX12_isOn 65 = .ok (.ldc_w 299, 3) := rd_chunk (k := 64) (i := 1) kmX12_isOn_64_e1 (by decide +kernel)
theorem dX12_isOn_68 : decode cX12_isOn 68 = .ok (.if_icmp .eq 39, 3) := rd_chunk (k := 64) (i := 4) kmX12_isOn_64_e1 (by decide +kernel)
theorem dX12_isOn_71 : decode cX12_isOn 71 = .ok (.iload 5, 2) := rd_chunk (k := 64) (i := 7) kmX12_isOn_64_e1 (by decide +kernel)
theorem dX12_isOn_73 : decode cX12_isOn 73 = .ok (.bipush 100, 2) := rd_chunk (k := 64) (i := 9) kmX12_isOn_64_e1 (by decide +kernel)
theorem dX12_isOn_75 : decode cX12_isOn 75 = .ok (.aload_n 0, 1) := rd_chunk (k := 64) (i := 11) kmX12_isOn_64_e1 (by decide +kernel)
theorem dX12_isOn_76 : decode cX12_isOn 76 = .ok (.getfield 85, 3) := rd_chunk (k := 64) (i := 12) kmX12_isOn_64_e1 (by decide +kernel)
theorem dX12_isOn_79 : decode cX12_isOn 79 = .ok (.iload 4, 2) := rd_chunk (k := 64) (i := 15) kmX12_isOn_64_e1 (by decide +kernel)
theorem dX12_isOn_81 : decode cX12_isOn 81 = .ok (.iaload, 1) := rd_chunk (k := 64) (i := 17) kmX12_isOn_64_e1 (by decide +kernel)
theorem dX12_isOn_82 : decode cX12_isOn 82 = .ok (.imul, 1) := rd_chunk (k := 64) (i := 18) kmX12_isOn_64_e1 (by decide +kernel)
theorem dX12_isOn_83 : decode cX12_isOn 83 = .ok (.iadd, 1) := rd_chunk (k := 64) (i := 19) kmX12_isOn_64_e1 (by decide +kernel)
theorem dX12_isOn_84 : decode cX12_isOn 84 = .ok (.iconst 1, 1) := rd_chunk (k := 64) (i := 20) kmX12_isOn_64_e1 (by decide +kernel)
theorem dX12_isOn_85 : decode cX12_isOn 85 = .ok (.iadd, 1) := rd_chunk (k := 64) (i := 21) kmX12_isOn_64_e1 (by decide +kernel)
theorem dX12_isOn_86 : decode cX12_isOn 86 = .ok (.aload_n 0, 1) := rd_chunk (k := 64) (i := 22) kmX12_isOn_64_e1 (by decide +kernel)
theorem dX12_isOn_87 : decode cX12_isOn 87 = .ok (.getfield 94, 3) := rd_chunk (k := 64) (i := 23) kmX12_isOn_64_e1 (by decide +kernel)
theorem dX12_isOn_90 : decode cX12_isOn 90 = .ok (.sipush 1000, 3) := rd_chunk (k := 64) (i := 26) kmX12_isOn_64_e1 (by decide +kernel)
theorem dX12_isOn_93 : decode cX12_isOn 93 = .ok (.iload_n 1, 1) := rd_chunk (k := 64) (i := 29) kmX12_isOn_64_e1 (by decide +kernel)
theorem dX12_isOn_94 : decode cX12_isOn 94 = .ok (.iconst 1, 1) := rd_chunk (k := 64) (i := 30) kmX12_isOn_64_e1 (by decide +kernel)
theorem dX12_isOn_95 : decode cX12_isOn 95 = .ok (.iadd, 1) := rd_chunk (k := 64) (i := 31) kmX12_isOn_64_e1 (by decide +kernel)
theorem dX12_isOn_96 : decode cX12_isOn 96 = .ok (.imul, 1) := rd_chunk (k := 64) (i := 32) kmX12_isOn_64_e1 (by decide +kernel)
theorem dX12_isOn_97 : decode cX12_isOn 97 = .ok (.iload_n 3, 1) := rd_chunk (k := 64) (i := 33) kmX12_isOn_64_e1 (by decide +kernel)
theorem dX12_isOn_98 : decode cX12_isOn 98 = .ok (.iadd, 1) := rd_chunk (k := 64) (i := 34) kmX12_isOn_64_e1 (by decide +kernel)
theorem dX12_isOn_99 : decode cX12_isOn 99 = .ok (.iaload, 1) := rd_chunk (k := 64) (i := 35) kmX12_isOn_64_e1 (by decide +kernel)
theorem dX12_isOn_100 : decode cX12_isOn 100 = .ok (.if_icmp .ne 7, 3) := rd_chunk (k := 64) (i := 36) kmX12_isOn_64_e1 (by decide +kernel)
theorem dX12_isOn_103 : decode cX12_isOn 103 = .ok (.iconst 1, 1) := rd_chunk (k := 64) (i := 39) kmX12_isOn_64_e1 (by decide +kernel)
theorem dX12_isOn_104 : decode cX12_isOn 104 = .ok (.goto 4, 3) := rd_chunk (k := 64) (i := 40) kmX12_isOn_64_e1 (by decide +kernel)
theorem dX12_isOn_107 : decode cX12_isOn 107 = .ok (.iconst 0, 1) := rd_chunk (k := 64) (i := 43) kmX12_isOn_64_e1 (by decide +kernel)
theorem dX12_isOn_108 : decode cX12_isOn 108 = .ok (.ireturn, 1) := rd_chunk (k := 64) (i := 44) kmX12_isOn_64_e1 (by decide +kernel)
theorem dX12_climb_0 : decode cX12_climb 0 = .ok (.aload_n 0, 1) := by decide +kernel
theorem dX12_climb_1 : decode cX12_climb 1 = .ok (.iconst 0, 1) := by decide +kernel
theorem dX12_climb_2 : decode cX12_climb 2 = .ok (.putfield 140, 3) := by decide +kernel
theorem dX12_climb_5 : decode cX12_climb 5 = .ok (.aload_n 0, 1) := by decide +kernel
theorem dX12_climb_6 : decode cX12_climb 6 = .ok (.iload_n 1, 1) := by decide +kernel
theorem dX12_climb_7 : decode cX12_climb 7 = .ok (.invokevirtual 263, 3) := by decide +kernel
theorem dX12_climb_10 : decode cX12_climb 10 = .ok (.ifCond .eq 10, 3) := by decide +kernel
theorem dX12_climb_13 : decode cX12_climb 13 = .ok (.aload_n 0, 1) := by decide +kernel
theorem dX12_climb_14 : decode cX12_climb 14 = .ok (.getfield 146, 3) := by decide +kernel
theorem dX12_climb_17 : decode cX12_climb 17 = .ok (.ifCond .ne 5, 3) := by decide +kernel
theorem dX12_climb_20 : decode cX12_climb 20 = .ok (.iconst (-1), 1) := by decide +kernel
theorem dX12_climb_21 : decode cX12_climb 21 = .ok (.ireturn, 1) := by decide +kernel
theorem dX12_climb_22 : decode cX12_climb 22 = .ok (.aload_n 0, 1) := by decide +kernel
theorem dX12_climb_23 : decode cX12_climb 23 = .ok (.iload_n 1, 1) := by decide +kernel
theorem dX12_climb_24 : decode cX12_climb 24 = .ok (.invokevirtual 318, 3) := by decide +kernel
theorem dX12_climb_27 : decode cX12_climb 27 = .ok (.ifCond .ne 6, 3) := by decide +kernel
theorem dX12_climb_30 : decode cX12_climb 30 = .ok (.bipush (-2), 2) := by decide +kernel
theorem dX12_climb_32 : decode cX12_climb 32 = .ok (.ireturn, 1) := by decide +kernel
theorem dX12_climb_33 : decode cX12_climb 33 = .ok (.aload_n 0, 1) := by decide +kernel
theorem dX12_climb_34 : decode cX12_climb 34 = .ok (.iconst 0, 1) := by decide +kernel
theorem dX12_climb_35 : decode cX12_climb 35 = .ok (.putfield 143, 3) := by decide +kernel
theorem dX12_climb_38 : decode cX12_climb 38 = .ok (.aload_n 0, 1) := by decide +kernel
theorem dX12_climb_39 : decode cX12_climb 39 = .ok (.aload_n 0, 1) := by decide +kernel
theorem dX12_climb_40 : decode cX12_climb 40 = .ok (.getfield 309, 3) := by decide +kernel
theorem dX12_climb_43 : decode cX12_climb 43 = .ok (.i2l, 1) := by decide +kernel
theorem dX12_climb_44 : decode cX12_climb 44 = .ok (.invokevirtual 276, 3) := by decide +kernel
theorem dX12_climb_47 : decode cX12_climb 47 = .ok (.aload_n 0, 1) := by decide +kernel
theorem dX12_climb_48 : decode cX12_climb 48 = .ok (.aload_n 0, 1) := by decide +kernel
theorem dX12_climb_49 : decode cX12_climb 49 = .ok (.getfield 312, 3) := by decide +kernel
theorem dX12_climb_52 : decode cX12_climb 52 = .ok (.i2l, 1) := by decide +kernel
theorem dX12_climb_53 : decode cX12_climb 53 = .ok (.invokevirtual 276, 3) := by decide +kernel
theorem dX12_climb_56 : decode cX12_climb 56 = .ok (.iconst 0, 1) := by decide +kernel
theorem dX12_climb_57 : decode cX12_climb 57 = .ok (.istore_n 2, 1) := by decide +kernel
theorem dX12_climb_58 : decode cX12_climb 58 = .ok (.iload_n 2, 1) := by decide +kernel
theorem dX12_climb_59 : decode cX12_climb 59 = .ok (.aload_n 0, 1) := by decide +kernel
theorem dX12_climb_60 : decode cX12_climb 60 = .ok (.getfield 312, 3) := by decide +kernel
theorem dX12_climb_63 : decode cX12_climb 63 = .ok (.if_icmp .ge 20, 3) := by decide +kernel
theorem dX12_climb_66 : decode cX12_climb 66 = .ok (.aload_n 0, 1) := by decide +kernel
theorem dX12_climb_67 : decode cX12_climb 67 = .ok (.aload_n 0, 1) := by decide +kernel
theorem dX12_climb_68 : decode cX12_climb 68 = .ok (.getfield 97, 3) := by decide +kernel
theorem dX12_climb_71 : decode cX12_climb 71 = .ok (.iload_n 2, 1) := by decide +kernel
theorem dX12_climb_72 : decode cX12_climb 72 = .ok (.iaload, 1) := by decide +kernel
theorem dX12_climb_73 : decode cX12_climb 73 = .ok (.i2l, 1) := by decide +kernel
theorem dX12_climb_74 : decode cX12_climb 74 = .ok (.invokevirtual 276, 3) := by decide +kernel
theorem dX12_climb_77 : decode cX12_climb 77 = .ok (.iinc 2 1, 3) := by decide +kernel
theorem dX12_climb_80 : decode cX12_climb 80 = .ok (.goto (-22), 3) := by decide +kernel
theorem dX12_climb_83 : decode cX12_climb 83 = .ok (.aload_n 0, 1) := by decide +kernel
theorem dX12_climb_84 : decode cX12_climb 84 = .ok (.getfield 306, 3) := by decide +kernel
theorem dX12_climb_87 : decode cX12_climb 87 = .ok (.ireturn, 1) := by decide +kernel
abbrev mX12_knees_0_e1 : ByteArray := .mk #[0x2a, 0x03, 0xb5, 0x00, 0x8c, 0x2a, 0x1b, 0xb6, 0x01, 0x07, 0x99, 0x00, 0x0a, 0x2a, 0xb4, 0x00, 0x92, 0x9a, 0x00, 0x05, 0x02, 0xac, 0x2a, 0x1b, 0xb6, 0x01, 0x2c, 0x2a, 0x11, 0x03, 0xe7, 0xb6, 0x01, 0x2f, 0x03, 0x3d, 0x1c, 0x11, 0x03, 0xe7, 0xa3, 0x00, 0x3f, 0x2a, 0xb4, 0x00, 0x5e, 0x1c, 0x2e, 0x13, 0x01, 0x2b, 0x9f, 0x00, 0x2d, 0x2a, 0xb4, 0x00, 0x5e, 0x1c, 0x2e, 0x10, 0x64, 0x6c, 0x2a, 0xb4, 0x00, 0x20, 0x1b, 0x2e, 0xa4, 0x00]
theorem kmX12_knees_0_e1 : CK cX12_knees 0 mX12_knees_0_e1 := ck_of (by decide +kernel)
theorem dX12_knees_0 : decode cX12_knees 0 = .ok (.aload_n 0, 1) := rd_chunk (k := 0) (i := 0) kmX12_knees_0_e1 (by decide +kernel)
theorem dX12_knees_1 : decode cX12_knees 1 = .ok (.iconst 0, 1) := rd_chunk (k := 0) (i := 1) kmX12_knees_0_e1 (by decide +kernel)
theorem dX12_knees_2 : decode cX12_knees 2 = .ok (.putfield 140, 3) := rd_chunk (k := 0) (i := 2) kmX12_knees_0_e1 (by decide +kernel)
theorem dX12_knees_5 : decode cX12_knees 5 = .ok (.aload_n 0, 1) := rd_chunk (k := 0) (i := 5) kmX12_knees_0_e1 (by decide +kernel)
theorem dX12_knees_6 : decode cX12_knees 6 = .ok (.iload_n 1, 1) := rd_chunk (k := 0) (i := 6) kmX12_knees_0_e1 (by decide +kernel)
theorem dX12_knees_7 : decode cX12_knees 7 = .ok (.invokevirtual 263, 3) := rd_chunk (k := 0) (i := 7) kmX12_knees_0_e1 (by decide +kernel)
theorem dX12_knees_10 : decode cX12_knees 10 = .ok (.ifCond .eq 10, 3) := rd_chunk (k := 0) (i := 10) kmX12_knees_0_e1 (by decide +kernel)
theorem dX12_knees_13 : decode cX12_knees 13 = .ok (.aload_n 0, 1) := rd_chunk (k := 0) (i := 13) kmX12_knees_0_e1 (by decide +kernel)
theorem dX12_knees_14 : decode cX12_knees 14 = .ok (.getfield 146, 3) := rd_chunk (k := 0) (i := 14) kmX12_knees_0_e1 (by decide +kernel)
theorem dX12_knees_17 : decode cX12_knees 17 = .ok (.ifCond .ne 5, 3) := rd_chunk (k := 0) (i := 17) kmX12_knees_0_e1 (by decide +kernel)
theorem dX12_knees_20 : decode cX12_knees 20 = .ok (.iconst (-1), 1) := rd_chunk (k := 0) (i := 20) kmX12_knees_0_e1 (by decide +kernel)
theorem dX12_knees_21 : decode cX12_knees 21 = .ok (.ireturn, 1) := rd_chunk (k := 0) (i := 21) kmX12_knees_0_e1 (by decide +kernel)
theorem dX12_knees_22 : decode cX12_knees 22 = .ok (.aload_n 0, 1) := rd_chunk (k := 0) (i := 22) kmX12_knees_0_e1 (by decide +kernel)
theorem dX12_knees_23 : decode cX12_knees 23 = .ok (.iload_n 1, 1) := rd_chunk (k := 0) (i := 23) kmX12_knees_0_e1 (by decide +kernel)
theorem dX12_knees_24 : decode cX12_knees 24 = .ok (.invokevirtual 300, 3) := rd_chunk (k := 0) (i := 24) kmX12_knees_0_e1 (by decide +kernel)
theorem dX12_knees_27 : decode cX12_knees 27 = .ok (.aload_n 0, 1) := rd_chunk (k := 0) (i := 27) kmX12_knees_0_e1 (by decide +kernel)
theorem dX12_knees_28 : decode cX12_knees 28 = .ok (.sipush 999, 3) := rd_chunk (k := 0) (i := 28) kmX12_knees_0_e1 (by decide +kernel)
theorem dX12_knees_31 : decode cX12_knees 31 = .ok (.invokevirtual 303, 3) := rd_chunk (k := 0) (i := 31) kmX12_knees_0_e1 (by decide +kernel)
theorem dX12_knees_34 : decode cX12_knees 34 = .ok (.iconst 0, 1) := rd_chunk (k := 0) (i := 34) kmX12_knees_0_e1 (by decide +kernel)
theorem dX12_knees_35 : decode cX12_knees 35 = .ok (.istore_n 2, 1) := rd_chunk (k := 0) (i := 35) kmX12_knees_0_e1 (by decide +kernel)
theorem dX12_knees_36 : decode cX12_knees 36 = .ok (.iload_n 2, 1) := rd_chunk (k := 0) (i := 36) kmX12_knees_0_e1 (by decide +kernel)
theorem dX12_knees_37 : decode cX12_knees 37 = .ok (.sipush 999, 3) := rd_chunk (k := 0) (i := 37) kmX12_knees_0_e1 (by decide +kernel)
theorem dX12_knees_40 : decode cX12_knees 40 = .ok (.if_icmp .gt 63, 3) := rd_chunk (k := 0) (i := 40) kmX12_knees_0_e1 (by decide +kernel)
theorem dX12_knees_43 : decode cX12_knees 43 = .ok (.aload_n 0, 1) := rd_chunk (k := 0) (i := 43) kmX12_knees_0_e1 (by decide +kernel)
theorem dX12_knees_44 : decode cX12_knees 44 = .ok (.getfield 94, 3) := rd_chunk (k := 0) (i := 44) kmX12_knees_0_e1 (by decide +kernel)
theorem dX12_knees_47 : decode cX12_knees 47 = .ok (.iload_n 2, 1) := rd_chunk (k := 0) (i := 47) kmX12_knees_0_e1 (by decide +kernel)
theorem dX12_knees_48 : decode cX12_knees 48 = .ok (.iaload, 1) := rd_chunk (k := 0) (i := 48) kmX12_knees_0_e1 (by decide +kernel)
theorem dX12_knees_49 : decode cX12_knees 49 = .ok (.ldc_w 299, 3) := rd_chunk (k := 0) (i := 49) kmX12_knees_0_e1 (by decide +kernel)
theorem dX12_knees_52 : decode cX12_knees 52 = .ok (.if_icmp .eq 45, 3) := rd_chunk (k := 0) (i := 52) kmX12_knees_0_e1 (by decide +kernel)
theorem dX12_knees_55 : decode cX12_knees 55 = .ok (.aload_n 0, 1) := rd_chunk (k := 0) (i := 55) kmX12_knees_0_e1 (by decide +kernel)
theorem dX12_knees_56 : decode cX12_knees 56 = .ok (.getfield 94, 3) := rd_chunk (k := 0) (i := 56) kmX12_knees_0_e1 (by decide +kernel)
theorem dX12_knees_59 : decode cX12_knees 59 = .ok (.iload_n 2, 1) := rd_chunk (k := 0) (i := 59) kmX12_knees_0_e1 (by decide +kernel)
theorem dX12_knees_60 : decode cX12_knees 60 = .ok (.iaload, 1) := rd_chunk (k := 0) (i := 60) kmX12_knees_0_e1 (by decide +kernel)
theorem dX12_knees_61 : decode cX12_knees 61 = .ok (.bipush 100, 2) := rd_chunk (k := 0) (i := 61) kmX12_knees_0_e1 (by decide +kernel)
theorem dX12_knees_63 : decode cX12_knees 63 = .ok (.idiv, 1) := rd_chunk (k := 0) (i := 63) kmX12_knees_0_e1 (by decide +kernel)
abbrev mX12_knees_64_e1 : ByteArray := .mk #[0x2a, 0xb4, 0x00, 0x20, 0x1b, 0x2e, 0xa4, 0x00, 0x06, 0xa7, 0x00, 0x18, 0x2a, 0x03, 0xb5, 0x00, 0x8f, 0x2a, 0x2a, 0xb4, 0x00, 0x5e, 0x1c, 0x2e, 0x10, 0x64, 0x6c, 0x85, 0xb6, 0x01, 0x14, 0x1c, 0xac, 0x84, 0x02, 0x01, 0xa7, 0xff, 0xc0, 0x10, 0xfe, 0xac]
theorem kmX12_knees_64_e1 : CK cX12_knees 64 mX12_knees_64_e1 := ck_of (by decide +kernel)
theorem dX12_knees_64 : decode cX12_knees 64 = .ok (.aload_n 0, 1) := rd_chunk (k := 64) (i := 0) kmX12_knees_64_e1 (by decide +kernel)
theorem dX12_knees_65 : decode cX12_knees 65 = .ok (.getfield 32, 3) := rd_chunk (k := 64) (i := 1) kmX12_knees_64_e1 (by decide +kernel)
theorem dX12_knees_68 : decode cX12_knees 68 = .ok (.iload_n 1, 1) := rd_chunk (k := 64) (i := 4) kmX12_knees_64_e1 (by decide +kernel)
theorem dX12_knees_69 : decode cX12_knees 69 = .ok (.iaload, 1) := rd_chunk (k := 64) (i := 5) kmX12_knees_64_e1 (by decide +kernel)
theorem dX12_knees_70 : decode cX12_knees 70 = .ok (.if_icmp .le 6, 3) := rd_chunk (k := 64) (i := 6) kmX12_knees_64_e1 (by decide +kernel)
theorem dX12_knees_73 : decode cX12_knees 73 = .ok (.goto 24, 3) := rd_chunk (k := 64) (i := 9) kmX12_knees_64_e1 (by decide +kernel)
theorem dX12_knees_76 : decode cX12_knees 76 = .ok (.aload_n 0, 1) := rd_chunk (k := 64) (i := 12) kmX12_knees_64_e1 (by decide +kernel)
theorem dX12_knees_77 : decode cX12_knees 77 = .ok (.iconst 0, 1) := rd_chunk (k := 64) (i := 13) kmX12_knees_64_e1 (by decide +kernel)
theorem dX12_knees_78 : decode cX12_knees 78 = .ok (.putfield 143, 3) := rd_chunk (k := 64) (i := 14) kmX12_knees_64_e1 (by decide +kernel)
theorem dX12_knees_81 : decode cX12_knees 81 = .ok (.aload_n 0, 1) := rd_chunk (k := 64) (i := 17) kmX12_knees_64_e1 (by decide +kernel)
theorem dX12_knees_82 : decode cX12_knees 82 = .ok (.aload_n 0, 1) := rd_chunk (k := 64) (i := 18) kmX12_knees_64_e1 (by decide +kernel)
theorem dX12_knees_83 : decode cX12_knees 83 = .ok (.getfield 94, 3) := rd_chunk (k := 64) (i := 19) kmX12_knees_64_e1 (by decide +kernel)
theorem dX12_knees_86 : decode cX12_knees 86 = .ok (.iload_n 2, 1) := rd_chunk (k := 64) (i := 22) kmX12_knees_64_e1 (by decide +kernel)
theorem dX12_knees_87 : decode cX12_knees 87 = .ok (.iaload, 1) := rd_chunk (k := 64) (i := 23) kmX12_knees_64_e1 (by decide +kernel)
theorem dX12_knees_88 : decode cX12_knees 88 = .ok (.bipush 100, 2) := rd_chunk (k := 64) (i := 24) kmX12_knees_64_e1 (by decide +kernel)
theorem dX12_knees_90 : decode cX12_knees 90 = .ok (.idiv, 1) := rd_chunk (k := 64) (i := 26) kmX12_knees_64_e1 (by decide +kernel)
theorem dX12_knees_91 : decode cX12_knees 91 = .ok (.i2l, 1) := rd_chunk (k := 64) (i := 27) kmX12_knees_64_e1 (by decide +kernel)
theorem dX12_knees_92 : decode cX12_knees 92 = .ok (.invokevirtual 276, 3) := rd_chunk (k := 64) (i := 28) kmX12_knees_64_e1 (by decide +kernel)
theorem dX12_knees_95 : decode cX12_knees 95 = .ok (.iload_n 2, 1) := rd_chunk (k := 64) (i := 31) kmX12_knees_64_e1 (by decide +kernel)
theorem dX12_knees_96 : decode cX12_knees 96 = .ok (.ireturn, 1) := rd_chunk (k := 64) (i := 32) kmX12_knees_64_e1 (by decide +kernel)
theorem dX12_knees_97 : decode cX12_knees 97 = .ok (.iinc 2 1, 3) := rd_chunk (k := 64) (i := 33) kmX12_knees_64_e1 (by decide +kernel)
theorem dX12_knees_100 : decode cX12_knees 100 = .ok (.goto (-64), 3) := rd_chunk (k := 64) (i := 36) kmX12_knees_64_e1 (by decide +kernel)
theorem dX12_knees_103 : decode cX12_knees 103 = .ok (.bipush (-2), 2) := rd_chunk (k := 64) (i := 39) kmX12_knees_64_e1 (by decide +kernel)
theorem dX12_knees_105 : decode cX12_knees 105 = .ok (.ireturn, 1) := rd_chunk (k := 64) (i := 41) kmX12_knees_64_e1 (by decide +kernel)
abbrev mX12_countWays_0_e1 : ByteArray := .mk #[0x2a, 0x02, 0xb5, 0x01, 0x41, 0x2a, 0x03, 0xb5, 0x01, 0x44, 0x1c, 0x2a, 0xb4, 0x00, 0x20, 0x1b, 0x2e, 0xa4, 0x00, 0x05, 0x03, 0xac, 0x2a, 0x1b, 0xb6, 0x01, 0x2c, 0x10, 0x79, 0x3e, 0x03, 0x36, 0x04, 0x15, 0x04, 0x2a, 0xb4, 0x00, 0x1d, 0x1b, 0x2e, 0xa3, 0x00, 0x27, 0x03, 0x36, 0x05, 0x15, 0x05, 0x1c, 0xa3, 0x00, 0x18, 0x2a, 0xb4, 0x00, 0x65, 0x15, 0x04, 0x11, 0x03, 0xe8, 0x68, 0x15, 0x05, 0x60, 0x03, 0x4f, 0x84, 0x05, 0x01, 0xa7]
theorem kmX12_countWays_0_e1 : CK cX12_countWays 0 mX12_countWays_0_e1 := ck_of (by decide +kernel)
theorem dX12_countWays_0 : decode cX12_countWays 0 = .ok (.aload_n 0, 1) := rd_chunk (k := 0) (i := 0) kmX12_countWays_0_e1 (by decide +kernel)
theorem dX12_countWays_1 : decode cX12_countWays 1 = .ok (.iconst (-1), 1) := rd_chunk (k := 0) (i := 1) kmX12_countWays_0_e1 (by decide +kernel)
theorem dX12_countWays_2 : decode cX12_countWays 2 = .ok (.putfield 321, 3) := rd_chunk (k := 0) (i := 2) kmX12_countWays_0_e1 (by decide +kernel)
theorem dX12_countWays_5 : decode cX12_countWays 5 = .ok (.aload_n 0, 1) := rd_chunk (k := 0) (i := 5) kmX12_countWays_0_e1 (by decide +kernel)
theorem dX12_countWays_6 : decode cX12_countWays 6 = .ok (.iconst 0, 1) := rd_chunk (k := 0) (i := 6) kmX12_countWays_0_e1 (by decide +kernel)
theorem dX12_countWays_7 : decode cX12_countWays 7 = .ok (.putfield 324, 3) := rd_chunk (k := 0) (i := 7) kmX12_countWays_0_e1 (by decide +kernel)
theorem dX12_countWays_10 : decode cX12_countWays 10 = .ok (.iload_n 2, 1) := rd_chunk (k := 0) (i := 10) kmX12_countWays_0_e1 (by decide +kernel)
theorem dX12_countWays_11 : decode cX12_countWays 11 = .ok (.aload_n 0, 1) := rd_chunk (k := 0) (i := 11) kmX12_countWays_0_e1 (by decide +kernel)
theorem dX12_countWays_12 : decode cX12_countWays 12 = .ok (.getfield 32, 3) := rd_chunk (k := 0) (i := 12) kmX12_countWays_0_e1 (by decide +kernel)
theorem dX12_countWays_15 : decode cX12_countWays 15 = .ok (.iload_n 1, 1) := rd_chunk (k := 0) (i := 15) kmX12_countWays_0_e1 (by decide +kernel)
theorem dX12_countWays_16 : decode cX12_countWays 16 = .ok (.iaload, 1) := rd_chunk (k := 0) (i := 16) kmX12_countWays_0_e1 (by decide +kernel)
theorem dX12_countWays_17 : decode cX12_countWays 17 = .ok (.if_icmp .le 5, 3) := rd_chunk (k := 0) (i := 17) kmX12_countWays_0_e1 (by decide +kernel)
theorem dX12_countWays_20 : decode cX12_countWays 20 = .ok (.iconst 0, 1) := rd_chunk (k := 0) (i := 20) kmX12_countWays_0_e1 (by decide +kernel)
theorem dX12_countWays_21 : decode cX12_countWays 21 = .ok (.ireturn, 1) := rd_chunk (k := 0) (i := 21) kmX12_countWays_0_e1 (by decide +kernel)
theorem dX12_countWays_22 : decode cX12_countWays 22 = .ok (.aload_n 0, 1) := rd_chunk (k := 0) (i := 22) kmX12_countWays_0_e1 (by decide +kernel)
theorem dX12_countWays_23 : decode cX12_countWays 23 = .ok (.iload_n 1, 1) := rd_chunk (k := 0) (i := 23) kmX12_countWays_0_e1 (by decide +kernel)
theorem dX12_countWays_24 : decode cX12_countWays 24 = .ok (.invokevirtual 300, 3) := rd_chunk (k := 0) (i := 24) kmX12_countWays_0_e1 (by decide +kernel)
theorem dX12_countWays_27 : decode cX12_countWays 27 = .ok (.bipush 121, 2) := rd_chunk (k := 0) (i := 27) kmX12_countWays_0_e1 (by decide +kernel)
theorem dX12_countWays_29 : decode cX12_countWays 29 = .ok (.istore_n 3, 1) := rd_chunk (k := 0) (i := 29) kmX12_countWays_0_e1 (by decide +kernel)
theorem dX12_countWays_30 : decode cX12_countWays 30 = .ok (.iconst 0, 1) := rd_chunk (k := 0) (i := 30) kmX12_countWays_0_e1 (by decide +kernel)
theorem dX12_countWays_31 : decode cX12_countWays 31 = .ok (.istore 4, 2) := rd_chunk (k := 0) (i := 31) kmX12_countWays_0_e1 (by decide +kernel)
theorem dX12_countWays_33 : decode cX12_countWays 33 = .ok (.iload 4, 2) := rd_chunk (k := 0) (i := 33) kmX12_countWays_0_e1 (by decide +kernel)
theorem dX12_countWays_35 : decode cX12_countWays 35 = .ok (.aload_n 0, 1) := rd_chunk (k := 0) (i := 35) kmX12_countWays_0_e1 (by decide +kernel)
theorem dX12_countWays_36 : decode cX12_countWays 36 = .ok (.getfield 29, 3) := rd_chunk (k := 0) (i := 36) kmX12_countWays_0_e1 (by decide +kernel)
theorem dX12_countWays_39 : decode cX12_countWays 39 = .ok (.iload_n 1, 1) := rd_chunk (k := 0) (i := 39) kmX12_countWays_0_e1 (by decide +kernel)
theorem dX12_countWays_40 : decode cX12_countWays 40 = .ok (.iaload, 1) := rd_chunk (k := 0) (i := 40) kmX12_countWays_0_e1 (by decide +kernel)
theorem dX12_countWays_41 : decode cX12_countWays 41 = .ok (.if_icmp .gt 39, 3) := rd_chunk (k := 0) (i := 41) kmX12_countWays_0_e1 (by decide +kernel)
theorem dX12_countWays_44 : decode cX12_countWays 44 = .ok (.iconst 0, 1) := rd_chunk (k := 0) (i := 44) kmX12_countWays_0_e1 (by decide +kernel)
theorem dX12_countWays_45 : decode cX12_countWays 45 = .ok (.istore 5, 2) := rd_chunk (k := 0) (i := 45) kmX12_countWays_0_e1 (by decide +kernel)
theorem dX12_countWays_47 : decode cX12_countWays 47 = .ok (.iload 5, 2) := rd_chunk (k := 0) (i := 47) kmX12_countWays_0_e1 (by decide +kernel)
theorem dX12_countWays_49 : decode cX12_countWays 49 = .ok (.iload_n 2, 1) := rd_chunk (k := 0) (i := 49) kmX12_countWays_0_e1 (by decide +kernel)
theorem dX12_countWays_50 : decode cX12_countWays 50 = .ok (.if_icmp .gt 24, 3) := rd_chunk (k := 0) (i := 50) kmX12_countWays_0_e1 (by decide +kernel)
theorem dX12_countWays_53 : decode cX12_countWays 53 = .ok (.aload_n 0, 1) := rd_chunk (k := 0) (i := 53) kmX12_countWays_0_e1 (by decide +kernel)
theorem dX12_countWays_54 : decode cX12_countWays 54 = .ok (.getfield 101, 3) := rd_chunk (k := 0) (i := 54) kmX12_countWays_0_e1 (by decide +kernel)
theorem dX12_countWays_57 : decode cX12_countWays 57 = .ok (.iload 4, 2) := rd_chunk (k := 0) (i := 57) kmX12_countWays_0_e1 (by decide +kernel)
theorem dX12_countWays_59 : decode cX12_countWays 59 = .ok (.sipush 1000, 3) := rd_chunk (k := 0) (i := 59) kmX12_countWays_0_e1 (by decide +kernel)
theorem dX12_countWays_62 : decode cX12_countWays 62 = .ok (.imul, 1) := rd_chunk (k := 0) (i := 62) kmX12_countWays_0_e1 (by decide +kernel)
theorem dX12_countWays_63 : decode cX12_countWays 63 = .ok (.iload 5, 2) := rd_chunk (k := 0) (i := 63) kmX12_countWays_0_e1 (by decide +kernel)
abbrev mX12_countWays_64_e1 : ByteArray := .mk #[0x05, 0x60, 0x03, 0x4f, 0x84, 0x05, 0x01, 0xa7, 0xff, 0xe8, 0x84, 0x04, 0x01, 0xa7, 0xff, 0xd4, 0x2a, 0xb4, 0x00, 0x65, 0x03, 0x04, 0x4f, 0x03, 0x36, 0x04, 0x15, 0x04, 0x2a, 0xb4, 0x00, 0x92, 0xa2, 0x00, 0xec, 0x15, 0x04, 0x04, 0x60, 0x36, 0x05, 0x03, 0x36, 0x06, 0x15, 0x06, 0x2a, 0xb4, 0x00, 0x1d, 0x1b, 0x2e, 0xa3, 0x00, 0x2e, 0x03, 0x36, 0x07, 0x15, 0x07, 0x1c, 0xa3, 0x00, 0x1f, 0x2a, 0xb4, 0x00, 0x65, 0x15, 0x05, 0x07, 0x70]
theorem kmX12_countWays_64_e1 : CK cX12_countWays 64 mX12_countWays_64_e1 := ck_of (by decide +kernel)
theorem dX12_countWays_65 : decode cX12_countWays 65 = .ok (.iadd, 1) := rd_chunk (k := 64) (i := 1) kmX12_countWays_64_e1 (by decide +kernel)
theorem dX12_countWays_66 : decode cX12_countWays 66 = .ok (.iconst 0, 1) := rd_chunk (k := 64) (i := 2) kmX12_countWays_64_e1 (by decide +kernel)
theorem dX12_countWays_67 : decode cX12_countWays 67 = .ok (.iastore, 1) := rd_chunk (k := 64) (i := 3) kmX12_countWays_64_e1 (by decide +kernel)
theorem dX12_countWays_68 : decode cX12_countWays 68 = .ok (.iinc 5 1, 3) := rd_chunk (k := 64) (i := 4) kmX12_countWays_64_e1 (by decide +kernel)
theorem dX12_countWays_71 : decode cX12_countWays 71 = .ok (.goto (-24), 3) := rd_chunk (k := 64) (i := 7) kmX12_countWays_64_e1 (by decide +kernel)
theorem dX12_countWays_74 : decode cX12_countWays 74 = .ok (.iinc 4 1, 3) := rd_chunk (k := 64) (i := 10) kmX12_countWays_64_e1 (by decide +kernel)
theorem dX12_countWays_77 : decode cX12_countWays 77 = .ok (.goto (-44), 3) := rd_chunk (k := 64) (i := 13) kmX12_countWays_64_e1 (by decide +kernel)
theorem dX12_countWays_80 : decode cX12_countWays 80 = .ok (.aload_n 0, 1) := rd_chunk (k := 64) (i := 16) kmX12_countWays_64_e1 (by decide +kernel)
theorem dX12_countWays_81 : decode cX12_countWays 81 = .ok (.getfield 101, 3) := rd_chunk (k := 64) (i := 17) kmX12_countWays_64_e1 (by decide +kernel)
theorem dX12_countWays_84 : decode cX12_countWays 84 = .ok (.iconst 0, 1) := rd_chunk (k := 64) (i := 20) kmX12_countWays_64_e1 (by decide +kernel)
theorem dX12_countWays_85 : decode cX12_countWays 85 = .ok (.iconst 1, 1) := rd_chunk (k := 64) (i := 21) kmX12_countWays_64_e1 (by decide +kernel)
theorem dX12_countWays_86 : decode cX12_countWays 86 = .ok (.iastore, 1) := rd_chunk (k := 64) (i := 22) kmX12_countWays_64_e1 (by decide +kernel)
theorem dX12_countWays_87 : decode cX12_countWays 87 = .ok (.iconst 0, 1) := rd_chunk (k := 64) (i := 23) kmX12_countWays_64_e1 (by decide +kernel)
theorem dX12_countWays_88 : decode cX12_countWays 88 = .ok (.istore 4, 2) := rd_chunk (k := 64) (i := 24) kmX12_countWays_64_e1 (by decide +kernel)
theorem dX12_countWays_90 : decode cX12_countWays 90 = .ok (.iload 4, 2) := rd_chunk (k := 64) (i := 26) kmX12_countWays_64_e1 (by decide +kernel)
theorem dX12_countWays_92 : decode cX12_countWays 92 = .ok (.aload_n 0, 1) := rd_chunk (k := 64) (i := 28) kmX12_countWays_64_e1 (by decide +kernel)
theorem dX12_countWays_93 : decode cX12_countWays 93 = .ok (.getfield 146, 3) := rd_chunk (k := 64) (i := 29) kmX12_countWays_64_e1 (by decide +kernel)
theorem dX12_countWays_96 : decode cX12_countWays 96 = .ok (.if_icmp .ge 236, 3) := rd_chunk (k := 64) (i := 32) kmX12_countWays_64_e1 (by decide +kernel)
theorem dX12_countWays_99 : decode cX12_countWays 99 = .ok (.iload 4, 2) := rd_chunk (k := 64) (i := 35) kmX12_countWays_64_e1 (by decide +kernel)
theorem dX12_countWays_101 : decode cX12_countWays 101 = .ok (.iconst 1, 1) := rd_chunk (k := 64) (i := 37) kmX12_countWays_64_e1 (by decide +kernel)
theorem dX12_countWays_102 : decode cX12_countWays 102 = .ok (.iadd, 1) := rd_chunk (k := 64) (i := 38) kmX12_countWays_64_e1 (by decide +kernel)
theorem dX12_countWays_103 : decode cX12_countWays 103 = .ok (.istore 5, 2) := rd_chunk (k := 64) (i := 39) kmX12_countWays_64_e1 (by decide +kernel)
theorem dX12_countWays_105 : decode cX12_countWays 105 = .ok (.iconst 0, 1) := rd_chunk (k := 64) (i := 41) kmX12_countWays_64_e1 (by decide +kernel)
theorem dX12_countWays_106 : decode cX12_countWays 106 = .ok (.istore 6, 2) := rd_chunk (k := 64) (i := 42) kmX12_countWays_64_e1 (by decide +kernel)
theorem dX12_countWays_108 : decode cX12_countWays 108 = .ok (.iload 6, 2) := rd_chunk (k := 64) (i := 44) kmX12_countWays_64_e1 (by decide +kernel)
theorem dX12_countWays_110 : decode cX12_countWays 110 = .ok (.aload_n 0, 1) := rd_chunk (k := 64) (i := 46) kmX12_countWays_64_e1 (by decide +kernel)
theorem dX12_countWays_111 : decode cX12_countWays 111 = .ok (.getfield 29, 3) := rd_chunk (k := 64) (i := 47) kmX12_countWays_64_e1 (by decide +kernel)
theorem dX12_countWays_114 : decode cX12_countWays 114 = .ok (.iload_n 1, 1) := rd_chunk (k := 64) (i := 50) kmX12_countWays_64_e1 (by decide +kernel)
theorem dX12_countWays_115 : decode cX12_countWays 115 = .ok (.iaload, 1) := rd_chunk (k := 64) (i := 51) kmX12_countWays_64_e1 (by decide +kernel)
theorem dX12_countWays_116 : decode cX12_countWays 116 = .ok (.if_icmp .gt 46, 3) := rd_chunk (k := 64) (i := 52) kmX12_countWays_64_e1 (by decide +kernel)
theorem dX12_countWays_119 : decode cX12_countWays 119 = .ok (.iconst 0, 1) := rd_chunk (k := 64) (i := 55) kmX12_countWays_64_e1 (by decide +kernel)
theorem dX12_countWays_120 : decode cX12_countWays 120 = .ok (.istore 7, 2) := rd_chunk (k := 64) (i := 56) kmX12_countWays_64_e1 (by decide +kernel)
theorem dX12_countWays_122 : decode cX12_countWays 122 = .ok (.iload 7, 2) := rd_chunk (k := 64) (i := 58) kmX12_countWays_64_e1 (by decide +kernel)
theorem dX12_countWays_124 : decode cX12_countWays 124 = .ok (.iload_n 2, 1) := rd_chunk (k := 64) (i := 60) kmX12_countWays_64_e1 (by decide +kernel)
theorem dX12_countWays_125 : decode cX12_countWays 125 = .ok (.if_icmp .gt 31, 3) := rd_chunk (k := 64) (i := 61) kmX12_countWays_64_e1 (by decide +kernel)
abbrev mX12_countWays_128_e1 : ByteArray := .mk #[0x2a, 0xb4, 0x00, 0x65, 0x15, 0x05, 0x07, 0x70, 0x1d, 0x68, 0x15, 0x06, 0x60, 0x11, 0x03, 0xe8, 0x68, 0x15, 0x07, 0x60, 0x03, 0x4f, 0x84, 0x07, 0x01, 0xa7, 0xff, 0xe1, 0x84, 0x06, 0x01, 0xa7, 0xff, 0xcd, 0x04, 0x36, 0x06, 0x15, 0x06, 0x06, 0xa3, 0x00, 0x9e, 0x15, 0x06, 0x15, 0x05, 0xa3, 0x00, 0x97, 0x15, 0x05, 0x15, 0x06, 0x64, 0x36, 0x07, 0x06, 0x15, 0x07, 0x68, 0x15, 0x06, 0x60, 0x04, 0x64, 0x36, 0x08, 0x2a, 0xb4, 0x00, 0x55]
theorem kmX12_countWays_128_e1 : CK cX12_countWays 128 mX12_countWays_128_e1 := ck_of (by decide +kernel)
theorem dX12_countWays_128 : decode cX12_countWays 128 = .ok (.aload_n 0, 1) := rd_chunk (k := 128) (i := 0) kmX12_countWays_128_e1 (by decide +kernel)
theorem dX12_countWays_129 : decode cX12_countWays 129 = .ok (.getfield 101, 3) := rd_chunk (k := 128) (i := 1) kmX12_countWays_128_e1 (by decide +kernel)
theorem dX12_countWays_132 : decode cX12_countWays 132 = .ok (.iload 5, 2) := rd_chunk (k := 128) (i := 4) kmX12_countWays_128_e1 (by decide +kernel)
theorem dX12_countWays_134 : decode cX12_countWays 134 = .ok (.iconst 4, 1) := rd_chunk (k := 128) (i := 6) kmX12_countWays_128_e1 (by decide +kernel)
theorem dX12_countWays_135 : decode cX12_countWays 135 = .ok (.irem, 1) := rd_chunk (k := 128) (i := 7) kmX12_countWays_128_e1 (by decide +kernel)
theorem dX12_countWays_136 : decode cX12_countWays 136 = .ok (.iload_n 3, 1) := rd_chunk (k := 128) (i := 8) kmX12_countWays_128_e1 (by decide +kernel)
theorem dX12_countWays_137 : decode cX12_countWays 137 = .ok (.imul, 1) := rd_chunk (k := 128) (i := 9) kmX12_countWays_128_e1 (by decide +kernel)
theorem dX12_countWays_138 : decode cX12_countWays 138 = .ok (.iload 6, 2) := rd_chunk (k := 128) (i := 10) kmX12_countWays_128_e1 (by decide +kernel)
theorem dX12_countWays_140 : decode cX12_countWays 140 = .ok (.iadd, 1) := rd_chunk (k := 128) (i := 12) kmX12_countWays_128_e1 (by decide +kernel)
theorem dX12_countWays_141 : decode cX12_countWays 141 = .ok (.sipush 1000, 3) := rd_chunk (k := 128) (i := 13) kmX12_countWays_128_e1 (by decide +kernel)
theorem dX12_countWays_144 : decode cX12_countWays 144 = .ok (.imul, 1) := rd_chunk (k := 128) (i := 16) kmX12_countWays_128_e1 (by decide +kernel)
theorem dX12_countWays_145 : decode cX12_countWays 145 = .ok (.iload 7, 2) := rd_chunk (k := 128) (i := 17) kmX12_countWays_128_e1 (by decide +kernel)
theorem dX12_countWays_147 : decode cX12_countWays 147 = .ok (.iadd, 1) := rd_chunk (k := 128) (i := 19) kmX12_countWays_128_e1 (by decide +kernel)
theorem dX12_countWays_148 : decode cX12_countWays 148 = .ok (.iconst 0, 1) := rd_chunk (k := 128) (i := 20) kmX12_countWays_128_e1 (by decide +kernel)
theorem dX12_countWays_149 : decode cX12_countWays 149 = .ok (.iastore, 1) := rd_chunk (k := 128) (i := 21) kmX12_countWays_128_e1 (by decide +kernel)
theorem dX12_countWays_150 : decode cX12_countWays 150 = .ok (.iinc 7 1, 3) := rd_chunk (k := 128) (i := 22) kmX12_countWays_128_e1 (by decide +kernel)
theorem dX12_countWays_153 : decode cX12_countWays 153 = .ok (.goto (-31), 3) := rd_chunk (k := 128) (i := 25) kmX12_countWays_128_e1 (by decide +kernel)
theorem dX12_countWays_156 : decode cX12_countWays 156 = .ok (.iinc 6 1, 3) := rd_chunk (k := 128) (i := 28) kmX12_countWays_128_e1 (by decide +kernel)
theorem dX12_countWays_159 : decode cX12_countWays 159 = .ok (.goto (-51), 3) := rd_chunk (k := 128) (i := 31) kmX12_countWays_128_e1 (by decide +kernel)
theorem dX12_countWays_162 : decode cX12_countWays 162 = .ok (.iconst 1, 1) := rd_chunk (k := 128) (i := 34) kmX12_countWays_128_e1 (by decide +kernel)
theorem dX12_countWays_163 : decode cX12_countWays 163 = .ok (.istore 6, 2) := rd_chunk (k := 128) (i := 35) kmX12_countWays_128_e1 (by decide +kernel)
theorem dX12_countWays_165 : decode cX12_countWays 165 = .ok (.iload 6, 2) := rd_chunk (k := 128) (i := 37) kmX12_countWays_128_e1 (by decide +kernel)
theorem dX12_countWays_167 : decode cX12_countWays 167 = .ok (.iconst 3, 1) := rd_chunk (k := 128) (i := 39) kmX12_countWays_128_e1 (by decide +kernel)
theorem dX12_countWays_168 : decode cX12_countWays 168 = .ok (.if_icmp .gt 158, 3) := rd_chunk (k := 128) (i := 40) kmX12_countWays_128_e1 (by decide +kernel)
theorem dX12_countWays_171 : decode cX12_countWays 171 = .ok (.iload 6, 2) := rd_chunk (k := 128) (i := 43) kmX12_countWays_128_e1 (by decide +kernel)
theorem dX12_countWays_173 : decode cX12_countWays 173 = .ok (.iload 5, 2) := rd_chunk (k := 128) (i := 45) kmX12_countWays_128_e1 (by decide +kernel)
theorem dX12_countWays_175 : decode cX12_countWays 175 = .ok (.if_icmp .gt 151, 3) := rd_chunk (k := 128) (i := 47) kmX12_countWays_128_e1 (by decide +kernel)
theorem dX12_countWays_178 : decode cX12_countWays 178 = .ok (.iload 5, 2) := rd_chunk (k := 128) (i := 50) kmX12_countWays_128_e1 (by decide +kernel)
theorem dX12_countWays_180 : decode cX12_countWays 180 = .ok (.iload 6, 2) := rd_chunk (k := 128) (i := 52) kmX12_countWays_128_e1 (by decide +kernel)
theorem dX12_countWays_182 : decode cX12_countWays 182 = .ok (.isub, 1) := rd_chunk (k := 128) (i := 54) kmX12_countWays_128_e1 (by decide +kernel)
theorem dX12_countWays_183 : decode cX12_countWays 183 = .ok (.istore 7, 2) := rd_chunk (k := 128) (i := 55) kmX12_countWays_128_e1 (by decide +kernel)
theorem dX12_countWays_185 : decode cX12_countWays 185 = .ok (.iconst 3, 1) := rd_chunk (k := 128) (i := 57) kmX12_countWays_128_e1 (by decide +kernel)
theorem dX12_countWays_186 : decode cX12_countWays 186 = .ok (.iload 7, 2) := rd_chunk (k := 128) (i := 58) kmX12_countWays_128_e1 (by decide +kernel)
theorem dX12_countWays_188 : decode cX12_countWays 188 = .ok (.imul, 1) := rd_chunk (k := 128) (i := 60) kmX12_countWays_128_e1 (by decide +kernel)
theorem dX12_countWays_189 : decode cX12_countWays 189 = .ok (.iload 6, 2) := rd_chunk (k := 128) (i := 61) kmX12_countWays_128_e1 (by decide +kernel)
theorem dX12_countWays_191 : decode cX12_countWays 191 = .ok (.iadd, 1) := rd_chunk (k := 128) (i := 63) kmX12_countWays_128_e1 (by decide +kernel)
abbrev mX12_countWays_192_e1 : ByteArray := .mk #[0x04, 0x64, 0x36, 0x08, 0x2a, 0xb4, 0x00, 0x55, 0x15, 0x08, 0x2e, 0x13, 0x01, 0x2b, 0xa0, 0x00, 0x06, 0xa7, 0x00, 0x6f, 0x2a, 0xb4, 0x00, 0x58, 0x15, 0x08, 0x2e, 0x36, 0x09, 0x15, 0x09, 0x2a, 0xb4, 0x00, 0x1d, 0x1b, 0x2e, 0xa3, 0x00, 0x5b, 0x2a, 0xb4, 0x00, 0x55, 0x15, 0x08, 0x2e, 0x36, 0x0a, 0x15, 0x0a, 0x1c, 0xa3, 0x00, 0x46, 0x2a, 0xb4, 0x00, 0x65, 0x15, 0x05, 0x07, 0x70, 0x1d, 0x68, 0x15, 0x09, 0x60, 0x11, 0x03, 0xe8, 0x68]
theorem kmX12_countWays_192_e1 : CK cX12_countWays 192 mX12_countWays_192_e1 := ck_of (by decide +kernel)
theorem dX12_countWays_192 : decode cX12_countWays 192 = .ok (.iconst 1, 1) := rd_chunk (k := 192) (i := 0) kmX12_countWays_192_e1 (by decide +kernel)
theorem dX12_countWays_193 : decode cX12_countWays 193 = .ok (.isub, 1) := rd_chunk (k := 192) (i := 1) kmX12_countWays_192_e1 (by decide +kernel)
theorem dX12_countWays_194 : decode cX12_countWays 194 = .ok (.istore 8, 2) := rd_chunk (k := 192) (i := 2) kmX12_countWays_192_e1 (by decide +kernel)
theorem dX12_countWays_196 : decode cX12_countWays 196 = .ok (.aload_n 0, 1) := rd_chunk (k := 192) (i := 4) kmX12_countWays_192_e1 (by decide +kernel)
theorem dX12_countWays_197 : decode cX12_countWays 197 = .ok (.getfield 85, 3) := rd_chunk (k := 192) (i := 5) kmX12_countWays_192_e1 (by decide +kernel)
theorem dX12_countWays_200 : decode cX12_countWays 200 = .ok (.iload 8, 2) := rd_chunk (k := 192) (i := 8) kmX12_countWays_192_e1 (by decide +kernel)
theorem dX12_countWays_202 : decode cX12_countWays 202 = .ok (.iaload, 1) := rd_chunk (k := 192) (i := 10) kmX12_countWays_192_e1 (by decide +kernel)
theorem dX12_countWays_203 : decode cX12_countWays 203 = .ok (.ldc_w 299, 3) := rd_chunk (k := 192) (i := 11) kmX12_countWays_192_e1 (by decide +kernel)
theorem dX12_countWays_206 : decode cX12_countWays 206 = .ok (.if_icmp .ne 6, 3) := rd_chunk (k := 192) (i := 14) kmX12_countWays_192_e1 (by decide +kernel)
theorem dX12_countWays_209 : decode cX12_countWays 209 = .ok (.goto 111, 3) := rd_chunk (k := 192) (i := 17) kmX12_countWays_192_e1 (by decide +kernel)
theorem dX12_countWays_212 : decode cX12_countWays 212 = .ok (.aload_n 0, 1) := rd_chunk (k := 192) (i := 20) kmX12_countWays_192_e1 (by decide +kernel)
theorem dX12_countWays_213 : decode cX12_countWays 213 = .ok (.getfield 88, 3) := rd_chunk (k := 192) (i := 21) kmX12_countWays_192_e1 (by decide +kernel)
theorem dX12_countWays_216 : decode cX12_countWays 216 = .ok (.iload 8, 2) := rd_chunk (k := 192) (i := 24) kmX12_countWays_192_e1 (by decide +kernel)
theorem dX12_countWays_218 : decode cX12_countWays 218 = .ok (.iaload, 1) := rd_chunk (k := 192) (i := 26) kmX12_countWays_192_e1 (by decide +kernel)
theorem dX12_countWays_219 : decode cX12_countWays 219 = .ok (.istore 9, 2) := rd_chunk (k := 192) (i := 27) kmX12_countWays_192_e1 (by decide +kernel)
theorem dX12_countWays_221 : decode cX12_countWays 221 = .ok (.iload 9, 2) := rd_chunk (k := 192) (i := 29) kmX12_countWays_192_e1 (by decide +kernel)
theorem dX12_countWays_223 : decode cX12_countWays 223 = .ok (.aload_n 0, 1) := rd_chunk (k := 192) (i := 31) kmX12_countWays_192_e1 (by decide +kernel)
theorem dX12_countWays_224 : decode cX12_countWays 224 = .ok (.getfield 29, 3) := rd_chunk (k := 192) (i := 32) kmX12_countWays_192_e1 (by decide +kernel)
theorem dX12_countWays_227 : decode cX12_countWays 227 = .ok (.iload_n 1, 1) := rd_chunk (k := 192) (i := 35) kmX12_countWays_192_e1 (by decide +kernel)
theorem dX12_countWays_228 : decode cX12_countWays 228 = .ok (.iaload, 1) := rd_chunk (k := 192) (i := 36) kmX12_countWays_192_e1 (by decide +kernel)
theorem dX12_countWays_229 : decode cX12_countWays 229 = .ok (.if_icmp .gt 91, 3) := rd_chunk (k := 192) (i := 37) kmX12_countWays_192_e1 (by decide +kernel)
theorem dX12_countWays_232 : decode cX12_countWays 232 = .ok (.aload_n 0, 1) := rd_chunk (k := 192) (i := 40) kmX12_countWays_192_e1 (by decide +kernel)
theorem dX12_countWays_233 : decode cX12_countWays 233 = .ok (.getfield 85, 3) := rd_chunk (k := 192) (i := 41) kmX12_countWays_192_e1 (by decide +kernel)
theorem dX12_countWays_236 : decode cX12_countWays 236 = .ok (.iload 8, 2) := rd_chunk (k := 192) (i := 44) kmX12_countWays_192_e1 (by decide +kernel)
theorem dX12_countWays_238 : decode cX12_countWays 238 = .ok (.iaload, 1) := rd_chunk (k := 192) (i := 46) kmX12_countWays_192_e1 (by decide +kernel)
theorem dX12_countWays_239 : decode cX12_countWays 239 = .ok (.istore 10, 2) := rd_chunk (k := 192) (i := 47) kmX12_countWays_192_e1 (by decide +kernel)
theorem dX12_countWays_241 : decode cX12_countWays 241 = .ok (.iload 10, 2) := rd_chunk (k := 192) (i := 49) kmX12_countWays_192_e1 (by decide +kernel)
theorem dX12_countWays_243 : decode cX12_countWays 243 = .ok (.iload_n 2, 1) := rd_chunk (k := 192) (i := 51) kmX12_countWays_192_e1 (by decide +kernel)
theorem dX12_countWays_244 : decode cX12_countWays 244 = .ok (.if_icmp .gt 70, 3) := rd_chunk (k := 192) (i := 52) kmX12_countWays_192_e1 (by decide +kernel)
theorem dX12_countWays_247 : decode cX12_countWays 247 = .ok (.aload_n 0, 1) := rd_chunk (k := 192) (i := 55) kmX12_countWays_192_e1 (by decide +kernel)
theorem dX12_countWays_248 : decode cX12_countWays 248 = .ok (.getfield 101, 3) := rd_chunk (k := 192) (i := 56) kmX12_countWays_192_e1 (by decide +kernel)
theorem dX12_countWays_251 : decode cX12_countWays 251 = .ok (.iload 5, 2) := rd_chunk (k := 192) (i := 59) kmX12_countWays_192_e1 (by decide +kernel)
theorem dX12_countWays_253 : decode cX12_countWays 253 = .ok (.iconst 4, 1) := rd_chunk (k := 192) (i := 61) kmX12_countWays_192_e1 (by decide +kernel)
theorem dX12_countWays_254 : decode cX12_countWays 254 = .ok (.irem, 1) := rd_chunk (k := 192) (i := 62) kmX12_countWays_192_e1 (by decide +kernel)
theorem dX12_countWays_255 : decode cX12_countWays 255 = .ok (.iload_n 3, 1) := rd_chunk (k := 192) (i := 63) kmX12_countWays_192_e1 (by decide +kernel)
abbrev mX12_countWays_256_e1 : ByteArray := .mk #[0x68, 0x15, 0x09, 0x60, 0x11, 0x03, 0xe8, 0x68, 0x15, 0x0a, 0x60, 0x5c, 0x2e, 0x2a, 0xb4, 0x00, 0x65, 0x15, 0x07, 0x07, 0x70, 0x1d, 0x68, 0x15, 0x09, 0x60, 0x2a, 0xb4, 0x00, 0x58, 0x15, 0x08, 0x2e, 0x64, 0x11, 0x03, 0xe8, 0x68, 0x15, 0x0a, 0x60, 0x2a, 0xb4, 0x00, 0x55, 0x15, 0x08, 0x2e, 0x64, 0x2e, 0x60, 0x4f, 0x84, 0x0a, 0x01, 0xa7, 0xff, 0xba, 0x84, 0x09, 0x01, 0xa7, 0xff, 0xa0, 0x84, 0x06, 0x01, 0xa7, 0xff, 0x62, 0x84, 0x04]
theorem kmX12_countWays_256_e1 : CK cX12_countWays 256 mX12_countWays_256_e1 := ck_of (by decide +kernel)
theorem dX12_countWays_256 : decode cX12_countWays 256 = .ok (.imul, 1) := rd_chunk (k := 256) (i := 0) kmX12_countWays_256_e1 (by decide +kernel)
theorem dX12_countWays_257 : decode cX12_countWays 257 = .ok (.iload 9, 2) := rd_chunk (k := 256) (i := 1) kmX12_countWays_256_e1 (by decide +kernel)
theorem dX12_countWays_259 : decode cX12_countWays 259 = .ok (.iadd, 1) := rd_chunk (k := 256) (i := 3) kmX12_countWays_256_e1 (by decide +kernel)
theorem dX12_countWays_260 : decode cX12_countWays 260 = .ok (.sipush 1000, 3) := rd_chunk (k := 256) (i := 4) kmX12_countWays_256_e1 (by decide +kernel)
theorem dX12_countWays_263 : decode cX12_countWays 263 = .ok (.imul, 1) := rd_chunk (k := 256) (i := 7) kmX12_countWays_256_e1 (by decide +kernel)
theorem dX12_countWays_264 : decode cX12_countWays 264 = .ok (.iload 10, 2) := rd_chunk (k := 256) (i := 8) kmX12_countWays_256_e1 (by decide +kernel)
theorem dX12_countWays_266 : decode cX12_countWays 266 = .ok (.iadd, 1) := rd_chunk (k := 256) (i := 10) kmX12_countWays_256_e1 (by decide +kernel)
theorem dX12_countWays_267 : decode cX12_countWays 267 = .ok (.dup2, 1) := rd_chunk (k := 256) (i := 11) kmX12_countWays_256_e1 (by decide +kernel)
theorem dX12_countWays_268 : decode cX12_countWays 268 = .ok (.iaload, 1) := rd_chunk (k := 256) (i := 12) kmX12_countWays_256_e1 (by decide +kernel)
theorem dX12_countWays_269 : decode cX12_countWays 269 = .ok (.aload_n 0, 1) := rd_chunk (k := 256) (i := 13) kmX12_countWays_256_e1 (by decide +kernel)
theorem dX12_countWays_270 : decode cX12_countWays 270 = .ok (.getfield 101, 3) := rd_chunk (k := 256) (i := 14) kmX12_countWays_256_e1 (by decide +kernel)
theorem dX12_countWays_273 : decode cX12_countWays 273 = .ok (.iload 7, 2) := rd_chunk (k := 256) (i := 17) kmX12_countWays_256_e1 (by decide +kernel)
theorem dX12_countWays_275 : decode cX12_countWays 275 = .ok (.iconst 4, 1) := rd_chunk (k := 256) (i := 19) kmX12_countWays_256_e1 (by decide +kernel)
theorem dX12_countWays_276 : decode cX12_countWays 276 = .ok (.irem, 1) := rd_chunk (k := 256) (i := 20) kmX12_countWays_256_e1 (by decide +kernel)
theorem dX12_countWays_277 : decode cX12_countWays 277 = .ok (.iload_n 3, 1) := rd_chunk (k := 256) (i := 21) kmX12_countWays_256_e1 (by decide +kernel)
theorem dX12_countWays_278 : decode cX12_countWays 278 = .ok (.imul, 1) := rd_chunk (k := 256) (i := 22) kmX12_countWays_256_e1 (by decide +kernel)
theorem dX12_countWays_279 : decode cX12_countWays 279 = .ok (.iload 9, 2) := rd_chunk (k := 256) (i := 23) kmX12_countWays_256_e1 (by decide +kernel)
theorem dX12_countWays_281 : decode cX12_countWays 281 = .ok (.iadd, 1) := rd_chunk (k := 256) (i := 25) kmX12_countWays_256_e1 (by decide +kernel)
theorem dX12_countWays_282 : decode cX12_countWays 282 = .ok (.aload_n 0, 1) := rd_chunk (k := 256) (i := 26) kmX12_countWays_256_e1 (by decide +kernel)
theorem dX12_countWays_283 : decode cX12_countWays 283 = .ok (.getfield 88, 3) := rd_chunk (k := 256) (i := 27) kmX12_countWays_256_e1 (by decide +kernel)
theorem dX12_countWays_286 : decode cX12_countWays 286 = .ok (.iload 8, 2) := rd_chunk (k := 256) (i := 30) kmX12_countWays_256_e1 (by decide +kernel)
theorem dX12_countWays_288 : decode cX12_countWays 288 = .ok (.iaload, 1) := rd_chunk (k := 256) (i := 32) kmX12_countWays_256_e1 (by decide +kernel)
theorem dX12_countWays_289 : decode cX12_countWays 289 = .ok (.isub, 1) := rd_chunk (k := 256) (i := 33) kmX12_countWays_256_e1 (by decide +kernel)
theorem dX12_countWays_290 : decode cX12_countWays 290 = .ok (.sipush 1000, 3) := rd_chunk (k := 256) (i := 34) kmX12_countWays_256_e1 (by decide +kernel)
theorem dX12_countWays_293 : decode cX12_countWays 293 = .ok (.imul, 1) := rd_chunk (k := 256) (i := 37) kmX12_countWays_256_e1 (by decide +kernel)
theorem dX12_countWays_294 : decode cX12_countWays 294 = .ok (.iload 10, 2) := rd_chunk (k := 256) (i := 38) kmX12_countWays_256_e1 (by decide +kernel)
theorem dX12_countWays_296 : decode cX12_countWays 296 = .ok (.iadd, 1) := rd_chunk (k := 256) (i := 40) kmX12_countWays_256_e1 (by decide +kernel)
theorem dX12_countWays_297 : decode cX12_countWays 297 = .ok (.aload_n 0, 1) := rd_chunk (k := 256) (i := 41) kmX12_countWays_256_e1 (by decide +kernel)
theorem dX12_countWays_298 : decode cX12_countWays 298 = .ok (.getfield 85, 3) := rd_chunk (k := 256) (i := 42) kmX12_countWays_256_e1 (by decide +kernel)
theorem dX12_countWays_301 : decode cX12_countWays 301 = .ok (.iload 8, 2) := rd_chunk (k := 256) (i := 45) kmX12_countWays_256_e1 (by decide +kernel)
theorem dX12_countWays_303 : decode cX12_countWays 303 = .ok (.iaload, 1) := rd_chunk (k := 256) (i := 47) kmX12_countWays_256_e1 (by decide +kernel)
theorem dX12_countWays_304 : decode cX12_countWays 304 = .ok (.isub, 1) := rd_chunk (k := 256) (i := 48) kmX12_countWays_256_e1 (by decide +kernel)
theorem dX12_countWays_305 : decode cX12_countWays 305 = .ok (.iaload, 1) := rd_chunk (k := 256) (i := 49) kmX12_countWays_256_e1 (by decide +kernel)
theorem dX12_countWays_306 : decode cX12_countWays 306 = .ok (.iadd, 1) := rd_chunk (k := 256) (i := 50) kmX12_countWays_256_e1 (by decide +kernel)
theorem dX12_countWays_307 : decode cX12_countWays 307 = .ok (.iastore, 1) := rd_chunk (k := 256) (i := 51) kmX12_countWays_256_e1 (by decide +kernel)
theorem dX12_countWays_308 : decode cX12_countWays 308 = .ok (.iinc 10 1, 3) := rd_chunk (k := 256) (i := 52) kmX12_countWays_256_e1 (by decide +kernel)
theorem dX12_countWays_311 : decode cX12_countWays 311 = .ok (.goto (-70), 3) := rd_chunk (k := 256) (i := 55) kmX12_countWays_256_e1 (by decide +kernel)
theorem dX12_countWays_314 : decode cX12_countWays 314 = .ok (.iinc 9 1, 3) := rd_chunk (k := 256) (i := 58) kmX12_countWays_256_e1 (by decide +kernel)
theorem dX12_countWays_317 : decode cX12_countWays 317 = .ok (.goto (-96), 3) := rd_chunk (k := 256) (i := 61) kmX12_countWays_256_e1 (by decide +kernel)
abbrev mX12_countWays_320_e1 : ByteArray := .mk #[0x84, 0x06, 0x01, 0xa7, 0xff, 0x62, 0x84, 0x04, 0x01, 0xa7, 0xff, 0x11, 0x03, 0x36, 0x04, 0x03, 0x36, 0x05, 0x15, 0x05, 0x2a, 0xb4, 0x00, 0x1d, 0x1b, 0x2e, 0xa3, 0x00, 0x41, 0x2a, 0xb4, 0x00, 0x65, 0x2a, 0xb4, 0x00, 0x92, 0x07, 0x70, 0x1d, 0x68, 0x15, 0x05, 0x60, 0x11, 0x03, 0xe8, 0x68, 0x1c, 0x60, 0x2e, 0x36, 0x06, 0x15, 0x06, 0x9e, 0x00, 0x17, 0x2a, 0xb4, 0x01, 0x41, 0x02, 0xa0, 0x00, 0x0f, 0x2a, 0x15, 0x05, 0xb5, 0x01, 0x41]
theorem kmX12_countWays_320_e1 : CK cX12_countWays 320 mX12_countWays_320_e1 := ck_of (by decide +kernel)
theorem dX12_countWays_320 : decode cX12_countWays 320 = .ok (.iinc 6 1, 3) := rd_chunk (k := 320) (i := 0) kmX12_countWays_320_e1 (by decide +kernel)
theorem dX12_countWays_323 : decode cX12_countWays 323 = .ok (.goto (-158), 3) := rd_chunk (k := 320) (i := 3) kmX12_countWays_320_e1 (by decide +kernel)
theorem dX12_countWays_326 : decode cX12_countWays 326 = .ok (.iinc 4 1, 3) := rd_chunk (k := 320) (i := 6) kmX12_countWays_320_e1 (by decide +kernel)
theorem dX12_countWays_329 : decode cX12_countWays 329 = .ok (.goto (-239), 3) := rd_chunk (k := 320) (i := 9) kmX12_countWays_320_e1 (by decide +kernel)
theorem dX12_countWays_332 : decode cX12_countWays 332 = .ok (.iconst 0, 1) := rd_chunk (k := 320) (i := 12) kmX12_countWays_320_e1 (by decide +kernel)
theorem dX12_countWays_333 : decode cX12_countWays 333 = .ok (.istore 4, 2) := rd_chunk (k := 320) (i := 13) kmX12_countWays_320_e1 (by decide +kernel)
theorem dX12_countWays_335 : decode cX12_countWays 335 = .ok (.iconst 0, 1) := rd_chunk (k := 320) (i := 15) kmX12_countWays_320_e1 (by decide +kernel)
theorem dX12_countWays_336 : decode cX12_countWays 336 = .ok (.istore 5, 2) := rd_chunk (k := 320) (i := 16) kmX12_countWays_320_e1 (by decide +kernel)
theorem dX12_countWays_338 : decode cX12_countWays 338 = .ok (.iload 5, 2) := rd_chunk (k := 320) (i := 18) kmX12_countWays_320_e1 (by decide +kernel)
theorem dX12_countWays_340 : decode cX12_countWays 340 = .ok (.aload_n 0, 1) := rd_chunk (k := 320) (i := 20) kmX12_countWays_320_e1 (by decide +kernel)
theorem dX12_countWays_341 : decode cX12_countWays 341 = .ok (.getfield 29, 3) := rd_chunk (k := 320) (i := 21) kmX12_countWays_320_e1 (by decide +kernel)
theorem dX12_countWays_344 : decode cX12_countWays 344 = .ok (.iload_n 1, 1) := rd_chunk (k := 320) (i := 24) kmX12_countWays_320_e1 (by decide +kernel)
theorem dX12_countWays_345 : decode cX12_countWays 345 = .ok (.iaload, 1) := rd_chunk (k := 320) (i := 25) kmX12_countWays_320_e1 (by decide +kernel)
theorem dX12_countWays_346 : decode cX12_countWays 346 = .ok (.if_icmp .gt 65, 3) := rd_chunk (k := 320) (i := 26) kmX12_countWays_320_e1 (by decide +kernel)
theorem dX12_countWays_349 : decode cX12_countWays 349 = .ok (.aload_n 0, 1) := rd_chunk (k := 320) (i := 29) kmX12_countWays_320_e1 (by decide +kernel)
theorem dX12_countWays_350 : decode cX12_countWays 350 = .ok (.getfield 101, 3) := rd_chunk (k := 320) (i := 30) kmX12_countWays_320_e1 (by decide +kernel)
theorem dX12_countWays_353 : decode cX12_countWays 353 = .ok (.aload_n 0, 1) := rd_chunk (k := 320) (i := 33) kmX12_countWays_320_e1 (by decide +kernel)
theorem dX12_countWays_354 : decode cX12_countWays 354 = .ok (.getfield 146, 3) := rd_chunk (k := 320) (i := 34) kmX12_countWays_320_e1 (by decide +kernel)
theorem dX12_countWays_357 : decode cX12_countWays 357 = .ok (.iconst 4, 1) := rd_chunk (k := 320) (i := 37) kmX12_countWays_320_e1 (by decide +kernel)
theorem dX12_countWays_358 : decode cX12_countWays 358 = .ok (.irem, 1) := rd_chunk (k := 320) (i := 38) kmX12_countWays_320_e1 (by decide +kernel)
theorem dX12_countWays_359 : decode cX12_countWays 359 = .ok (.iload_n 3, 1) := rd_chunk (k := 320) (i := 39) kmX12_countWays_320_e1 (by decide +kernel)
theorem dX12_countWays_360 : decode cX12_countWays 360 = .ok (.imul, 1) := rd_chunk (k := 320) (i := 40) kmX12_countWays_320_e1 (by decide +kernel)
theorem dX12_countWays_361 : decode cX12_countWays 361 = .ok (.iload 5, 2) := rd_chunk (k := 320) (i := 41) kmX12_countWays_320_e1 (by decide +kernel)
theorem dX12_countWays_363 : decode cX12_countWays 363 = .ok (.iadd, 1) := rd_chunk (k := 320) (i := 43) kmX12_countWays_320_e1 (by decide +kernel)
theorem dX12_countWays_364 : decode cX12_countWays 364 = .ok (.sipush 1000, 3) := rd_chunk (k := 320) (i := 44) kmX12_countWays_320_e1 (by decide +kernel)
theorem dX12_countWays_367 : decode cX12_countWays 367 = .ok (.imul, 1) := rd_chunk (k := 320) (i := 47) kmX12_countWays_320_e1 (by decide +kernel)
theorem dX12_countWays_368 : decode cX12_countWays 368 = .ok (.iload_n 2, 1) := rd_chunk (k := 320) (i := 48) kmX12_countWays_320_e1 (by decide +kernel)
theorem dX12_countWays_369 : decode cX12_countWays 369 = .ok (.iadd, 1) := rd_chunk (k := 320) (i := 49) kmX12_countWays_320_e1 (by decide +kernel)
theorem dX12_countWays_370 : decode cX12_countWays 370 = .ok (.iaload, 1) := rd_chunk (k := 320) (i := 50) kmX12_countWays_320_e1 (by decide +kernel)
theorem dX12_countWays_371 : decode cX12_countWays 371 = .ok (.istore 6, 2) := rd_chunk (k := 320) (i := 51) kmX12_countWays_320_e1 (by decide +kernel)
theorem dX12_countWays_373 : decode cX12_countWays 373 = .ok (.iload 6, 2) := rd_chunk (k := 320) (i := 53) kmX12_countWays_320_e1 (by decide +kernel)
theorem dX12_countWays_375 : decode cX12_countWays 375 = .ok (.ifCond .le 23, 3) := rd_chunk (k := 320) (i := 55) kmX12_countWays_320_e1 (by decide +kernel)
theorem dX12_countWays_378 : decode cX12_countWays 378 = .ok (.aload_n 0, 1) := rd_chunk (k := 320) (i := 58) kmX12_countWays_320_e1 (by decide +kernel)
theorem dX12_countWays_379 : decode cX12_countWays 379 = .ok (.getfield 321, 3) := rd_chunk (k := 320) (i := 59) kmX12_countWays_320_e1 (by decide +kernel)
theorem dX12_countWays_382 : decode cX12_countWays 382 = .ok (.iconst (-1), 1) := rd_chunk (k := 320) (i := 62) kmX12_countWays_320_e1 (by decide +kernel)
theorem dX12_countWays_383 : decode cX12_countWays 383 = .ok (.if_icmp .ne 15, 3) := rd_chunk (k := 320) (i := 63) kmX12_countWays_320_e1 (by decide +kernel)
abbrev mX12_countWays_384_e1 : ByteArray := .mk #[0x00, 0x0f, 0x2a, 0x15, 0x05, 0xb5, 0x01, 0x41, 0x2a, 0x15, 0x06, 0xb5, 0x01, 0x44, 0x15, 0x04, 0x15, 0x06, 0x60, 0x36, 0x04, 0x84, 0x05, 0x01, 0xa7, 0xff, 0xba, 0x15, 0x04, 0xac]
theorem kmX12_countWays_384_e1 : CK cX12_countWays 384 mX12_countWays_384_e1 := ck_of (by decide +kernel)
theorem dX12_countWays_386 : decode cX12_countWays 386 = .ok (.aload_n 0, 1) := rd_chunk (k := 384) (i := 2) kmX12_countWays_384_e1 (by decide +kernel)
theorem dX12_countWays_387 : decode cX12_countWays 387 = .ok (.iload 5, 2) := rd_chunk (k := 384) (i := 3) kmX12_countWays_384_e1 (by decide +kernel)
theorem dX12_countWays_389 : decode cX12_countWays 389 = .ok (.putfield 321, 3) := rd_chunk (k := 384) (i := 5) kmX12_countWays_384_e1 (by decide +kernel)
theorem dX12_countWays_392 : decode cX12_countWays 392 = .ok (.aload_n 0, 1) := rd_chunk (k := 384) (i := 8) kmX12_countWays_384_e1 (by decide +kernel)
theorem dX12_countWays_393 : decode cX12_countWays 393 = .ok (.iload 6, 2) := rd_chunk (k := 384) (i := 9) kmX12_countWays_384_e1 (by decide +kernel)
theorem dX12_countWays_395 : decode cX12_countWays 395 = .ok (.putfield 324, 3) := rd_chunk (k := 384) (i := 11) kmX12_countWays_384_e1 (by decide +kernel)
theorem dX12_countWays_398 : decode cX12_countWays 398 = .ok (.iload 4, 2) := rd_chunk (k := 384) (i := 14) kmX12_countWays_384_e1 (by decide +kernel)
theorem dX12_countWays_400 : decode cX12_countWays 400 = .ok (.iload 6, 2) := rd_chunk (k := 384) (i := 16) kmX12_countWays_384_e1 (by decide +kernel)
theorem dX12_countWays_402 : decode cX12_countWays 402 = .ok (.iadd, 1) := rd_chunk (k := 384) (i := 18) kmX12_countWays_384_e1 (by decide +kernel)
theorem dX12_countWays_403 : decode cX12_countWays 403 = .ok (.istore 4, 2) := rd_chunk (k := 384) (i := 19) kmX12_countWays_384_e1 (by decide +kernel)
theorem dX12_countWays_405 : decode cX12_countWays 405 = .ok (.iinc 5 1, 3) := rd_chunk (k := 384) (i := 21) kmX12_countWays_384_e1 (by decide +kernel)
theorem dX12_countWays_408 : decode cX12_countWays 408 = .ok (.goto (-70), 3) := rd_chunk (k := 384) (i := 24) kmX12_countWays_384_e1 (by decide +kernel)
theorem dX12_countWays_411 : decode cX12_countWays 411 = .ok (.iload 4, 2) := rd_chunk (k := 384) (i := 27) kmX12_countWays_384_e1 (by decide +kernel)
theorem dX12_countWays_413 : decode cX12_countWays 413 = .ok (.ireturn, 1) := rd_chunk (k := 384) (i := 29) kmX12_countWays_384_e1 (by decide +kernel)
theorem dX12_isCost_0 : decode cX12_isCost 0 = .ok (.iload_n 0, 1) := by decide +kernel
theorem dX12_isCost_1 : decode cX12_isCost 1 = .ok (.iconst 0, 1) := by decide +kernel
theorem dX12_isCost_2 : decode cX12_isCost 2 = .ok (.sipush 999, 3) := by decide +kernel
theorem dX12_isCost_5 : decode cX12_isCost 5 = .ok (.invokestatic 149, 3) := by decide +kernel
theorem dX12_isCost_8 : decode cX12_isCost 8 = .ok (.ireturn, 1) := by decide +kernel
theorem dX12_ways_0 : decode cX12_ways 0 = .ok (.aload_n 0, 1) := by decide +kernel
theorem dX12_ways_1 : decode cX12_ways 1 = .ok (.iconst 0, 1) := by decide +kernel
theorem dX12_ways_2 : decode cX12_ways 2 = .ok (.putfield 140, 3) := by decide +kernel
theorem dX12_ways_5 : decode cX12_ways 5 = .ok (.aload_n 0, 1) := by decide +kernel
theorem dX12_ways_6 : decode cX12_ways 6 = .ok (.iload_n 1, 1) := by decide +kernel
theorem dX12_ways_7 : decode cX12_ways 7 = .ok (.invokevirtual 263, 3) := by decide +kernel
theorem dX12_ways_10 : decode cX12_ways 10 = .ok (.ifCond .eq 17, 3) := by decide +kernel
theorem dX12_ways_13 : decode cX12_ways 13 = .ok (.aload_n 0, 1) := by decide +kernel
theorem dX12_ways_14 : decode cX12_ways 14 = .ok (.getfield 146, 3) := by decide +kernel
theorem dX12_ways_17 : decode cX12_ways 17 = .ok (.ifCond .eq 10, 3) := by decide +kernel
theorem dX12_ways_20 : decode cX12_ways 20 = .ok (.iload_n 2, 1) := by decide +kernel
theorem dX12_ways_21 : decode cX12_ways 21 = .ok (.invokestatic 327, 3) := by decide +kernel
theorem dX12_ways_24 : decode cX12_ways 24 = .ok (.ifCond .ne 7, 3) := by decide +kernel
theorem dX12_ways_27 : decode cX12_ways 27 = .ok (.ldc2_w 285, 3) := by decide +kernel
theorem dX12_ways_30 : decode cX12_ways 30 = .ok (.lreturn, 1) := by decide +kernel
theorem dX12_ways_31 : decode cX12_ways 31 = .ok (.aload_n 0, 1) := by decide +kernel
theorem dX12_ways_32 : decode cX12_ways 32 = .ok (.iload_n 1, 1) := by decide +kernel
theorem dX12_ways_33 : decode cX12_ways 33 = .ok (.iload_n 2, 1) := by decide +kernel
theorem dX12_ways_34 : decode cX12_ways 34 = .ok (.invokevirtual 330, 3) := by decide +kernel
theorem dX12_ways_37 : decode cX12_ways 37 = .ok (.istore_n 3, 1) := by decide +kernel
theorem dX12_ways_38 : decode cX12_ways 38 = .ok (.aload_n 0, 1) := by decide +kernel
theorem dX12_ways_39 : decode cX12_ways 39 = .ok (.iconst 0, 1) := by decide +kernel
theorem dX12_ways_40 : decode cX12_ways 40 = .ok (.putfield 143, 3) := by decide +kernel
theorem dX12_ways_43 : decode cX12_ways 43 = .ok (.aload_n 0, 1) := by decide +kernel
theorem dX12_ways_44 : decode cX12_ways 44 = .ok (.aload_n 0, 1) := by decide +kernel
theorem dX12_ways_45 : decode cX12_ways 45 = .ok (.getfield 324, 3) := by decide +kernel
theorem dX12_ways_48 : decode cX12_ways 48 = .ok (.i2l, 1) := by decide +kernel
theorem dX12_ways_49 : decode cX12_ways 49 = .ok (.invokevirtual 276, 3) := by decide +kernel
theorem dX12_ways_52 : decode cX12_ways 52 = .ok (.iload_n 3, 1) := by decide +kernel
theorem dX12_ways_53 : decode cX12_ways 53 = .ok (.i2l, 1) := by decide +kernel
theorem dX12_ways_54 : decode cX12_ways 54 = .ok (.lreturn, 1) := by decide +kernel
theorem dX12_countTreading_0 : decode cX12_countTreading 0 = .ok (.aload_n 0, 1) := by decide +kernel
theorem dX12_countTreading_1 : decode cX12_countTreading 1 = .ok (.iload_n 1, 1) := by decide +kernel
theorem dX12_countTreading_2 : decode cX12_countTreading 2 = .ok (.iload_n 2, 1) := by decide +kernel
theorem dX12_countTreading_3 : decode cX12_countTreading 3 = .ok (.invokevirtual 330, 3) := by decide +kernel
theorem dX12_countTreading_6 : decode cX12_countTreading 6 = .ok (.istore 4, 2) := by decide +kernel
theorem dX12_countTreading_8 : decode cX12_countTreading 8 = .ok (.aload_n 0, 1) := by decide +kernel
theorem dX12_countTreading_9 : decode cX12_countTreading 9 = .ok (.iload_n 3, 1) := by decide +kernel
theorem dX12_countTreading_10 : decode cX12_countTreading 10 = .ok (.putfield 91, 3) := by decide +kernel
theorem dX12_countTreading_13 : decode cX12_countTreading 13 = .ok (.aload_n 0, 1) := by decide +kernel
theorem dX12_countTreading_14 : decode cX12_countTreading 14 = .ok (.iload_n 1, 1) := by decide +kernel
theorem dX12_countTreading_15 : decode cX12_countTreading 15 = .ok (.iload_n 2, 1) := by decide +kernel
theorem dX12_countTreading_16 : decode cX12_countTreading 16 = .ok (.invokevirtual 330, 3) := by decide +kernel
theorem dX12_countTreading_19 : decode cX12_countTreading 19 = .ok (.istore 5, 2) := by decide +kernel
theorem dX12_countTreading_21 : decode cX12_countTreading 21 = .ok (.aload_n 0, 1) := by decide +kernel
theorem dX12_countTreading_22 : decode cX12_countTreading 22 = .ok (.iconst (-1), 1) := by decide +kernel
theorem dX12_countTreading_23 : decode cX12_countTreading 23 = .ok (.putfield 91, 3) := by decide +kernel
theorem dX12_countTreading_26 : decode cX12_countTreading 26 = .ok (.iload 4, 2) := by decide +kernel
theorem dX12_countTreading_28 : decode cX12_countTreading 28 = .ok (.iload 5, 2) := by decide +kernel
theorem dX12_countTreading_30 : decode cX12_countTreading 30 = .ok (.isub, 1) := by decide +kernel
theorem dX12_countTreading_31 : decode cX12_countTreading 31 = .ok (.ireturn, 1) := by decide +kernel
theorem dX12_trod_0 : decode cX12_trod 0 = .ok (.aload_n 0, 1) := by decide +kernel
theorem dX12_trod_1 : decode cX12_trod 1 = .ok (.iconst 0, 1) := by decide +kernel
theorem dX12_trod_2 : decode cX12_trod 2 = .ok (.putfield 140, 3) := by decide +kernel
theorem dX12_trod_5 : decode cX12_trod 5 = .ok (.aload_n 0, 1) := by decide +kernel
theorem dX12_trod_6 : decode cX12_trod 6 = .ok (.iload_n 1, 1) := by decide +kernel
theorem dX12_trod_7 : decode cX12_trod 7 = .ok (.invokevirtual 263, 3) := by decide +kernel
theorem dX12_trod_10 : decode cX12_trod 10 = .ok (.ifCond .eq 18, 3) := by decide +kernel
theorem dX12_trod_13 : decode cX12_trod 13 = .ok (.iload_n 2, 1) := by decide +kernel
theorem dX12_trod_14 : decode cX12_trod 14 = .ok (.invokestatic 327, 3) := by decide +kernel
theorem dX12_trod_17 : decode cX12_trod 17 = .ok (.ifCond .eq 11, 3) := by decide +kernel
theorem dX12_trod_20 : decode cX12_trod 20 = .ok (.aload_n 0, 1) := by decide +kernel
theorem dX12_trod_21 : decode cX12_trod 21 = .ok (.iload_n 3, 1) := by decide +kernel
theorem dX12_trod_22 : decode cX12_trod 22 = .ok (.invokevirtual 249, 3) := by decide +kernel
theorem dX12_trod_25 : decode cX12_trod 25 = .ok (.ifCond .ne 5, 3) := by decide +kernel
theorem dX12_trod_28 : decode cX12_trod 28 = .ok (.iconst (-1), 1) := by decide +kernel
theorem dX12_trod_29 : decode cX12_trod 29 = .ok (.ireturn, 1) := by decide +kernel
theorem dX12_trod_30 : decode cX12_trod 30 = .ok (.aload_n 0, 1) := by decide +kernel
theorem dX12_trod_31 : decode cX12_trod 31 = .ok (.iload_n 1, 1) := by decide +kernel
theorem dX12_trod_32 : decode cX12_trod 32 = .ok (.iload_n 2, 1) := by decide +kernel
theorem dX12_trod_33 : decode cX12_trod 33 = .ok (.iload_n 3, 1) := by decide +kernel
theorem dX12_trod_34 : decode cX12_trod 34 = .ok (.invokevirtual 333, 3) := by decide +kernel
theorem dX12_trod_37 : decode cX12_trod 37 = .ok (.istore 4, 2) := by decide +kernel
theorem dX12_trod_39 : decode cX12_trod 39 = .ok (.aload_n 0, 1) := by decide +kernel
theorem dX12_trod_40 : decode cX12_trod 40 = .ok (.iload_n 1, 1) := by decide +kernel
theorem dX12_trod_41 : decode cX12_trod 41 = .ok (.iload_n 2, 1) := by decide +kernel
theorem dX12_trod_42 : decode cX12_trod 42 = .ok (.invokevirtual 330, 3) := by decide +kernel
theorem dX12_trod_45 : decode cX12_trod 45 = .ok (.istore 5, 2) := by decide +kernel
theorem dX12_trod_47 : decode cX12_trod 47 = .ok (.iload 5, 2) := by decide +kernel
theorem dX12_trod_49 : decode cX12_trod 49 = .ok (.ifCond .ne 6, 3) := by decide +kernel
theorem dX12_trod_52 : decode cX12_trod 52 = .ok (.bipush (-2), 2) := by decide +kernel
theorem dX12_trod_54 : decode cX12_trod 54 = .ok (.ireturn, 1) := by decide +kernel
theorem dX12_trod_55 : decode cX12_trod 55 = .ok (.aload_n 0, 1) := by decide +kernel
theorem dX12_trod_56 : decode cX12_trod 56 = .ok (.iconst 0, 1) := by decide +kernel
theorem dX12_trod_57 : decode cX12_trod 57 = .ok (.putfield 143, 3) := by decide +kernel
theorem dX12_trod_60 : decode cX12_trod 60 = .ok (.aload_n 0, 1) := by decide +kernel
theorem dX12_trod_61 : decode cX12_trod 61 = .ok (.iload 4, 2) := by decide +kernel
theorem dX12_trod_63 : decode cX12_trod 63 = .ok (.i2l, 1) := by decide +kernel
theorem dX12_trod_64 : decode cX12_trod 64 = .ok (.iload 5, 2) := by decide +kernel
theorem dX12_trod_66 : decode cX12_trod 66 = .ok (.i2l, 1) := by decide +kernel
theorem dX12_trod_67 : decode cX12_trod 67 = .ok (.invokevirtual 336, 3) := by decide +kernel
theorem dX12_trod_70 : decode cX12_trod 70 = .ok (.iconst 0, 1) := by decide +kernel
theorem dX12_trod_71 : decode cX12_trod 71 = .ok (.ireturn, 1) := by decide +kernel
theorem dX12_tellPart_0 : decode cX12_tellPart 0 = .ok (.lload_n 1, 1) := by decide +kernel
theorem dX12_tellPart_1 : decode cX12_tellPart 1 = .ok (.lstore 5, 2) := by decide +kernel
theorem dX12_tellPart_3 : decode cX12_tellPart 3 = .ok (.lload_n 3, 1) := by decide +kernel
theorem dX12_tellPart_4 : decode cX12_tellPart 4 = .ok (.lstore 7, 2) := by decide +kernel
theorem dX12_tellPart_6 : decode cX12_tellPart 6 = .ok (.lload 7, 2) := by decide +kernel
theorem dX12_tellPart_8 : decode cX12_tellPart 8 = .ok (.lconst 0, 1) := by decide +kernel
theorem dX12_tellPart_9 : decode cX12_tellPart 9 = .ok (.lcmp, 1) := by decide +kernel
theorem dX12_tellPart_10 : decode cX12_tellPart 10 = .ok (.ifCond .eq 21, 3) := by decide +kernel
theorem dX12_tellPart_13 : decode cX12_tellPart 13 = .ok (.lload 5, 2) := by decide +kernel
theorem dX12_tellPart_15 : decode cX12_tellPart 15 = .ok (.lload 7, 2) := by decide +kernel
theorem dX12_tellPart_17 : decode cX12_tellPart 17 = .ok (.lrem, 1) := by decide +kernel
theorem dX12_tellPart_18 : decode cX12_tellPart 18 = .ok (.lstore 9, 2) := by decide +kernel
theorem dX12_tellPart_20 : decode cX12_tellPart 20 = .ok (.lload 7, 2) := by decide +kernel
theorem dX12_tellPart_22 : decode cX12_tellPart 22 = .ok (.lstore 5, 2) := by decide +kernel
theorem dX12_tellPart_24 : decode cX12_tellPart 24 = .ok (.lload 9, 2) := by decide +kernel
theorem dX12_tellPart_26 : decode cX12_tellPart 26 = .ok (.lstore 7, 2) := by decide +kernel
theorem dX12_tellPart_28 : decode cX12_tellPart 28 = .ok (.goto (-22), 3) := by decide +kernel
theorem dX12_tellPart_31 : decode cX12_tellPart 31 = .ok (.aload_n 0, 1) := by decide +kernel
theorem dX12_tellPart_32 : decode cX12_tellPart 32 = .ok (.lload_n 1, 1) := by decide +kernel
theorem dX12_tellPart_33 : decode cX12_tellPart 33 = .ok (.lload 5, 2) := by decide +kernel
theorem dX12_tellPart_35 : decode cX12_tellPart 35 = .ok (.ldiv, 1) := by decide +kernel
theorem dX12_tellPart_36 : decode cX12_tellPart 36 = .ok (.invokevirtual 276, 3) := by decide +kernel
theorem dX12_tellPart_39 : decode cX12_tellPart 39 = .ok (.aload_n 0, 1) := by decide +kernel
theorem dX12_tellPart_40 : decode cX12_tellPart 40 = .ok (.lload_n 3, 1) := by decide +kernel
theorem dX12_tellPart_41 : decode cX12_tellPart 41 = .ok (.lload 5, 2) := by decide +kernel
theorem dX12_tellPart_43 : decode cX12_tellPart 43 = .ok (.ldiv, 1) := by decide +kernel
theorem dX12_tellPart_44 : decode cX12_tellPart 44 = .ok (.invokevirtual 276, 3) := by decide +kernel
theorem dX12_tellPart_47 : decode cX12_tellPart 47 = .ok (.return_, 1) := by decide +kernel
theorem dX12_who_0 : decode cX12_who 0 = .ok (.aload_n 0, 1) := by decide +kernel
theorem dX12_who_1 : decode cX12_who 1 = .ok (.iconst 0, 1) := by decide +kernel
theorem dX12_who_2 : decode cX12_who 2 = .ok (.putfield 140, 3) := by decide +kernel
theorem dX12_who_5 : decode cX12_who 5 = .ok (.iload_n 1, 1) := by decide +kernel
theorem dX12_who_6 : decode cX12_who 6 = .ok (.invokestatic 327, 3) := by decide +kernel
theorem dX12_who_9 : decode cX12_who 9 = .ok (.ifCond .eq 11, 3) := by decide +kernel
theorem dX12_who_12 : decode cX12_who 12 = .ok (.aload_n 0, 1) := by decide +kernel
theorem dX12_who_13 : decode cX12_who 13 = .ok (.iload_n 2, 1) := by decide +kernel
theorem dX12_who_14 : decode cX12_who 14 = .ok (.invokevirtual 249, 3) := by decide +kernel
theorem dX12_who_17 : decode cX12_who 17 = .ok (.ifCond .ne 5, 3) := by decide +kernel
theorem dX12_who_20 : decode cX12_who 20 = .ok (.iconst (-1), 1) := by decide +kernel
theorem dX12_who_21 : decode cX12_who 21 = .ok (.ireturn, 1) := by decide +kernel
theorem dX12_who_22 : decode cX12_who 22 = .ok (.iconst 0, 1) := by decide +kernel
theorem dX12_who_23 : decode cX12_who 23 = .ok (.istore_n 3, 1) := by decide +kernel
theorem dX12_who_24 : decode cX12_who 24 = .ok (.iconst 0, 1) := by decide +kernel
theorem dX12_who_25 : decode cX12_who 25 = .ok (.istore 4, 2) := by decide +kernel
theorem dX12_who_27 : decode cX12_who 27 = .ok (.iload 4, 2) := by decide +kernel
theorem dX12_who_29 : decode cX12_who 29 = .ok (.aload_n 0, 1) := by decide +kernel
theorem dX12_who_30 : decode cX12_who 30 = .ok (.getfield 153, 3) := by decide +kernel
theorem dX12_who_33 : decode cX12_who 33 = .ok (.if_icmp .ge 31, 3) := by decide +kernel
theorem dX12_who_36 : decode cX12_who 36 = .ok (.iload_n 3, 1) := by decide +kernel
theorem dX12_who_37 : decode cX12_who 37 = .ok (.aload_n 0, 1) := by decide +kernel
theorem dX12_who_38 : decode cX12_who 38 = .ok (.iload 4, 2) := by decide +kernel
theorem dX12_who_40 : decode cX12_who 40 = .ok (.iload_n 1, 1) := by decide +kernel
theorem dX12_who_41 : decode cX12_who 41 = .ok (.iload_n 2, 1) := by decide +kernel
theorem dX12_who_42 : decode cX12_who 42 = .ok (.invokevirtual 333, 3) := by decide +kernel
theorem dX12_who_45 : decode cX12_who 45 = .ok (.ifCond .le 10, 3) := by decide +kernel
theorem dX12_who_48 : decode cX12_who 48 = .ok (.iconst 1, 1) := by decide +kernel
theorem dX12_who_49 : decode cX12_who 49 = .ok (.iload 4, 2) := by decide +kernel
theorem dX12_who_51 : decode cX12_who 51 = .ok (.ishl, 1) := by decide +kernel
theorem dX12_who_52 : decode cX12_who 52 = .ok (.goto 4, 3) := by decide +kernel
theorem dX12_who_55 : decode cX12_who 55 = .ok (.iconst 0, 1) := by decide +kernel
theorem dX12_who_56 : decode cX12_who 56 = .ok (.ior, 1) := by decide +kernel
theorem dX12_who_57 : decode cX12_who 57 = .ok (.istore_n 3, 1) := by decide +kernel
theorem dX12_who_58 : decode cX12_who 58 = .ok (.iinc 4 1, 3) := by decide +kernel
theorem dX12_who_61 : decode cX12_who 61 = .ok (.goto (-34), 3) := by decide +kernel
theorem dX12_who_64 : decode cX12_who 64 = .ok (.iload_n 3, 1) := by decide +kernel
theorem dX12_who_65 : decode cX12_who 65 = .ok (.ireturn, 1) := by decide +kernel
abbrev mX12_findByCost_0_e1 : ByteArray := .mk #[0x2a, 0xb4, 0x00, 0x92, 0x04, 0x64, 0x3d, 0x1c, 0x02, 0xa1, 0x00, 0xa7, 0x03, 0x3e, 0x1d, 0x1b, 0xa3, 0x00, 0x9a, 0x1c, 0x2a, 0xb4, 0x00, 0x92, 0x04, 0x64, 0xa0, 0x00, 0x0b, 0x1d, 0x9a, 0x00, 0x07, 0x03, 0xa7, 0x00, 0x06, 0x13, 0x01, 0x2b, 0x36, 0x04, 0x04, 0x36, 0x05, 0x15, 0x05, 0x06, 0xa3, 0x00, 0x64, 0x06, 0x1c, 0x04, 0x60, 0x68, 0x15, 0x05, 0x60, 0x04, 0x64, 0x36, 0x06, 0x2a, 0xb4, 0x00, 0x55, 0x15, 0x06, 0x2e, 0x13, 0x01]
theorem kmX12_findByCost_0_e1 : CK cX12_findByCost 0 mX12_findByCost_0_e1 := ck_of (by decide +kernel)
theorem dX12_findByCost_0 : decode cX12_findByCost 0 = .ok (.aload_n 0, 1) := rd_chunk (k := 0) (i := 0) kmX12_findByCost_0_e1 (by decide +kernel)
theorem dX12_findByCost_1 : decode cX12_findByCost 1 = .ok (.getfield 146, 3) := rd_chunk (k := 0) (i := 1) kmX12_findByCost_0_e1 (by decide +kernel)
theorem dX12_findByCost_4 : decode cX12_findByCost 4 = .ok (.iconst 1, 1) := rd_chunk (k := 0) (i := 4) kmX12_findByCost_0_e1 (by decide +kernel)
theorem dX12_findByCost_5 : decode cX12_findByCost 5 = .ok (.isub, 1) := rd_chunk (k := 0) (i := 5) kmX12_findByCost_0_e1 (by decide +kernel)
theorem dX12_findByCost_6 : decode cX12_findByCost 6 = .ok (.istore_n 2, 1) := rd_chunk (k := 0) (i := 6) kmX12_findByCost_0_e1 (by decide +kernel)
theorem dX12_findByCost_7 : decode cX12_findByCost 7 = .ok (.iload_n 2, 1) := rd_chunk (k := 0) (i := 7) kmX12_findByCost_0_e1 (by decide +kernel)
theorem dX12_findByCost_8 : decode cX12_findByCost 8 = .ok (.iconst (-1), 1) := rd_chunk (k := 0) (i := 8) kmX12_findByCost_0_e1 (by decide +kernel)
theorem dX12_findByCost_9 : decode cX12_findByCost 9 = .ok (.if_icmp .lt 167, 3) := rd_chunk (k := 0) (i := 9) kmX12_findByCost_0_e1 (by decide +kernel)
theorem dX12_findByCost_12 : decode cX12_findByCost 12 = .ok (.iconst 0, 1) := rd_chunk (k := 0) (i := 12) kmX12_findByCost_0_e1 (by decide +kernel)
theorem dX12_findByCost_13 : decode cX12_findByCost 13 = .ok (.istore_n 3, 1) := rd_chunk (k := 0) (i := 13) kmX12_findByCost_0_e1 (by decide +kernel)
theorem dX12_findByCost_14 : decode cX12_findByCost 14 = .ok (.iload_n 3, 1) := rd_chunk (k := 0) (i := 14) kmX12_findByCost_0_e1 (by decide +kernel)
theorem dX12_findByCost_15 : decode cX12_findByCost 15 = .ok (.iload_n 1, 1) := rd_chunk (k := 0) (i := 15) kmX12_findByCost_0_e1 (by decide +kernel)
theorem dX12_findByCost_16 : decode cX12_findByCost 16 = .ok (.if_icmp .gt 154, 3) := rd_chunk (k := 0) (i := 16) kmX12_findByCost_0_e1 (by decide +kernel)
theorem dX12_findByCost_19 : decode cX12_findByCost 19 = .ok (.iload_n 2, 1) := rd_chunk (k := 0) (i := 19) kmX12_findByCost_0_e1 (by decide +kernel)
theorem dX12_findByCost_20 : decode cX12_findByCost 20 = .ok (.aload_n 0, 1) := rd_chunk (k := 0) (i := 20) kmX12_findByCost_0_e1 (by decide +kernel)
theorem dX12_findByCost_21 : decode cX12_findByCost 21 = .ok (.getfield 146, 3) := rd_chunk (k := 0) (i := 21) kmX12_findByCost_0_e1 (by decide +kernel)
theorem dX12_findByCost_24 : decode cX12_findByCost 24 = .ok (.iconst 1, 1) := rd_chunk (k := 0) (i := 24) kmX12_findByCost_0_e1 (by decide +kernel)
theorem dX12_findByCost_25 : decode cX12_findByCost 25 = .ok (.isub, 1) := rd_chunk (k := 0) (i := 25) kmX12_findByCost_0_e1 (by decide +kernel)
theorem dX12_findByCost_26 : decode cX12_findByCost 26 = .ok (.if_icmp .ne 11, 3) := rd_chunk (k := 0) (i := 26) kmX12_findByCost_0_e1 (by decide +kernel)
theorem dX12_findByCost_29 : decode cX12_findByCost 29 = .ok (.iload_n 3, 1) := rd_chunk (k := 0) (i := 29) kmX12_findByCost_0_e1 (by decide +kernel)
theorem dX12_findByCost_30 : decode cX12_findByCost 30 = .ok (.ifCond .ne 7, 3) := rd_chunk (k := 0) (i := 30) kmX12_findByCost_0_e1 (by decide +kernel)
theorem dX12_findByCost_33 : decode cX12_findByCost 33 = .ok (.iconst 0, 1) := rd_chunk (k := 0) (i := 33) kmX12_findByCost_0_e1 (by decide +kernel)
theorem dX12_findByCost_34 : decode cX12_findByCost 34 = .ok (.goto 6, 3) := rd_chunk (k := 0) (i := 34) kmX12_findByCost_0_e1 (by decide +kernel)
theorem dX12_findByCost_37 : decode cX12_findByCost 37 = .ok (.ldc_w 299, 3) := rd_chunk (k := 0) (i := 37) kmX12_findByCost_0_e1 (by decide +kernel)
theorem dX12_findByCost_40 : decode cX12_findByCost 40 = .ok (.istore 4, 2) := rd_chunk (k := 0) (i := 40) kmX12_findByCost_0_e1 (by decide +kernel)
theorem dX12_findByCost_42 : decode cX12_findByCost 42 = .ok (.iconst 1, 1) := rd_chunk (k := 0) (i := 42) kmX12_findByCost_0_e1 (by decide +kernel)
theorem dX12_findByCost_43 : decode cX12_findByCost 43 = .ok (.istore 5, 2) := rd_chunk (k := 0) (i := 43) kmX12_findByCost_0_e1 (by decide +kernel)
theorem dX12_findByCost_45 : decode cX12_findByCost 45 = .ok (.iload 5, 2) := rd_chunk (k := 0) (i := 45) kmX12_findByCost_0_e1 (by decide +kernel)
theorem dX12_findByCost_47 : decode cX12_findByCost 47 = .ok (.iconst 3, 1) := rd_chunk (k := 0) (i := 47) kmX12_findByCost_0_e1 (by decide +kernel)
theorem dX12_findByCost_48 : decode cX12_findByCost 48 = .ok (.if_icmp .gt 100, 3) := rd_chunk (k := 0) (i := 48) kmX12_findByCost_0_e1 (by decide +kernel)
theorem dX12_findByCost_51 : decode cX12_findByCost 51 = .ok (.iconst 3, 1) := rd_chunk (k := 0) (i := 51) kmX12_findByCost_0_e1 (by decide +kernel)
theorem dX12_findByCost_52 : decode cX12_findByCost 52 = .ok (.iload_n 2, 1) := rd_chunk (k := 0) (i := 52) kmX12_findByCost_0_e1 (by decide +kernel)
theorem dX12_findByCost_53 : decode cX12_findByCost 53 = .ok (.iconst 1, 1) := rd_chunk (k := 0) (i := 53) kmX12_findByCost_0_e1 (by decide +kernel)
theorem dX12_findByCost_54 : decode cX12_findByCost 54 = .ok (.iadd, 1) := rd_chunk (k := 0) (i := 54) kmX12_findByCost_0_e1 (by decide +kernel)
theorem dX12_findByCost_55 : decode cX12_findByCost 55 = .ok (.imul, 1) := rd_chunk (k := 0) (i := 55) kmX12_findByCost_0_e1 (by decide +kernel)
theorem dX12_findByCost_56 : decode cX12_findByCost 56 = .ok (.iload 5, 2) := rd_chunk (k := 0) (i := 56) kmX12_findByCost_0_e1 (by decide +kernel)
theorem dX12_findByCost_58 : decode cX12_findByCost 58 = .ok (.iadd, 1) := rd_chunk (k := 0) (i := 58) kmX12_findByCost_0_e1 (by decide +kernel)
theorem dX12_findByCost_59 : decode cX12_findByCost 59 = .ok (.iconst 1, 1) := rd_chunk (k := 0) (i := 59) kmX12_findByCost_0_e1 (by decide +kernel)
theorem dX12_findByCost_60 : decode cX12_findByCost 60 = .ok (.isub, 1) := rd_chunk (k := 0) (i := 60) kmX12_findByCost_0_e1 (by decide +kernel)
theorem dX12_findByCost_61 : decode cX12_findByCost 61 = .ok (.istore 6, 2) := rd_chunk (k := 0) (i := 61) kmX12_findByCost_0_e1 (by decide +kernel)
theorem dX12_findByCost_63 : decode cX12_findByCost 63 = .ok (.aload_n 0, 1) := rd_chunk (k := 0) (i := 63) kmX12_findByCost_0_e1 (by decide +kernel)
abbrev mX12_findByCost_64_e1 : ByteArray := .mk #[0xb4, 0x00, 0x55, 0x15, 0x06, 0x2e, 0x13, 0x01, 0x2b, 0x9f, 0x00, 0x45, 0x2a, 0xb4, 0x00, 0x55, 0x15, 0x06, 0x2e, 0x1d, 0xa4, 0x00, 0x06, 0xa7, 0x00, 0x37, 0x2a, 0xb4, 0x00, 0x5e, 0x11, 0x03, 0xe8, 0x1c, 0x15, 0x05, 0x60, 0x04, 0x60, 0x68, 0x1d, 0x60, 0x2a, 0xb4, 0x00, 0x55, 0x15, 0x06, 0x2e, 0x64, 0x2e, 0x36, 0x07, 0x15, 0x07, 0x13, 0x01, 0x2b, 0x9f, 0x00, 0x14, 0x15, 0x04, 0x15, 0x07, 0x2a, 0xb4, 0x00, 0x58, 0x15, 0x06, 0x2e]
theorem kmX12_findByCost_64_e1 : CK cX12_findByCost 64 mX12_findByCost_64_e1 := ck_of (by decide +kernel)
theorem dX12_findByCost_64 : decode cX12_findByCost 64 = .ok (.getfield 85, 3) := rd_chunk (k := 64) (i := 0) kmX12_findByCost_64_e1 (by decide +kernel)
theorem dX12_findByCost_67 : decode cX12_findByCost 67 = .ok (.iload 6, 2) := rd_chunk (k := 64) (i := 3) kmX12_findByCost_64_e1 (by decide +kernel)
theorem dX12_findByCost_69 : decode cX12_findByCost 69 = .ok (.iaload, 1) := rd_chunk (k := 64) (i := 5) kmX12_findByCost_64_e1 (by decide +kernel)
theorem dX12_findByCost_70 : decode cX12_findByCost 70 = .ok (.ldc_w 299, 3) := rd_chunk (k := 64) (i := 6) kmX12_findByCost_64_e1 (by decide +kernel)
theorem dX12_findByCost_73 : decode cX12_findByCost 73 = .ok (.if_icmp .eq 69, 3) := rd_chunk (k := 64) (i := 9) kmX12_findByCost_64_e1 (by decide +kernel)
theorem dX12_findByCost_76 : decode cX12_findByCost 76 = .ok (.aload_n 0, 1) := rd_chunk (k := 64) (i := 12) kmX12_findByCost_64_e1 (by decide +kernel)
theorem dX12_findByCost_77 : decode cX12_findByCost 77 = .ok (.getfield 85, 3) := rd_chunk (k := 64) (i := 13) kmX12_findByCost_64_e1 (by decide +kernel)
theorem dX12_findByCost_80 : decode cX12_findByCost 80 = .ok (.iload 6, 2) := rd_chunk (k := 64) (i := 16) kmX12_findByCost_64_e1 (by decide +kernel)
theorem dX12_findByCost_82 : decode cX12_findByCost 82 = .ok (.iaload, 1) := rd_chunk (k := 64) (i := 18) kmX12_findByCost_64_e1 (by decide +kernel)
theorem dX12_findByCost_83 : decode cX12_findByCost 83 = .ok (.iload_n 3, 1) := rd_chunk (k := 64) (i := 19) kmX12_findByCost_64_e1 (by decide +kernel)
theorem dX12_findByCost_84 : decode cX12_findByCost 84 = .ok (.if_icmp .le 6, 3) := rd_chunk (k := 64) (i := 20) kmX12_findByCost_64_e1 (by decide +kernel)
theorem dX12_findByCost_87 : decode cX12_findByCost 87 = .ok (.goto 55, 3) := rd_chunk (k := 64) (i := 23) kmX12_findByCost_64_e1 (by decide +kernel)
theorem dX12_findByCost_90 : decode cX12_findByCost 90 = .ok (.aload_n 0, 1) := rd_chunk (k := 64) (i := 26) kmX12_findByCost_64_e1 (by decide +kernel)
theorem dX12_findByCost_91 : decode cX12_findByCost 91 = .ok (.getfield 94, 3) := rd_chunk (k := 64) (i := 27) kmX12_findByCost_64_e1 (by decide +kernel)
theorem dX12_findByCost_94 : decode cX12_findByCost 94 = .ok (.sipush 1000, 3) := rd_chunk (k := 64) (i := 30) kmX12_findByCost_64_e1 (by decide +kernel)
theorem dX12_findByCost_97 : decode cX12_findByCost 97 = .ok (.iload_n 2, 1) := rd_chunk (k := 64) (i := 33) kmX12_findByCost_64_e1 (by decide +kernel)
theorem dX12_findByCost_98 : decode cX12_findByCost 98 = .ok (.iload 5, 2) := rd_chunk (k := 64) (i := 34) kmX12_findByCost_64_e1 (by decide +kernel)
theorem dX12_findByCost_100 : decode cX12_findByCost 100 = .ok (.iadd, 1) := rd_chunk (k := 64) (i := 36) kmX12_findByCost_64_e1 (by decide +kernel)
theorem dX12_findByCost_101 : decode cX12_findByCost 101 = .ok (.iconst 1, 1) := rd_chunk (k := 64) (i := 37) kmX12_findByCost_64_e1 (by decide +kernel)
theorem dX12_findByCost_102 : decode cX12_findByCost 102 = .ok (.iadd, 1) := rd_chunk (k := 64) (i := 38) kmX12_findByCost_64_e1 (by decide +kernel)
theorem dX12_findByCost_103 : decode cX12_findByCost 103 = .ok (.imul, 1) := rd_chunk (k := 64) (i := 39) kmX12_findByCost_64_e1 (by decide +kernel)
theorem dX12_findByCost_104 : decode cX12_findByCost 104 = .ok (.iload_n 3, 1) := rd_chunk (k := 64) (i := 40) kmX12_findByCost_64_e1 (by decide +kernel)
theorem dX12_findByCost_105 : decode cX12_findByCost 105 = .ok (.iadd, 1) := rd_chunk (k := 64) (i := 41) kmX12_findByCost_64_e1 (by decide +kernel)
theorem dX12_findByCost_106 : decode cX12_findByCost 106 = .ok (.aload_n 0, 1) := rd_chunk (k := 64) (i := 42) kmX12_findByCost_64_e1 (by decide +kernel)
theorem dX12_findByCost_107 : decode cX12_findByCost 107 = .ok (.getfield 85, 3) := rd_chunk (k := 64) (i := 43) kmX12_findByCost_64_e1 (by decide +kernel)
theorem dX12_findByCost_110 : decode cX12_findByCost 110 = .ok (.iload 6, 2) := rd_chunk (k := 64) (i := 46) kmX12_findByCost_64_e1 (by decide +kernel)
theorem dX12_findByCost_112 : decode cX12_findByCost 112 = .ok (.iaload, 1) := rd_chunk (k := 64) (i := 48) kmX12_findByCost_64_e1 (by decide +kernel)
theorem dX12_findByCost_113 : decode cX12_findByCost 113 = .ok (.isub, 1) := rd_chunk (k := 64) (i := 49) kmX12_findByCost_64_e1 (by decide +kernel)
theorem dX12_findByCost_114 : decode cX12_findByCost 114 = .ok (.iaload, 1) := rd_chunk (k := 64) (i := 50) kmX12_findByCost_64_e1 (by decide +kernel)
theorem dX12_findByCost_115 : decode cX12_findByCost 115 = .ok (.istore 7, 2) := rd_chunk (k := 64) (i := 51) kmX12_findByCost_64_e1 (by decide +kernel)
theorem dX12_findByCost_117 : decode cX12_findByCost 117 = .ok (.iload 7, 2) := rd_chunk (k := 64) (i := 53) kmX12_findByCost_64_e1 (by decide +kernel)
theorem dX12_findByCost_119 : decode cX12_findByCost 119 = .ok (.ldc_w 299, 3) := rd_chunk (k := 64) (i := 55) kmX12_findByCost_64_e1 (by decide +kernel)
theorem dX12_findByCost_122 : decode cX12_findByCost 122 = .ok (.if_icmp .eq 20, 3) := rd_chunk (k := 64) (i := 58) kmX12_findByCost_64_e1 (by decide +kernel)
theorem dX12_findByCost_125 : decode cX12_findByCost 125 = .ok (.iload 4, 2) := rd_chunk (k := 64) (i := 61) kmX12_findByCost_64_e1 (by decide +kernel)
theorem dX12_findByCost_127 : decode cX12_findByCost 127 = .ok (.iload 7, 2) := rd_chunk (k := 64) (i := 63) kmX12_findByCost_64_e1 (by decide +kernel)
abbrev mX12_findByCost_128_e1 : ByteArray := .mk #[0x07, 0x2a, 0xb4, 0x00, 0x58, 0x15, 0x06, 0x2e, 0x60, 0xb8, 0x00, 0xf0, 0x36, 0x04, 0x84, 0x05, 0x01, 0xa7, 0xff, 0x9c, 0x2a, 0xb4, 0x00, 0x5e, 0x11, 0x03, 0xe8, 0x1c, 0x04, 0x60, 0x68, 0x1d, 0x60, 0x15, 0x04, 0x4f, 0x84, 0x03, 0x01, 0xa7, 0xff, 0x67, 0x84, 0x02, 0xff, 0xa7, 0xff, 0x5a, 0xb1]
theorem kmX12_findByCost_128_e1 : CK cX12_findByCost 128 mX12_findByCost_128_e1 := ck_of (by decide +kernel)
theorem dX12_findByCost_129 : decode cX12_findByCost 129 = .ok (.aload_n 0, 1) := rd_chunk (k := 128) (i := 1) kmX12_findByCost_128_e1 (by decide +kernel)
theorem dX12_findByCost_130 : decode cX12_findByCost 130 = .ok (.getfield 88, 3) := rd_chunk (k := 128) (i := 2) kmX12_findByCost_128_e1 (by decide +kernel)
theorem dX12_findByCost_133 : decode cX12_findByCost 133 = .ok (.iload 6, 2) := rd_chunk (k := 128) (i := 5) kmX12_findByCost_128_e1 (by decide +kernel)
theorem dX12_findByCost_135 : decode cX12_findByCost 135 = .ok (.iaload, 1) := rd_chunk (k := 128) (i := 7) kmX12_findByCost_128_e1 (by decide +kernel)
theorem dX12_findByCost_136 : decode cX12_findByCost 136 = .ok (.iadd, 1) := rd_chunk (k := 128) (i := 8) kmX12_findByCost_128_e1 (by decide +kernel)
theorem dX12_findByCost_137 : decode cX12_findByCost 137 = .ok (.invokestatic 240, 3) := rd_chunk (k := 128) (i := 9) kmX12_findByCost_128_e1 (by decide +kernel)
theorem dX12_findByCost_140 : decode cX12_findByCost 140 = .ok (.istore 4, 2) := rd_chunk (k := 128) (i := 12) kmX12_findByCost_128_e1 (by decide +kernel)
theorem dX12_findByCost_142 : decode cX12_findByCost 142 = .ok (.iinc 5 1, 3) := rd_chunk (k := 128) (i := 14) kmX12_findByCost_128_e1 (by decide +kernel)
theorem dX12_findByCost_145 : decode cX12_findByCost 145 = .ok (.goto (-100), 3) := rd_chunk (k := 128) (i := 17) kmX12_findByCost_128_e1 (by decide +kernel)
theorem dX12_findByCost_148 : decode cX12_findByCost 148 = .ok (.aload_n 0, 1) := rd_chunk (k := 128) (i := 20) kmX12_findByCost_128_e1 (by decide +kernel)
theorem dX12_findByCost_149 : decode cX12_findByCost 149 = .ok (.getfield 94, 3) := rd_chunk (k := 128) (i := 21) kmX12_findByCost_128_e1 (by decide +kernel)
theorem dX12_findByCost_152 : decode cX12_findByCost 152 = .ok (.sipush 1000, 3) := rd_chunk (k := 128) (i := 24) kmX12_findByCost_128_e1 (by decide +kernel)
theorem dX12_findByCost_155 : decode cX12_findByCost 155 = .ok (.iload_n 2, 1) := rd_chunk (k := 128) (i := 27) kmX12_findByCost_128_e1 (by decide +kernel)
theorem dX12_findByCost_156 : decode cX12_findByCost 156 = .ok (.iconst 1, 1) := rd_chunk (k := 128) (i := 28) kmX12_findByCost_128_e1 (by decide +kernel)
theorem dX12_findByCost_157 : decode cX12_findByCost 157 = .ok (.iadd, 1) := rd_chunk (k := 128) (i := 29) kmX12_findByCost_128_e1 (by decide +kernel)
theorem dX12_findByCost_158 : decode cX12_findByCost 158 = .ok (.imul, 1) := rd_chunk (k := 128) (i := 30) kmX12_findByCost_128_e1 (by decide +kernel)
theorem dX12_findByCost_159 : decode cX12_findByCost 159 = .ok (.iload_n 3, 1) := rd_chunk (k := 128) (i := 31) kmX12_findByCost_128_e1 (by decide +kernel)
theorem dX12_findByCost_160 : decode cX12_findByCost 160 = .ok (.iadd, 1) := rd_chunk (k := 128) (i := 32) kmX12_findByCost_128_e1 (by decide +kernel)
theorem dX12_findByCost_161 : decode cX12_findByCost 161 = .ok (.iload 4, 2) := rd_chunk (k := 128) (i := 33) kmX12_findByCost_128_e1 (by decide +kernel)
theorem dX12_findByCost_163 : decode cX12_findByCost 163 = .ok (.iastore, 1) := rd_chunk (k := 128) (i := 35) kmX12_findByCost_128_e1 (by decide +kernel)
theorem dX12_findByCost_164 : decode cX12_findByCost 164 = .ok (.iinc 3 1, 3) := rd_chunk (k := 128) (i := 36) kmX12_findByCost_128_e1 (by decide +kernel)
theorem dX12_findByCost_167 : decode cX12_findByCost 167 = .ok (.goto (-153), 3) := rd_chunk (k := 128) (i := 39) kmX12_findByCost_128_e1 (by decide +kernel)
theorem dX12_findByCost_170 : decode cX12_findByCost 170 = .ok (.iinc 2 (-1), 3) := rd_chunk (k := 128) (i := 42) kmX12_findByCost_128_e1 (by decide +kernel)
theorem dX12_findByCost_173 : decode cX12_findByCost 173 = .ok (.goto (-166), 3) := rd_chunk (k := 128) (i := 45) kmX12_findByCost_128_e1 (by decide +kernel)
theorem dX12_findByCost_176 : decode cX12_findByCost 176 = .ok (.return_, 1) := rd_chunk (k := 128) (i := 48) kmX12_findByCost_128_e1 (by decide +kernel)
abbrev mX12_next_0_e1 : ByteArray := .mk #[0x2a, 0x03, 0xb5, 0x00, 0x8c, 0x2a, 0x1b, 0xb6, 0x01, 0x07, 0x99, 0x00, 0x15, 0x2a, 0xb4, 0x00, 0x92, 0x99, 0x00, 0x0e, 0x1c, 0x02, 0x11, 0x03, 0xe6, 0xb8, 0x00, 0x95, 0x9a, 0x00, 0x05, 0x02, 0xac, 0x2a, 0x1b, 0xb6, 0x01, 0x2c, 0x2a, 0x2a, 0xb4, 0x00, 0x20, 0x1b, 0x2e, 0xb6, 0x01, 0x54, 0x1c, 0x04, 0x60, 0x3e, 0x1d, 0x2a, 0xb4, 0x00, 0x20, 0x1b, 0x2e, 0xa3, 0x00, 0x2d, 0x2a, 0xb4, 0x00, 0x5e, 0x1d, 0x2e, 0x2a, 0xb4, 0x00, 0x1d]
theorem kmX12_next_0_e1 : CK cX12_next 0 mX12_next_0_e1 := ck_of (by decide +kernel)
theorem dX12_next_0 : decode cX12_next 0 = .ok (.aload_n 0, 1) := rd_chunk (k := 0) (i := 0) kmX12_next_0_e1 (by decide +kernel)
theorem dX12_next_1 : decode cX12_next 1 = .ok (.iconst 0, 1) := rd_chunk (k := 0) (i := 1) kmX12_next_0_e1 (by decide +kernel)
theorem dX12_next_2 : decode cX12_next 2 = .ok (.putfield 140, 3) := rd_chunk (k := 0) (i := 2) kmX12_next_0_e1 (by decide +kernel)
theorem dX12_next_5 : decode cX12_next 5 = .ok (.aload_n 0, 1) := rd_chunk (k := 0) (i := 5) kmX12_next_0_e1 (by decide +kernel)
theorem dX12_next_6 : decode cX12_next 6 = .ok (.iload_n 1, 1) := rd_chunk (k := 0) (i := 6) kmX12_next_0_e1 (by decide +kernel)
theorem dX12_next_7 : decode cX12_next 7 = .ok (.invokevirtual 263, 3) := rd_chunk (k := 0) (i := 7) kmX12_next_0_e1 (by decide +kernel)
theorem dX12_next_10 : decode cX12_next 10 = .ok (.ifCond .eq 21, 3) := rd_chunk (k := 0) (i := 10) kmX12_next_0_e1 (by decide +kernel)
theorem dX12_next_13 : decode cX12_next 13 = .ok (.aload_n 0, 1) := rd_chunk (k := 0) (i := 13) kmX12_next_0_e1 (by decide +kernel)
theorem dX12_next_14 : decode cX12_next 14 = .ok (.getfield 146, 3) := rd_chunk (k := 0) (i := 14) kmX12_next_0_e1 (by decide +kernel)
theorem dX12_next_17 : decode cX12_next 17 = .ok (.ifCond .eq 14, 3) := rd_chunk (k := 0) (i := 17) kmX12_next_0_e1 (by decide +kernel)
theorem dX12_next_20 : decode cX12_next 20 = .ok (.iload_n 2, 1) := rd_chunk (k := 0) (i := 20) kmX12_next_0_e1 (by decide +kernel)
theorem dX12_next_21 : decode cX12_next 21 = .ok (.iconst (-1), 1) := rd_chunk (k := 0) (i := 21) kmX12_next_0_e1 (by decide +kernel)
theorem dX12_next_22 : decode cX12_next 22 = .ok (.sipush 998, 3) := rd_chunk (k := 0) (i := 22) kmX12_next_0_e1 (by decide +kernel)
theorem dX12_next_25 : decode cX12_next 25 = .ok (.invokestatic 149, 3) := rd_chunk (k := 0) (i := 25) kmX12_next_0_e1 (by decide +kernel)
theorem dX12_next_28 : decode cX12_next 28 = .ok (.ifCond .ne 5, 3) := rd_chunk (k := 0) (i := 28) kmX12_next_0_e1 (by decide +kernel)
theorem dX12_next_31 : decode cX12_next 31 = .ok (.iconst (-1), 1) := rd_chunk (k := 0) (i := 31) kmX12_next_0_e1 (by decide +kernel)
theorem dX12_next_32 : decode cX12_next 32 = .ok (.ireturn, 1) := rd_chunk (k := 0) (i := 32) kmX12_next_0_e1 (by decide +kernel)
theorem dX12_next_33 : decode cX12_next 33 = .ok (.aload_n 0, 1) := rd_chunk (k := 0) (i := 33) kmX12_next_0_e1 (by decide +kernel)
theorem dX12_next_34 : decode cX12_next 34 = .ok (.iload_n 1, 1) := rd_chunk (k := 0) (i := 34) kmX12_next_0_e1 (by decide +kernel)
theorem dX12_next_35 : decode cX12_next 35 = .ok (.invokevirtual 300, 3) := rd_chunk (k := 0) (i := 35) kmX12_next_0_e1 (by decide +kernel)
theorem dX12_next_38 : decode cX12_next 38 = .ok (.aload_n 0, 1) := rd_chunk (k := 0) (i := 38) kmX12_next_0_e1 (by decide +kernel)
theorem dX12_next_39 : decode cX12_next 39 = .ok (.aload_n 0, 1) := rd_chunk (k := 0) (i := 39) kmX12_next_0_e1 (by decide +kernel)
theorem dX12_next_40 : decode cX12_next 40 = .ok (.getfield 32, 3) := rd_chunk (k := 0) (i := 40) kmX12_next_0_e1 (by decide +kernel)
theorem dX12_next_43 : decode cX12_next 43 = .ok (.iload_n 1, 1) := rd_chunk (k := 0) (i := 43) kmX12_next_0_e1 (by decide +kernel)
theorem dX12_next_44 : decode cX12_next 44 = .ok (.iaload, 1) := rd_chunk (k := 0) (i := 44) kmX12_next_0_e1 (by decide +kernel)
theorem dX12_next_45 : decode cX12_next 45 = .ok (.invokevirtual 340, 3) := rd_chunk (k := 0) (i := 45) kmX12_next_0_e1 (by decide +kernel)
theorem dX12_next_48 : decode cX12_next 48 = .ok (.iload_n 2, 1) := rd_chunk (k := 0) (i := 48) kmX12_next_0_e1 (by decide +kernel)
theorem dX12_next_49 : decode cX12_next 49 = .ok (.iconst 1, 1) := rd_chunk (k := 0) (i := 49) kmX12_next_0_e1 (by decide +kernel)
theorem dX12_next_50 : decode cX12_next 50 = .ok (.iadd, 1) := rd_chunk (k := 0) (i := 50) kmX12_next_0_e1 (by decide +kernel)
theorem dX12_next_51 : decode cX12_next 51 = .ok (.istore_n 3, 1) := rd_chunk (k := 0) (i := 51) kmX12_next_0_e1 (by decide +kernel)
theorem dX12_next_52 : decode cX12_next 52 = .ok (.iload_n 3, 1) := rd_chunk (k := 0) (i := 52) kmX12_next_0_e1 (by decide +kernel)
theorem dX12_next_53 : decode cX12_next 53 = .ok (.aload_n 0, 1) := rd_chunk (k := 0) (i := 53) kmX12_next_0_e1 (by decide +kernel)
theorem dX12_next_54 : decode cX12_next 54 = .ok (.getfield 32, 3) := rd_chunk (k := 0) (i := 54) kmX12_next_0_e1 (by decide +kernel)
theorem dX12_next_57 : decode cX12_next 57 = .ok (.iload_n 1, 1) := rd_chunk (k := 0) (i := 57) kmX12_next_0_e1 (by decide +kernel)
theorem dX12_next_58 : decode cX12_next 58 = .ok (.iaload, 1) := rd_chunk (k := 0) (i := 58) kmX12_next_0_e1 (by decide +kernel)
theorem dX12_next_59 : decode cX12_next 59 = .ok (.if_icmp .gt 45, 3) := rd_chunk (k := 0) (i := 59) kmX12_next_0_e1 (by decide +kernel)
theorem dX12_next_62 : decode cX12_next 62 = .ok (.aload_n 0, 1) := rd_chunk (k := 0) (i := 62) kmX12_next_0_e1 (by decide +kernel)
theorem dX12_next_63 : decode cX12_next 63 = .ok (.getfield 94, 3) := rd_chunk (k := 0) (i := 63) kmX12_next_0_e1 (by decide +kernel)
abbrev mX12_next_64_e1 : ByteArray := .mk #[0x00, 0x5e, 0x1d, 0x2e, 0x2a, 0xb4, 0x00, 0x1d, 0x1b, 0x2e, 0xa4, 0x00, 0x06, 0xa7, 0x00, 0x15, 0x2a, 0x03, 0xb5, 0x00, 0x8f, 0x2a, 0x2a, 0xb4, 0x00, 0x5e, 0x1d, 0x2e, 0x85, 0xb6, 0x01, 0x14, 0x1d, 0xac, 0x84, 0x03, 0x01, 0xa7, 0xff, 0xcf, 0x10, 0xfe, 0xac]
theorem kmX12_next_64_e1 : CK cX12_next 64 mX12_next_64_e1 := ck_of (by decide +kernel)
theorem dX12_next_66 : decode cX12_next 66 = .ok (.iload_n 3, 1) := rd_chunk (k := 64) (i := 2) kmX12_next_64_e1 (by decide +kernel)
theorem dX12_next_67 : decode cX12_next 67 = .ok (.iaload, 1) := rd_chunk (k := 64) (i := 3) kmX12_next_64_e1 (by decide +kernel)
theorem dX12_next_68 : decode cX12_next 68 = .ok (.aload_n 0, 1) := rd_chunk (k := 64) (i := 4) kmX12_next_64_e1 (by decide +kernel)
theorem dX12_next_69 : decode cX12_next 69 = .ok (.getfield 29, 3) := rd_chunk (k := 64) (i := 5) kmX12_next_64_e1 (by decide +kernel)
theorem dX12_next_72 : decode cX12_next 72 = .ok (.iload_n 1, 1) := rd_chunk (k := 64) (i := 8) kmX12_next_64_e1 (by decide +kernel)
theorem dX12_next_73 : decode cX12_next 73 = .ok (.iaload, 1) := rd_chunk (k := 64) (i := 9) kmX12_next_64_e1 (by decide +kernel)
theorem dX12_next_74 : decode cX12_next 74 = .ok (.if_icmp .le 6, 3) := rd_chunk (k := 64) (i := 10) kmX12_next_64_e1 (by decide +kernel)
theorem dX12_next_77 : decode cX12_next 77 = .ok (.goto 21, 3) := rd_chunk (k := 64) (i := 13) kmX12_next_64_e1 (by decide +kernel)
theorem dX12_next_80 : decode cX12_next 80 = .ok (.aload_n 0, 1) := rd_chunk (k := 64) (i := 16) kmX12_next_64_e1 (by decide +kernel)
theorem dX12_next_81 : decode cX12_next 81 = .ok (.iconst 0, 1) := rd_chunk (k := 64) (i := 17) kmX12_next_64_e1 (by decide +kernel)
theorem dX12_next_82 : decode cX12_next 82 = .ok (.putfield 143, 3) := rd_chunk (k := 64) (i := 18) kmX12_next_64_e1 (by decide +kernel)
theorem dX12_next_85 : decode cX12_next 85 = .ok (.aload_n 0, 1) := rd_chunk (k := 64) (i := 21) kmX12_next_64_e1 (by decide +kernel)
theorem dX12_next_86 : decode cX12_next 86 = .ok (.aload_n 0, 1) := rd_chunk (k := 64) (i := 22) kmX12_next_64_e1 (by decide +kernel)
theorem dX12_next_87 : decode cX12_next 87 = .ok (.getfield 94, 3) := rd_chunk (k := 64) (i := 23) kmX12_next_64_e1 (by decide +kernel)
theorem dX12_next_90 : decode cX12_next 90 = .ok (.iload_n 3, 1) := rd_chunk (k := 64) (i := 26) kmX12_next_64_e1 (by decide +kernel)
theorem dX12_next_91 : decode cX12_next 91 = .ok (.iaload, 1) := rd_chunk (k := 64) (i := 27) kmX12_next_64_e1 (by decide +kernel)
theorem dX12_next_92 : decode cX12_next 92 = .ok (.i2l, 1) := rd_chunk (k := 64) (i := 28) kmX12_next_64_e1 (by decide +kernel)
theorem dX12_next_93 : decode cX12_next 93 = .ok (.invokevirtual 276, 3) := rd_chunk (k := 64) (i := 29) kmX12_next_64_e1 (by decide +kernel)
theorem dX12_next_96 : decode cX12_next 96 = .ok (.iload_n 3, 1) := rd_chunk (k := 64) (i := 32) kmX12_next_64_e1 (by decide +kernel)
theorem dX12_next_97 : decode cX12_next 97 = .ok (.ireturn, 1) := rd_chunk (k := 64) (i := 33) kmX12_next_64_e1 (by decide +kernel)
theorem dX12_next_98 : decode cX12_next 98 = .ok (.iinc 3 1, 3) := rd_chunk (k := 64) (i := 34) kmX12_next_64_e1 (by decide +kernel)
theorem dX12_next_101 : decode cX12_next 101 = .ok (.goto (-49), 3) := rd_chunk (k := 64) (i := 37) kmX12_next_64_e1 (by decide +kernel)
theorem dX12_next_104 : decode cX12_next 104 = .ok (.bipush (-2), 2) := rd_chunk (k := 64) (i := 40) kmX12_next_64_e1 (by decide +kernel)
theorem dX12_next_106 : decode cX12_next 106 = .ok (.ireturn, 1) := rd_chunk (k := 64) (i := 42) kmX12_next_64_e1 (by decide +kernel)
abbrev mX12_bears_0_e1 : ByteArray := .mk #[0x2a, 0x03, 0xb5, 0x00, 0x8c, 0x2a, 0x1b, 0xb6, 0x01, 0x07, 0x99, 0x00, 0x0a, 0x2a, 0xb4, 0x00, 0x92, 0x9a, 0x00, 0x05, 0x02, 0xac, 0x2a, 0xb4, 0x00, 0x26, 0x1b, 0x2e, 0x3d, 0x10, 0xfe, 0x3e, 0x10, 0x32, 0x36, 0x04, 0x15, 0x04, 0x9b, 0x00, 0x20, 0x1d, 0x9c, 0x00, 0x1c, 0x2a, 0xb4, 0x00, 0x26, 0x1b, 0x15, 0x04, 0x4f, 0x2a, 0x1b, 0xb6, 0x01, 0x3e, 0x99, 0x00, 0x06, 0x15, 0x04, 0x3e, 0x84, 0x04, 0xff, 0xa7, 0xff, 0xe1, 0x2a, 0xb4]
theorem kmX12_bears_0_e1 : CK cX12_bears 0 mX12_bears_0_e1 := ck_of (by decide +kernel)
theorem dX12_bears_0 : decode cX12_bears 0 = .ok (.aload_n 0, 1) := rd_chunk (k := 0) (i := 0) kmX12_bears_0_e1 (by decide +kernel)
theorem dX12_bears_1 : decode cX12_bears 1 = .ok (.iconst 0, 1) := rd_chunk (k := 0) (i := 1) kmX12_bears_0_e1 (by decide +kernel)
theorem dX12_bears_2 : decode cX12_bears 2 = .ok (.putfield 140, 3) := rd_chunk (k := 0) (i := 2) kmX12_bears_0_e1 (by decide +kernel)
theorem dX12_bears_5 : decode cX12_bears 5 = .ok (.aload_n 0, 1) := rd_chunk (k := 0) (i := 5) kmX12_bears_0_e1 (by decide +kernel)
theorem dX12_bears_6 : decode cX12_bears 6 = .ok (.iload_n 1, 1) := rd_chunk (k := 0) (i := 6) kmX12_bears_0_e1 (by decide +kernel)
theorem dX12_bears_7 : decode cX12_bears 7 = .ok (.invokevirtual 263, 3) := rd_chunk (k := 0) (i := 7) kmX12_bears_0_e1 (by decide +kernel)
theorem dX12_bears_10 : decode cX12_bears 10 = .ok (.ifCond .eq 10, 3) := rd_chunk (k := 0) (i := 10) kmX12_bears_0_e1 (by decide +kernel)
theorem dX12_bears_13 : decode cX12_bears 13 = .ok (.aload_n 0, 1) := rd_chunk (k := 0) (i := 13) kmX12_bears_0_e1 (by decide +kernel)
theorem dX12_bears_14 : decode cX12_bears 14 = .ok (.getfield 146, 3) := rd_chunk (k := 0) (i := 14) kmX12_bears_0_e1 (by decide +kernel)
theorem dX12_bears_17 : decode cX12_bears 17 = .ok (.ifCond .ne 5, 3) := rd_chunk (k := 0) (i := 17) kmX12_bears_0_e1 (by decide +kernel)
theorem dX12_bears_20 : decode cX12_bears 20 = .ok (.iconst (-1), 1) := rd_chunk (k := 0) (i := 20) kmX12_bears_0_e1 (by decide +kernel)
theorem dX12_bears_21 : decode cX12_bears 21 = .ok (.ireturn, 1) := rd_chunk (k := 0) (i := 21) kmX12_bears_0_e1 (by decide +kernel)
theorem dX12_bears_22 : decode cX12_bears 22 = .ok (.aload_n 0, 1) := rd_chunk (k := 0) (i := 22) kmX12_bears_0_e1 (by decide +kernel)
theorem dX12_bears_23 : decode cX12_bears 23 = .ok (.getfield 38, 3) := rd_chunk (k := 0) (i := 23) kmX12_bears_0_e1 (by decide +kernel)
theorem dX12_bears_26 : decode cX12_bears 26 = .ok (.iload_n 1, 1) := rd_chunk (k := 0) (i := 26) kmX12_bears_0_e1 (by decide +kernel)
theorem dX12_bears_27 : decode cX12_bears 27 = .ok (.iaload, 1) := rd_chunk (k := 0) (i := 27) kmX12_bears_0_e1 (by decide +kernel)
theorem dX12_bears_28 : decode cX12_bears 28 = .ok (.istore_n 2, 1) := rd_chunk (k := 0) (i := 28) kmX12_bears_0_e1 (by decide +kernel)
theorem dX12_bears_29 : decode cX12_bears 29 = .ok (.bipush (-2), 2) := rd_chunk (k := 0) (i := 29) kmX12_bears_0_e1 (by decide +kernel)
theorem dX12_bears_31 : decode cX12_bears 31 = .ok (.istore_n 3, 1) := rd_chunk (k := 0) (i := 31) kmX12_bears_0_e1 (by decide +kernel)
theorem dX12_bears_32 : decode cX12_bears 32 = .ok (.bipush 50, 2) := rd_chunk (k := 0) (i := 32) kmX12_bears_0_e1 (by decide +kernel)
theorem dX12_bears_34 : decode cX12_bears 34 = .ok (.istore 4, 2) := rd_chunk (k := 0) (i := 34) kmX12_bears_0_e1 (by decide +kernel)
theorem dX12_bears_36 : decode cX12_bears 36 = .ok (.iload 4, 2) := rd_chunk (k := 0) (i := 36) kmX12_bears_0_e1 (by decide +kernel)
theorem dX12_bears_38 : decode cX12_bears 38 = .ok (.ifCond .lt 32, 3) := rd_chunk (k := 0) (i := 38) kmX12_bears_0_e1 (by decide +kernel)
theorem dX12_bears_41 : decode cX12_bears 41 = .ok (.iload_n 3, 1) := rd_chunk (k := 0) (i := 41) kmX12_bears_0_e1 (by decide +kernel)
theorem dX12_bears_42 : decode cX12_bears 42 = .ok (.ifCond .ge 28, 3) := rd_chunk (k := 0) (i := 42) kmX12_bears_0_e1 (by decide +kernel)
theorem dX12_bears_45 : decode cX12_bears 45 = .ok (.aload_n 0, 1) := rd_chunk (k := 0) (i := 45) kmX12_bears_0_e1 (by decide +kernel)
theorem dX12_bears_46 : decode cX12_bears 46 = .ok (.getfield 38, 3) := rd_chunk (k := 0) (i := 46) kmX12_bears_0_e1 (by decide +kernel)
theorem dX12_bears_49 : decode cX12_bears 49 = .ok (.iload_n 1, 1) := rd_chunk (k := 0) (i := 49) kmX12_bears_0_e1 (by decide +kernel)
theorem dX12_bears_50 : decode cX12_bears 50 = .ok (.iload 4, 2) := rd_chunk (k := 0) (i := 50) kmX12_bears_0_e1 (by decide +kernel)
theorem dX12_bears_52 : decode cX12_bears 52 = .ok (.iastore, 1) := rd_chunk (k := 0) (i := 52) kmX12_bears_0_e1 (by decide +kernel)
theorem dX12_bears_53 : decode cX12_bears 53 = .ok (.aload_n 0, 1) := rd_chunk (k := 0) (i := 53) kmX12_bears_0_e1 (by decide +kernel)
theorem dX12_bears_54 : decode cX12_bears 54 = .ok (.iload_n 1, 1) := rd_chunk (k := 0) (i := 54) kmX12_bears_0_e1 (by decide +kernel)
theorem dX12_bears_55 : decode cX12_bears 55 = .ok (.invokevirtual 318, 3) := rd_chunk (k := 0) (i := 55) kmX12_bears_0_e1 (by decide +kernel)
theorem dX12_bears_58 : decode cX12_bears 58 = .ok (.ifCond .eq 6, 3) := rd_chunk (k := 0) (i := 58) kmX12_bears_0_e1 (by decide +kernel)
theorem dX12_bears_61 : decode cX12_bears 61 = .ok (.iload 4, 2) := rd_chunk (k := 0) (i := 61) kmX12_bears_0_e1 (by decide +kernel)
theorem dX12_bears_63 : decode cX12_bears 63 = .ok (.istore_n 3, 1) := rd_chunk (k := 0) (i := 63) kmX12_bears_0_e1 (by decide +kernel)
abbrev mX12_bears_64_e1 : ByteArray := .mk #[0x84, 0x04, 0xff, 0xa7, 0xff, 0xe1, 0x2a, 0xb4, 0x00, 0x26, 0x1b, 0x1c, 0x4f, 0x1d, 0x9c, 0x00, 0x06, 0x10, 0xfe, 0xac, 0x2a, 0x03, 0xb5, 0x00, 0x8f, 0x2a, 0x2a, 0xb4, 0x01, 0x32, 0x85, 0xb6, 0x01, 0x14, 0x1d, 0xac]
theorem kmX12_bears_64_e1 : CK cX12_bears 64 mX12_bears_64_e1 := ck_of (by decide +kernel)
theorem dX12_bears_64 : decode cX12_bears 64 = .ok (.iinc 4 (-1), 3) := rd_chunk (k := 64) (i := 0) kmX12_bears_64_e1 (by decide +kernel)
theorem dX12_bears_67 : decode cX12_bears 67 = .ok (.goto (-31), 3) := rd_chunk (k := 64) (i := 3) kmX12_bears_64_e1 (by decide +kernel)
theorem dX12_bears_70 : decode cX12_bears 70 = .ok (.aload_n 0, 1) := rd_chunk (k := 64) (i := 6) kmX12_bears_64_e1 (by decide +kernel)
theorem dX12_bears_71 : decode cX12_bears 71 = .ok (.getfield 38, 3) := rd_chunk (k := 64) (i := 7) kmX12_bears_64_e1 (by decide +kernel)
theorem dX12_bears_74 : decode cX12_bears 74 = .ok (.iload_n 1, 1) := rd_chunk (k := 64) (i := 10) kmX12_bears_64_e1 (by decide +kernel)
theorem dX12_bears_75 : decode cX12_bears 75 = .ok (.iload_n 2, 1) := rd_chunk (k := 64) (i := 11) kmX12_bears_64_e1 (by decide +kernel)
theorem dX12_bears_76 : decode cX12_bears 76 = .ok (.iastore, 1) := rd_chunk (k := 64) (i := 12) kmX12_bears_64_e1 (by decide +kernel)
theorem dX12_bears_77 : decode cX12_bears 77 = .ok (.iload_n 3, 1) := rd_chunk (k := 64) (i := 13) kmX12_bears_64_e1 (by decide +kernel)
theorem dX12_bears_78 : decode cX12_bears 78 = .ok (.ifCond .ge 6, 3) := rd_chunk (k := 64) (i := 14) kmX12_bears_64_e1 (by decide +kernel)
theorem dX12_bears_81 : decode cX12_bears 81 = .ok (.bipush (-2), 2) := rd_chunk (k := 64) (i := 17) kmX12_bears_64_e1 (by decide +kernel)
theorem dX12_bears_83 : decode cX12_bears 83 = .ok (.ireturn, 1) := rd_chunk (k := 64) (i := 19) kmX12_bears_64_e1 (by decide +kernel)
theorem dX12_bears_84 : decode cX12_bears 84 = .ok (.aload_n 0, 1) := rd_chunk (k := 64) (i := 20) kmX12_bears_64_e1 (by decide +kernel)
theorem dX12_bears_85 : decode cX12_bears 85 = .ok (.iconst 0, 1) := rd_chunk (k := 64) (i := 21) kmX12_bears_64_e1 (by decide +kernel)
theorem dX12_bears_86 : decode cX12_bears 86 = .ok (.putfield 143, 3) := rd_chunk (k := 64) (i := 22) kmX12_bears_64_e1 (by decide +kernel)
theorem dX12_bears_89 : decode cX12_bears 89 = .ok (.aload_n 0, 1) := rd_chunk (k := 64) (i := 25) kmX12_bears_64_e1 (by decide +kernel)
theorem dX12_bears_90 : decode cX12_bears 90 = .ok (.aload_n 0, 1) := rd_chunk (k := 64) (i := 26) kmX12_bears_64_e1 (by decide +kernel)
theorem dX12_bears_91 : decode cX12_bears 91 = .ok (.getfield 306, 3) := rd_chunk (k := 64) (i := 27) kmX12_bears_64_e1 (by decide +kernel)
theorem dX12_bears_94 : decode cX12_bears 94 = .ok (.i2l, 1) := rd_chunk (k := 64) (i := 30) kmX12_bears_64_e1 (by decide +kernel)
theorem dX12_bears_95 : decode cX12_bears 95 = .ok (.invokevirtual 276, 3) := rd_chunk (k := 64) (i := 31) kmX12_bears_64_e1 (by decide +kernel)
theorem dX12_bears_98 : decode cX12_bears 98 = .ok (.iload_n 3, 1) := rd_chunk (k := 64) (i := 34) kmX12_bears_64_e1 (by decide +kernel)
theorem dX12_bears_99 : decode cX12_bears 99 = .ok (.ireturn, 1) := rd_chunk (k := 64) (i := 35) kmX12_bears_64_e1 (by decide +kernel)
abbrev mX12_breaks_0_e1 : ByteArray := .mk #[0x2a, 0x03, 0xb5, 0x00, 0x8c, 0x2a, 0x1b, 0xb6, 0x01, 0x07, 0x99, 0x00, 0x0a, 0x2a, 0xb4, 0x00, 0x92, 0x9a, 0x00, 0x05, 0x02, 0xac, 0x2a, 0x1b, 0xb6, 0x01, 0x3e, 0x99, 0x00, 0x0a, 0x2a, 0xb4, 0x01, 0x32, 0xa7, 0x00, 0x04, 0x02, 0x3d, 0x2a, 0xb4, 0x00, 0x29, 0x1b, 0x2e, 0x3e, 0x10, 0xfe, 0x36, 0x04, 0x03, 0x36, 0x05, 0x03, 0x36, 0x06, 0x15, 0x06, 0x10, 0x08, 0xa2, 0x00, 0x46, 0x1d, 0x15, 0x06, 0xb8, 0x01, 0x23, 0x9a, 0x00, 0x06]
theorem kmX12_breaks_0_e1 : CK cX12_breaks 0 mX12_breaks_0_e1 := ck_of (by decide +kernel)
theorem dX12_breaks_0 : decode cX12_breaks 0 = .ok (.aload_n 0, 1) := rd_chunk (k := 0) (i := 0) kmX12_breaks_0_e1 (by decide +kernel)
theorem dX12_breaks_1 : decode cX12_breaks 1 = .ok (.iconst 0, 1) := rd_chunk (k := 0) (i := 1) kmX12_breaks_0_e1 (by decide +kernel)
theorem dX12_breaks_2 : decode cX12_breaks 2 = .ok (.putfield 140, 3) := rd_chunk (k := 0) (i := 2) kmX12_breaks_0_e1 (by decide +kernel)
theorem dX12_breaks_5 : decode cX12_breaks 5 = .ok (.aload_n 0, 1) := rd_chunk (k := 0) (i := 5) kmX12_breaks_0_e1 (by decide +kernel)
theorem dX12_breaks_6 : decode cX12_breaks 6 = .ok (.iload_n 1, 1) := rd_chunk (k := 0) (i := 6) kmX12_breaks_0_e1 (by decide +kernel)
theorem dX12_breaks_7 : decode cX12_breaks 7 = .ok (.invokevirtual 263, 3) := rd_chunk (k := 0) (i := 7) kmX12_breaks_0_e1 (by decide +kernel)
theorem dX12_breaks_10 : decode cX12_breaks 10 = .ok (.ifCond .eq 10, 3) := rd_chunk (k := 0) (i := 10) kmX12_breaks_0_e1 (by decide +kernel)
theorem dX12_breaks_13 : decode cX12_breaks 13 = .ok (.aload_n 0, 1) := rd_chunk (k := 0) (i := 13) kmX12_breaks_0_e1 (by decide +kernel)
theorem dX12_breaks_14 : decode cX12_breaks 14 = .ok (.getfield 146, 3) := rd_chunk (k := 0) (i := 14) kmX12_breaks_0_e1 (by decide +kernel)
theorem dX12_breaks_17 : decode cX12_breaks 17 = .ok (.ifCond .ne 5, 3) := rd_chunk (k := 0) (i := 17) kmX12_breaks_0_e1 (by decide +kernel)
theorem dX12_breaks_20 : decode cX12_breaks 20 = .ok (.iconst (-1), 1) := rd_chunk (k := 0) (i := 20) kmX12_breaks_0_e1 (by decide +kernel)
theorem dX12_breaks_21 : decode cX12_breaks 21 = .ok (.ireturn, 1) := rd_chunk (k := 0) (i := 21) kmX12_breaks_0_e1 (by decide +kernel)
theorem dX12_breaks_22 : decode cX12_breaks 22 = .ok (.aload_n 0, 1) := rd_chunk (k := 0) (i := 22) kmX12_breaks_0_e1 (by decide +kernel)
theorem dX12_breaks_23 : decode cX12_breaks 23 = .ok (.iload_n 1, 1) := rd_chunk (k := 0) (i := 23) kmX12_breaks_0_e1 (by decide +kernel)
theorem dX12_breaks_24 : decode cX12_breaks 24 = .ok (.invokevirtual 318, 3) := rd_chunk (k := 0) (i := 24) kmX12_breaks_0_e1 (by decide +kernel)
theorem dX12_breaks_27 : decode cX12_breaks 27 = .ok (.ifCond .eq 10, 3) := rd_chunk (k := 0) (i := 27) kmX12_breaks_0_e1 (by decide +kernel)
theorem dX12_breaks_30 : decode cX12_breaks 30 = .ok (.aload_n 0, 1) := rd_chunk (k := 0) (i := 30) kmX12_breaks_0_e1 (by decide +kernel)
theorem dX12_breaks_31 : decode cX12_breaks 31 = .ok (.getfield 306, 3) := rd_chunk (k := 0) (i := 31) kmX12_breaks_0_e1 (by decide +kernel)
theorem dX12_breaks_34 : decode cX12_breaks 34 = .ok (.goto 4, 3) := rd_chunk (k := 0) (i := 34) kmX12_breaks_0_e1 (by decide +kernel)
theorem dX12_breaks_37 : decode cX12_breaks 37 = .ok (.iconst (-1), 1) := rd_chunk (k := 0) (i := 37) kmX12_breaks_0_e1 (by decide +kernel)
theorem dX12_breaks_38 : decode cX12_breaks 38 = .ok (.istore_n 2, 1) := rd_chunk (k := 0) (i := 38) kmX12_breaks_0_e1 (by decide +kernel)
theorem dX12_breaks_39 : decode cX12_breaks 39 = .ok (.aload_n 0, 1) := rd_chunk (k := 0) (i := 39) kmX12_breaks_0_e1 (by decide +kernel)
theorem dX12_breaks_40 : decode cX12_breaks 40 = .ok (.getfield 41, 3) := rd_chunk (k := 0) (i := 40) kmX12_breaks_0_e1 (by decide +kernel)
theorem dX12_breaks_43 : decode cX12_breaks 43 = .ok (.iload_n 1, 1) := rd_chunk (k := 0) (i := 43) kmX12_breaks_0_e1 (by decide +kernel)
theorem dX12_breaks_44 : decode cX12_breaks 44 = .ok (.iaload, 1) := rd_chunk (k := 0) (i := 44) kmX12_breaks_0_e1 (by decide +kernel)
theorem dX12_breaks_45 : decode cX12_breaks 45 = .ok (.istore_n 3, 1) := rd_chunk (k := 0) (i := 45) kmX12_breaks_0_e1 (by decide +kernel)
theorem dX12_breaks_46 : decode cX12_breaks 46 = .ok (.bipush (-2), 2) := rd_chunk (k := 0) (i := 46) kmX12_breaks_0_e1 (by decide +kernel)
theorem dX12_breaks_48 : decode cX12_breaks 48 = .ok (.istore 4, 2) := rd_chunk (k := 0) (i := 48) kmX12_breaks_0_e1 (by decide +kernel)
theorem dX12_breaks_50 : decode cX12_breaks 50 = .ok (.iconst 0, 1) := rd_chunk (k := 0) (i := 50) kmX12_breaks_0_e1 (by decide +kernel)
theorem dX12_breaks_51 : decode cX12_breaks 51 = .ok (.istore 5, 2) := rd_chunk (k := 0) (i := 51) kmX12_breaks_0_e1 (by decide +kernel)
theorem dX12_breaks_53 : decode cX12_breaks 53 = .ok (.iconst 0, 1) := rd_chunk (k := 0) (i := 53) kmX12_breaks_0_e1 (by decide +kernel)
theorem dX12_breaks_54 : decode cX12_breaks 54 = .ok (.istore 6, 2) := rd_chunk (k := 0) (i := 54) kmX12_breaks_0_e1 (by decide +kernel)
theorem dX12_breaks_56 : decode cX12_breaks 56 = .ok (.iload 6, 2) := rd_chunk (k := 0) (i := 56) kmX12_breaks_0_e1 (by decide +kernel)
theorem dX12_breaks_58 : decode cX12_breaks 58 = .ok (.bipush 8, 2) := rd_chunk (k := 0) (i := 58) kmX12_breaks_0_e1 (by decide +kernel)
theorem dX12_breaks_60 : decode cX12_breaks 60 = .ok (.if_icmp .ge 70, 3) := rd_chunk (k := 0) (i := 60) kmX12_breaks_0_e1 (by decide +kernel)
theorem dX12_breaks_63 : decode cX12_breaks 63 = .ok (.iload_n 3, 1) := rd_chunk (k := 0) (i := 63) kmX12_breaks_0_e1 (by decide +kernel)
abbrev mX12_breaks_64_e1 : ByteArray := .mk #[0x15, 0x06, 0xb8, 0x01, 0x23, 0x9a, 0x00, 0x06, 0xa7, 0x00, 0x34, 0x2a, 0xb4, 0x00, 0x29, 0x1b, 0x1d, 0x04, 0x15, 0x06, 0x78, 0x02, 0x82, 0x7e, 0x4f, 0x2a, 0x1b, 0xb6, 0x01, 0x3e, 0x99, 0x00, 0x1e, 0x15, 0x04, 0x9b, 0x00, 0x0f, 0x2a, 0xb4, 0x01, 0x32, 0x15, 0x05, 0xa1, 0x00, 0x06, 0xa7, 0x00, 0x0d, 0x15, 0x06, 0x36, 0x04, 0x2a, 0xb4, 0x01, 0x32, 0x36, 0x05, 0x84, 0x06, 0x01, 0xa7, 0xff, 0xb9, 0x2a, 0xb4, 0x00, 0x29, 0x1b, 0x1d]
theorem kmX12_breaks_64_e1 : CK cX12_breaks 64 mX12_breaks_64_e1 := ck_of (by decide +kernel)
theorem dX12_breaks_64 : decode cX12_breaks 64 = .ok (.iload 6, 2) := rd_chunk (k := 64) (i := 0) kmX12_breaks_64_e1 (by decide +kernel)
theorem dX12_breaks_66 : decode cX12_breaks 66 = .ok (.invokestatic 291, 3) := rd_chunk (k := 64) (i := 2) kmX12_breaks_64_e1 (by decide +kernel)
theorem dX12_breaks_69 : decode cX12_breaks 69 = .ok (.ifCond .ne 6, 3) := rd_chunk (k := 64) (i := 5) kmX12_breaks_64_e1 (by decide +kernel)
theorem dX12_breaks_72 : decode cX12_breaks 72 = .ok (.goto 52, 3) := rd_chunk (k := 64) (i := 8) kmX12_breaks_64_e1 (by decide +kernel)
theorem dX12_breaks_75 : decode cX12_breaks 75 = .ok (.aload_n 0, 1) := rd_chunk (k := 64) (i := 11) kmX12_breaks_64_e1 (by decide +kernel)
theorem dX12_breaks_76 : decode cX12_breaks 76 = .ok (.getfield 41, 3) := rd_chunk (k := 64) (i := 12) kmX12_breaks_64_e1 (by decide +kernel)
theorem dX12_breaks_79 : decode cX12_breaks 79 = .ok (.iload_n 1, 1) := rd_chunk (k := 64) (i := 15) kmX12_breaks_64_e1 (by decide +kernel)
theorem dX12_breaks_80 : decode cX12_breaks 80 = .ok (.iload_n 3, 1) := rd_chunk (k := 64) (i := 16) kmX12_breaks_64_e1 (by decide +kernel)
theorem dX12_breaks_81 : decode cX12_breaks 81 = .ok (.iconst 1, 1) := rd_chunk (k := 64) (i := 17) kmX12_breaks_64_e1 (by decide +kernel)
theorem dX12_breaks_82 : decode cX12_breaks 82 = .ok (.iload 6, 2) := rd_chunk (k := 64) (i := 18) kmX12_breaks_64_e1 (by decide +kernel)
theorem dX12_breaks_84 : decode cX12_breaks 84 = .ok (.ishl, 1) := rd_chunk (k := 64) (i := 20) kmX12_breaks_64_e1 (by decide +kernel)
theorem dX12_breaks_85 : decode cX12_breaks 85 = .ok (.iconst (-1), 1) := rd_chunk (k := 64) (i := 21) kmX12_breaks_64_e1 (by decide +kernel)
theorem dX12_breaks_86 : decode cX12_breaks 86 = .ok (.ixor, 1) := rd_chunk (k := 64) (i := 22) kmX12_breaks_64_e1 (by decide +kernel)
theorem dX12_breaks_87 : decode cX12_breaks 87 = .ok (.iand, 1) := rd_chunk (k := 64) (i := 23) kmX12_breaks_64_e1 (by decide +kernel)
theorem dX12_breaks_88 : decode cX12_breaks 88 = .ok (.iastore, 1) := rd_chunk (k := 64) (i := 24) kmX12_breaks_64_e1 (by decide +kernel)
theorem dX12_breaks_89 : decode cX12_breaks 89 = .ok (.aload_n 0, 1) := rd_chunk (k := 64) (i := 25) kmX12_breaks_64_e1 (by decide +kernel)
theorem dX12_breaks_90 : decode cX12_breaks 90 = .ok (.iload_n 1, 1) := rd_chunk (k := 64) (i := 26) kmX12_breaks_64_e1 (by decide +kernel)
theorem dX12_breaks_91 : decode cX12_breaks 91 = .ok (.invokevirtual 318, 3) := rd_chunk (k := 64) (i := 27) kmX12_breaks_64_e1 (by decide +kernel)
theorem dX12_breaks_94 : decode cX12_breaks 94 = .ok (.ifCond .eq 30, 3) := rd_chunk (k := 64) (i := 30) kmX12_breaks_64_e1 (by decide +kernel)
theorem dX12_breaks_97 : decode cX12_breaks 97 = .ok (.iload 4, 2) := rd_chunk (k := 64) (i := 33) kmX12_breaks_64_e1 (by decide +kernel)
theorem dX12_breaks_99 : decode cX12_breaks 99 = .ok (.ifCond .lt 15, 3) := rd_chunk (k := 64) (i := 35) kmX12_breaks_64_e1 (by decide +kernel)
theorem dX12_breaks_102 : decode cX12_breaks 102 = .ok (.aload_n 0, 1) := rd_chunk (k := 64) (i := 38) kmX12_breaks_64_e1 (by decide +kernel)
theorem dX12_breaks_103 : decode cX12_breaks 103 = .ok (.getfield 306, 3) := rd_chunk (k := 64) (i := 39) kmX12_breaks_64_e1 (by decide +kernel)
theorem dX12_breaks_106 : decode cX12_breaks 106 = .ok (.iload 5, 2) := rd_chunk (k := 64) (i := 42) kmX12_breaks_64_e1 (by decide +kernel)
theorem dX12_breaks_108 : decode cX12_breaks 108 = .ok (.if_icmp .lt 6, 3) := rd_chunk (k := 64) (i := 44) kmX12_breaks_64_e1 (by decide +kernel)
theorem dX12_breaks_111 : decode cX12_breaks 111 = .ok (.goto 13, 3) := rd_chunk (k := 64) (i := 47) kmX12_breaks_64_e1 (by decide +kernel)
theorem dX12_breaks_114 : decode cX12_breaks 114 = .ok (.iload 6, 2) := rd_chunk (k := 64) (i := 50) kmX12_breaks_64_e1 (by decide +kernel)
theorem dX12_breaks_116 : decode cX12_breaks 116 = .ok (.istore 4, 2) := rd_chunk (k := 64) (i := 52) kmX12_breaks_64_e1 (by decide +kernel)
theorem dX12_breaks_118 : decode cX12_breaks 118 = .ok (.aload_n 0, 1) := rd_chunk (k := 64) (i := 54) kmX12_breaks_64_e1 (by decide +kernel)
theorem dX12_breaks_119 : decode cX12_breaks 119 = .ok (.getfield 306, 3) := rd_chunk (k := 64) (i := 55) kmX12_breaks_64_e1 (by decide +kernel)
theorem dX12_breaks_122 : decode cX12_breaks 122 = .ok (.istore 5, 2) := rd_chunk (k := 64) (i := 58) kmX12_breaks_64_e1 (by decide +kernel)
theorem dX12_breaks_124 : decode cX12_breaks 124 = .ok (.iinc 6 1, 3) := rd_chunk (k := 64) (i := 60) kmX12_breaks_64_e1 (by decide +kernel)
theorem dX12_breaks_127 : decode cX12_breaks 127 = .ok (.goto (-71), 3) := rd_chunk (k := 64) (i := 63) kmX12_breaks_64_e1 (by decide +kernel)
abbrev mX12_breaks_128_e1 : ByteArray := .mk #[0xff, 0xb9, 0x2a, 0xb4, 0x00, 0x29, 0x1b, 0x1d, 0x4f, 0x15, 0x04, 0x9c, 0x00, 0x06, 0x10, 0xfe, 0xac, 0x2a, 0x03, 0xb5, 0x00, 0x8f, 0x2a, 0x15, 0x05, 0x85, 0xb6, 0x01, 0x14, 0x2a, 0x1c, 0x85, 0xb6, 0x01, 0x14, 0x15, 0x04, 0xac]
theorem kmX12_breaks_128_e1 : CK cX12_breaks 128 mX12_breaks_128_e1 := ck_of (by decide +kernel)
theorem dX12_breaks_130 : decode cX12_breaks 130 = .ok (.aload_n 0, 1) := rd_chunk (k := 128) (i := 2) kmX12_breaks_128_e1 (by decide +kernel)
theorem dX12_breaks_131 : decode cX12_breaks 131 = .ok (.getfield 41, 3) := rd_chunk (k := 128) (i := 3) kmX12_breaks_128_e1 (by decide +kernel)
theorem dX12_breaks_134 : decode cX12_breaks 134 = .ok (.iload_n 1, 1) := rd_chunk (k := 128) (i := 6) kmX12_breaks_128_e1 (by decide +kernel)
theorem dX12_breaks_135 : decode cX12_breaks 135 = .ok (.iload_n 3, 1) := rd_chunk (k := 128) (i := 7) kmX12_breaks_128_e1 (by decide +kernel)
theorem dX12_breaks_136 : decode cX12_breaks 136 = .ok (.iastore, 1) := rd_chunk (k := 128) (i := 8) kmX12_breaks_128_e1 (by decide +kernel)
theorem dX12_breaks_137 : decode cX12_breaks 137 = .ok (.iload 4, 2) := rd_chunk (k := 128) (i := 9) kmX12_breaks_128_e1 (by decide +kernel)
theorem dX12_breaks_139 : decode cX12_breaks 139 = .ok (.ifCond .ge 6, 3) := rd_chunk (k := 128) (i := 11) kmX12_breaks_128_e1 (by decide +kernel)
theorem dX12_breaks_142 : decode cX12_breaks 142 = .ok (.bipush (-2), 2) := rd_chunk (k := 128) (i := 14) kmX12_breaks_128_e1 (by decide +kernel)
theorem dX12_breaks_144 : decode cX12_breaks 144 = .ok (.ireturn, 1) := rd_chunk (k := 128) (i := 16) kmX12_breaks_128_e1 (by decide +kernel)
theorem dX12_breaks_145 : decode cX12_breaks 145 = .ok (.aload_n 0, 1) := rd_chunk (k := 128) (i := 17) kmX12_breaks_128_e1 (by decide +kernel)
theorem dX12_breaks_146 : decode cX12_breaks 146 = .ok (.iconst 0, 1) := rd_chunk (k := 128) (i := 18) kmX12_breaks_128_e1 (by decide +kernel)
theorem dX12_breaks_147 : decode cX12_breaks 147 = .ok (.putfield 143, 3) := rd_chunk (k := 128) (i := 19) kmX12_breaks_128_e1 (by decide +kernel)
theorem dX12_breaks_150 : decode cX12_breaks 150 = .ok (.aload_n 0, 1) := rd_chunk (k := 128) (i := 22) kmX12_breaks_128_e1 (by decide +kernel)
theorem dX12_breaks_151 : decode cX12_breaks 151 = .ok (.iload 5, 2) := rd_chunk (k := 128) (i := 23) kmX12_breaks_128_e1 (by decide +kernel)
theorem dX12_breaks_153 : decode cX12_breaks 153 = .ok (.i2l, 1) := rd_chunk (k := 128) (i := 25) kmX12_breaks_128_e1 (by decide +kernel)
theorem dX12_breaks_154 : decode cX12_breaks 154 = .ok (.invokevirtual 276, 3) := rd_chunk (k := 128) (i := 26) kmX12_breaks_128_e1 (by decide +kernel)
theorem dX12_breaks_157 : decode cX12_breaks 157 = .ok (.aload_n 0, 1) := rd_chunk (k := 128) (i := 29) kmX12_breaks_128_e1 (by decide +kernel)
theorem dX12_breaks_158 : decode cX12_breaks 158 = .ok (.iload_n 2, 1) := rd_chunk (k := 128) (i := 30) kmX12_breaks_128_e1 (by decide +kernel)
theorem dX12_breaks_159 : decode cX12_breaks 159 = .ok (.i2l, 1) := rd_chunk (k := 128) (i := 31) kmX12_breaks_128_e1 (by decide +kernel)
theorem dX12_breaks_160 : decode cX12_breaks 160 = .ok (.invokevirtual 276, 3) := rd_chunk (k := 128) (i := 32) kmX12_breaks_128_e1 (by decide +kernel)
theorem dX12_breaks_163 : decode cX12_breaks 163 = .ok (.iload 4, 2) := rd_chunk (k := 128) (i := 35) kmX12_breaks_128_e1 (by decide +kernel)
theorem dX12_breaks_165 : decode cX12_breaks 165 = .ok (.ireturn, 1) := rd_chunk (k := 128) (i := 37) kmX12_breaks_128_e1 (by decide +kernel)
theorem dX12_findAll_0 : decode cX12_findAll 0 = .ok (.aload_n 0, 1) := by decide +kernel
theorem dX12_findAll_1 : decode cX12_findAll 1 = .ok (.iconst 0, 1) := by decide +kernel
theorem dX12_findAll_2 : decode cX12_findAll 2 = .ok (.putfield 343, 3) := by decide +kernel
theorem dX12_findAll_5 : decode cX12_findAll 5 = .ok (.aload_n 0, 1) := by decide +kernel
theorem dX12_findAll_6 : decode cX12_findAll 6 = .ok (.iconst 0, 1) := by decide +kernel
theorem dX12_findAll_7 : decode cX12_findAll 7 = .ok (.putfield 346, 3) := by decide +kernel
theorem dX12_findAll_10 : decode cX12_findAll 10 = .ok (.aload_n 0, 1) := by decide +kernel
theorem dX12_findAll_11 : decode cX12_findAll 11 = .ok (.iconst 0, 1) := by decide +kernel
theorem dX12_findAll_12 : decode cX12_findAll 12 = .ok (.putfield 349, 3) := by decide +kernel
theorem dX12_findAll_15 : decode cX12_findAll 15 = .ok (.iconst 0, 1) := by decide +kernel
theorem dX12_findAll_16 : decode cX12_findAll 16 = .ok (.istore_n 1, 1) := by decide +kernel
theorem dX12_findAll_17 : decode cX12_findAll 17 = .ok (.iload_n 1, 1) := by decide +kernel
theorem dX12_findAll_18 : decode cX12_findAll 18 = .ok (.aload_n 0, 1) := by decide +kernel
theorem dX12_findAll_19 : decode cX12_findAll 19 = .ok (.getfield 153, 3) := by decide +kernel
theorem dX12_findAll_22 : decode cX12_findAll 22 = .ok (.if_icmp .ge 63, 3) := by decide +kernel
theorem dX12_findAll_25 : decode cX12_findAll 25 = .ok (.aload_n 0, 1) := by decide +kernel
theorem dX12_findAll_26 : decode cX12_findAll 26 = .ok (.getfield 146, 3) := by decide +kernel
theorem dX12_findAll_29 : decode cX12_findAll 29 = .ok (.ifCond .le 56, 3) := by decide +kernel
theorem dX12_findAll_32 : decode cX12_findAll 32 = .ok (.aload_n 0, 1) := by decide +kernel
theorem dX12_findAll_33 : decode cX12_findAll 33 = .ok (.iload_n 1, 1) := by decide +kernel
theorem dX12_findAll_34 : decode cX12_findAll 34 = .ok (.invokevirtual 318, 3) := by decide +kernel
theorem dX12_findAll_37 : decode cX12_findAll 37 = .ok (.ifCond .ne 6, 3) := by decide +kernel
theorem dX12_findAll_40 : decode cX12_findAll 40 = .ok (.goto 39, 3) := by decide +kernel
theorem dX12_findAll_43 : decode cX12_findAll 43 = .ok (.aload_n 0, 1) := by decide +kernel
theorem dX12_findAll_44 : decode cX12_findAll 44 = .ok (.dup, 1) := by decide +kernel
theorem dX12_findAll_45 : decode cX12_findAll 45 = .ok (.getfield 343, 3) := by decide +kernel
theorem dX12_findAll_48 : decode cX12_findAll 48 = .ok (.iconst 1, 1) := by decide +kernel
theorem dX12_findAll_49 : decode cX12_findAll 49 = .ok (.iadd, 1) := by decide +kernel
theorem dX12_findAll_50 : decode cX12_findAll 50 = .ok (.putfield 343, 3) := by decide +kernel
theorem dX12_findAll_53 : decode cX12_findAll 53 = .ok (.aload_n 0, 1) := by decide +kernel
theorem dX12_findAll_54 : decode cX12_findAll 54 = .ok (.dup, 1) := by decide +kernel
theorem dX12_findAll_55 : decode cX12_findAll 55 = .ok (.getfield 346, 3) := by decide +kernel
theorem dX12_findAll_58 : decode cX12_findAll 58 = .ok (.aload_n 0, 1) := by decide +kernel
theorem dX12_findAll_59 : decode cX12_findAll 59 = .ok (.getfield 306, 3) := by decide +kernel
theorem dX12_findAll_62 : decode cX12_findAll 62 = .ok (.iadd, 1) := by decide +kernel
theorem dX12_findAll_63 : decode cX12_findAll 63 = .ok (.putfield 346, 3) := by decide +kernel
theorem dX12_findAll_66 : decode cX12_findAll 66 = .ok (.aload_n 0, 1) := by decide +kernel
theorem dX12_findAll_67 : decode cX12_findAll 67 = .ok (.dup, 1) := by decide +kernel
theorem dX12_findAll_68 : decode cX12_findAll 68 = .ok (.getfield 349, 3) := by decide +kernel
theorem dX12_findAll_71 : decode cX12_findAll 71 = .ok (.aload_n 0, 1) := by decide +kernel
theorem dX12_findAll_72 : decode cX12_findAll 72 = .ok (.getfield 309, 3) := by decide +kernel
theorem dX12_findAll_75 : decode cX12_findAll 75 = .ok (.iadd, 1) := by decide +kernel
theorem dX12_findAll_76 : decode cX12_findAll 76 = .ok (.putfield 349, 3) := by decide +kernel
theorem dX12_findAll_79 : decode cX12_findAll 79 = .ok (.iinc 1 1, 3) := by decide +kernel
theorem dX12_findAll_82 : decode cX12_findAll 82 = .ok (.goto (-65), 3) := by decide +kernel
theorem dX12_findAll_85 : decode cX12_findAll 85 = .ok (.return_, 1) := by decide +kernel
theorem dX12_all_0 : decode cX12_all 0 = .ok (.aload_n 0, 1) := by decide +kernel
theorem dX12_all_1 : decode cX12_all 1 = .ok (.iconst 0, 1) := by decide +kernel
theorem dX12_all_2 : decode cX12_all 2 = .ok (.putfield 140, 3) := by decide +kernel
theorem dX12_all_5 : decode cX12_all 5 = .ok (.aload_n 0, 1) := by decide +kernel
theorem dX12_all_6 : decode cX12_all 6 = .ok (.invokevirtual 352, 3) := by decide +kernel
theorem dX12_all_9 : decode cX12_all 9 = .ok (.aload_n 0, 1) := by decide +kernel
theorem dX12_all_10 : decode cX12_all 10 = .ok (.iconst 0, 1) := by decide +kernel
theorem dX12_all_11 : decode cX12_all 11 = .ok (.putfield 143, 3) := by decide +kernel
theorem dX12_all_14 : decode cX12_all 14 = .ok (.aload_n 0, 1) := by decide +kernel
theorem dX12_all_15 : decode cX12_all 15 = .ok (.aload_n 0, 1) := by decide +kernel
theorem dX12_all_16 : decode cX12_all 16 = .ok (.getfield 343, 3) := by decide +kernel
theorem dX12_all_19 : decode cX12_all 19 = .ok (.i2l, 1) := by decide +kernel
theorem dX12_all_20 : decode cX12_all 20 = .ok (.invokevirtual 276, 3) := by decide +kernel
theorem dX12_all_23 : decode cX12_all 23 = .ok (.aload_n 0, 1) := by decide +kernel
theorem dX12_all_24 : decode cX12_all 24 = .ok (.aload_n 0, 1) := by decide +kernel
theorem dX12_all_25 : decode cX12_all 25 = .ok (.getfield 349, 3) := by decide +kernel
theorem dX12_all_28 : decode cX12_all 28 = .ok (.i2l, 1) := by decide +kernel
theorem dX12_all_29 : decode cX12_all 29 = .ok (.invokevirtual 276, 3) := by decide +kernel
theorem dX12_all_32 : decode cX12_all 32 = .ok (.aload_n 0, 1) := by decide +kernel
theorem dX12_all_33 : decode cX12_all 33 = .ok (.getfield 346, 3) := by decide +kernel
theorem dX12_all_36 : decode cX12_all 36 = .ok (.ireturn, 1) := by decide +kernel
theorem dX12_tellMore_0 : decode cX12_tellMore 0 = .ok (.aload_n 0, 1) := by decide +kernel
theorem dX12_tellMore_1 : decode cX12_tellMore 1 = .ok (.iconst 0, 1) := by decide +kernel
theorem dX12_tellMore_2 : decode cX12_tellMore 2 = .ok (.putfield 143, 3) := by decide +kernel
theorem dX12_tellMore_5 : decode cX12_tellMore 5 = .ok (.aload_n 0, 1) := by decide +kernel
theorem dX12_tellMore_6 : decode cX12_tellMore 6 = .ok (.aload_n 0, 1) := by decide +kernel
theorem dX12_tellMore_7 : decode cX12_tellMore 7 = .ok (.getfield 343, 3) := by decide +kernel
theorem dX12_tellMore_10 : decode cX12_tellMore 10 = .ok (.iload_n 1, 1) := by decide +kernel
theorem dX12_tellMore_11 : decode cX12_tellMore 11 = .ok (.isub, 1) := by decide +kernel
theorem dX12_tellMore_12 : decode cX12_tellMore 12 = .ok (.i2l, 1) := by decide +kernel
theorem dX12_tellMore_13 : decode cX12_tellMore 13 = .ok (.invokevirtual 276, 3) := by decide +kernel
theorem dX12_tellMore_16 : decode cX12_tellMore 16 = .ok (.aload_n 0, 1) := by decide +kernel
theorem dX12_tellMore_17 : decode cX12_tellMore 17 = .ok (.aload_n 0, 1) := by decide +kernel
theorem dX12_tellMore_18 : decode cX12_tellMore 18 = .ok (.getfield 346, 3) := by decide +kernel
theorem dX12_tellMore_21 : decode cX12_tellMore 21 = .ok (.iload_n 2, 1) := by decide +kernel
theorem dX12_tellMore_22 : decode cX12_tellMore 22 = .ok (.isub, 1) := by decide +kernel
theorem dX12_tellMore_23 : decode cX12_tellMore 23 = .ok (.i2l, 1) := by decide +kernel
theorem dX12_tellMore_24 : decode cX12_tellMore 24 = .ok (.invokevirtual 276, 3) := by decide +kernel
theorem dX12_tellMore_27 : decode cX12_tellMore 27 = .ok (.aload_n 0, 1) := by decide +kernel
theorem dX12_tellMore_28 : decode cX12_tellMore 28 = .ok (.aload_n 0, 1) := by decide +kernel
theorem dX12_tellMore_29 : decode cX12_tellMore 29 = .ok (.getfield 349, 3) := by decide +kernel
theorem dX12_tellMore_32 : decode cX12_tellMore 32 = .ok (.iload_n 3, 1) := by decide +kernel
theorem dX12_tellMore_33 : decode cX12_tellMore 33 = .ok (.isub, 1) := by decide +kernel
theorem dX12_tellMore_34 : decode cX12_tellMore 34 = .ok (.i2l, 1) := by decide +kernel
theorem dX12_tellMore_35 : decode cX12_tellMore 35 = .ok (.invokevirtual 276, 3) := by decide +kernel
theorem dX12_tellMore_38 : decode cX12_tellMore 38 = .ok (.aload_n 0, 1) := by decide +kernel
theorem dX12_tellMore_39 : decode cX12_tellMore 39 = .ok (.getfield 343, 3) := by decide +kernel
theorem dX12_tellMore_42 : decode cX12_tellMore 42 = .ok (.iload_n 1, 1) := by decide +kernel
theorem dX12_tellMore_43 : decode cX12_tellMore 43 = .ok (.if_icmp .ne 19, 3) := by decide +kernel
theorem dX12_tellMore_46 : decode cX12_tellMore 46 = .ok (.aload_n 0, 1) := by decide +kernel
theorem dX12_tellMore_47 : decode cX12_tellMore 47 = .ok (.getfield 346, 3) := by decide +kernel
theorem dX12_tellMore_50 : decode cX12_tellMore 50 = .ok (.iload_n 2, 1) := by decide +kernel
theorem dX12_tellMore_51 : decode cX12_tellMore 51 = .ok (.if_icmp .ne 11, 3) := by decide +kernel
theorem dX12_tellMore_54 : decode cX12_tellMore 54 = .ok (.aload_n 0, 1) := by decide +kernel
theorem dX12_tellMore_55 : decode cX12_tellMore 55 = .ok (.getfield 349, 3) := by decide +kernel
theorem dX12_tellMore_58 : decode cX12_tellMore 58 = .ok (.iload_n 3, 1) := by decide +kernel
theorem dX12_tellMore_59 : decode cX12_tellMore 59 = .ok (.if_icmp .eq 7, 3) := by decide +kernel
theorem dX12_tellMore_62 : decode cX12_tellMore 62 = .ok (.iconst 1, 1) := by decide +kernel
theorem dX12_tellMore_63 : decode cX12_tellMore 63 = .ok (.goto 4, 3) := by decide +kernel
theorem dX12_tellMore_66 : decode cX12_tellMore 66 = .ok (.iconst 0, 1) := by decide +kernel
theorem dX12_tellMore_67 : decode cX12_tellMore 67 = .ok (.ireturn, 1) := by decide +kernel
theorem dX12_whole_0 : decode cX12_whole 0 = .ok (.aload_n 0, 1) := by decide +kernel
theorem dX12_whole_1 : decode cX12_whole 1 = .ok (.iconst 0, 1) := by decide +kernel
theorem dX12_whole_2 : decode cX12_whole 2 = .ok (.putfield 140, 3) := by decide +kernel
theorem dX12_whole_5 : decode cX12_whole 5 = .ok (.aload_n 0, 1) := by decide +kernel
theorem dX12_whole_6 : decode cX12_whole 6 = .ok (.iload_n 1, 1) := by decide +kernel
theorem dX12_whole_7 : decode cX12_whole 7 = .ok (.invokevirtual 249, 3) := by decide +kernel
theorem dX12_whole_10 : decode cX12_whole 10 = .ok (.ifCond .ne 5, 3) := by decide +kernel
theorem dX12_whole_13 : decode cX12_whole 13 = .ok (.iconst (-1), 1) := by decide +kernel
theorem dX12_whole_14 : decode cX12_whole 14 = .ok (.ireturn, 1) := by decide +kernel
theorem dX12_whole_15 : decode cX12_whole 15 = .ok (.aload_n 0, 1) := by decide +kernel
theorem dX12_whole_16 : decode cX12_whole 16 = .ok (.invokevirtual 352, 3) := by decide +kernel
theorem dX12_whole_19 : decode cX12_whole 19 = .ok (.aload_n 0, 1) := by decide +kernel
theorem dX12_whole_20 : decode cX12_whole 20 = .ok (.getfield 343, 3) := by decide +kernel
theorem dX12_whole_23 : decode cX12_whole 23 = .ok (.istore_n 2, 1) := by decide +kernel
theorem dX12_whole_24 : decode cX12_whole 24 = .ok (.aload_n 0, 1) := by decide +kernel
theorem dX12_whole_25 : decode cX12_whole 25 = .ok (.getfield 346, 3) := by decide +kernel
theorem dX12_whole_28 : decode cX12_whole 28 = .ok (.istore_n 3, 1) := by decide +kernel
theorem dX12_whole_29 : decode cX12_whole 29 = .ok (.aload_n 0, 1) := by decide +kernel
theorem dX12_whole_30 : decode cX12_whole 30 = .ok (.getfield 349, 3) := by decide +kernel
theorem dX12_whole_33 : decode cX12_whole 33 = .ok (.istore 4, 2) := by decide +kernel
theorem dX12_whole_35 : decode cX12_whole 35 = .ok (.aload_n 0, 1) := by decide +kernel
theorem dX12_whole_36 : decode cX12_whole 36 = .ok (.getfield 13, 3) := by decide +kernel
theorem dX12_whole_39 : decode cX12_whole 39 = .ok (.iload_n 1, 1) := by decide +kernel
theorem dX12_whole_40 : decode cX12_whole 40 = .ok (.iaload, 1) := by decide +kernel
theorem dX12_whole_41 : decode cX12_whole 41 = .ok (.istore 5, 2) := by decide +kernel
theorem dX12_whole_43 : decode cX12_whole 43 = .ok (.aload_n 0, 1) := by decide +kernel
theorem dX12_whole_44 : decode cX12_whole 44 = .ok (.getfield 13, 3) := by decide +kernel
theorem dX12_whole_47 : decode cX12_whole 47 = .ok (.iload_n 1, 1) := by decide +kernel
theorem dX12_whole_48 : decode cX12_whole 48 = .ok (.bipush 9, 2) := by decide +kernel
theorem dX12_whole_50 : decode cX12_whole 50 = .ok (.iastore, 1) := by decide +kernel
theorem dX12_whole_51 : decode cX12_whole 51 = .ok (.aload_n 0, 1) := by decide +kernel
theorem dX12_whole_52 : decode cX12_whole 52 = .ok (.invokevirtual 352, 3) := by decide +kernel
theorem dX12_whole_55 : decode cX12_whole 55 = .ok (.aload_n 0, 1) := by decide +kernel
theorem dX12_whole_56 : decode cX12_whole 56 = .ok (.getfield 13, 3) := by decide +kernel
theorem dX12_whole_59 : decode cX12_whole 59 = .ok (.iload_n 1, 1) := by decide +kernel
theorem dX12_whole_60 : decode cX12_whole 60 = .ok (.iload 5, 2) := by decide +kernel
theorem dX12_whole_62 : decode cX12_whole 62 = .ok (.iastore, 1) := by decide +kernel
theorem dX12_whole_63 : decode cX12_whole 63 = .ok (.aload_n 0, 1) := by decide +kernel
theorem dX12_whole_64 : decode cX12_whole 64 = .ok (.iload_n 2, 1) := by decide +kernel
theorem dX12_whole_65 : decode cX12_whole 65 = .ok (.iload_n 3, 1) := by decide +kernel
theorem dX12_whole_66 : decode cX12_whole 66 = .ok (.iload 4, 2) := by decide +kernel
theorem dX12_whole_68 : decode cX12_whole 68 = .ok (.invokevirtual 355, 3) := by decide +kernel
theorem dX12_whole_71 : decode cX12_whole 71 = .ok (.ireturn, 1) := by decide +kernel
theorem dX12_shut_0 : decode cX12_shut 0 = .ok (.aload_n 0, 1) := by decide +kernel
theorem dX12_shut_1 : decode cX12_shut 1 = .ok (.iconst 0, 1) := by decide +kernel
theorem dX12_shut_2 : decode cX12_shut 2 = .ok (.putfield 140, 3) := by decide +kernel
theorem dX12_shut_5 : decode cX12_shut 5 = .ok (.aload_n 0, 1) := by decide +kernel
theorem dX12_shut_6 : decode cX12_shut 6 = .ok (.iload_n 1, 1) := by decide +kernel
theorem dX12_shut_7 : decode cX12_shut 7 = .ok (.invokevirtual 249, 3) := by decide +kernel
theorem dX12_shut_10 : decode cX12_shut 10 = .ok (.ifCond .ne 5, 3) := by decide +kernel
theorem dX12_shut_13 : decode cX12_shut 13 = .ok (.iconst (-1), 1) := by decide +kernel
theorem dX12_shut_14 : decode cX12_shut 14 = .ok (.ireturn, 1) := by decide +kernel
theorem dX12_shut_15 : decode cX12_shut 15 = .ok (.aload_n 0, 1) := by decide +kernel
theorem dX12_shut_16 : decode cX12_shut 16 = .ok (.invokevirtual 352, 3) := by decide +kernel
theorem dX12_shut_19 : decode cX12_shut 19 = .ok (.aload_n 0, 1) := by decide +kernel
theorem dX12_shut_20 : decode cX12_shut 20 = .ok (.getfield 343, 3) := by decide +kernel
theorem dX12_shut_23 : decode cX12_shut 23 = .ok (.istore_n 2, 1) := by decide +kernel
theorem dX12_shut_24 : decode cX12_shut 24 = .ok (.aload_n 0, 1) := by decide +kernel
theorem dX12_shut_25 : decode cX12_shut 25 = .ok (.getfield 346, 3) := by decide +kernel
theorem dX12_shut_28 : decode cX12_shut 28 = .ok (.istore_n 3, 1) := by decide +kernel
theorem dX12_shut_29 : decode cX12_shut 29 = .ok (.aload_n 0, 1) := by decide +kernel
theorem dX12_shut_30 : decode cX12_shut 30 = .ok (.getfield 349, 3) := by decide +kernel
theorem dX12_shut_33 : decode cX12_shut 33 = .ok (.istore 4, 2) := by decide +kernel
theorem dX12_shut_35 : decode cX12_shut 35 = .ok (.aload_n 0, 1) := by decide +kernel
theorem dX12_shut_36 : decode cX12_shut 36 = .ok (.iload_n 1, 1) := by decide +kernel
theorem dX12_shut_37 : decode cX12_shut 37 = .ok (.putfield 91, 3) := by decide +kernel
theorem dX12_shut_40 : decode cX12_shut 40 = .ok (.aload_n 0, 1) := by decide +kernel
theorem dX12_shut_41 : decode cX12_shut 41 = .ok (.invokevirtual 352, 3) := by decide +kernel
theorem dX12_shut_44 : decode cX12_shut 44 = .ok (.aload_n 0, 1) := by decide +kernel
theorem dX12_shut_45 : decode cX12_shut 45 = .ok (.iconst (-1), 1) := by decide +kernel
theorem dX12_shut_46 : decode cX12_shut 46 = .ok (.putfield 91, 3) := by decide +kernel
theorem dX12_shut_49 : decode cX12_shut 49 = .ok (.aload_n 0, 1) := by decide +kernel
theorem dX12_shut_50 : decode cX12_shut 50 = .ok (.iload_n 2, 1) := by decide +kernel
theorem dX12_shut_51 : decode cX12_shut 51 = .ok (.iload_n 3, 1) := by decide +kernel
theorem dX12_shut_52 : decode cX12_shut 52 = .ok (.iload 4, 2) := by decide +kernel
theorem dX12_shut_54 : decode cX12_shut 54 = .ok (.invokevirtual 355, 3) := by decide +kernel
theorem dX12_shut_57 : decode cX12_shut 57 = .ok (.ireturn, 1) := by decide +kernel
theorem dX12_mends_0 : decode cX12_mends 0 = .ok (.aload_n 0, 1) := by decide +kernel
theorem dX12_mends_1 : decode cX12_mends 1 = .ok (.iconst 0, 1) := by decide +kernel
theorem dX12_mends_2 : decode cX12_mends 2 = .ok (.putfield 140, 3) := by decide +kernel
theorem dX12_mends_5 : decode cX12_mends 5 = .ok (.aload_n 0, 1) := by decide +kernel
theorem dX12_mends_6 : decode cX12_mends 6 = .ok (.iload_n 1, 1) := by decide +kernel
theorem dX12_mends_7 : decode cX12_mends 7 = .ok (.invokevirtual 249, 3) := by decide +kernel
theorem dX12_mends_10 : decode cX12_mends 10 = .ok (.ifCond .ne 5, 3) := by decide +kernel
theorem dX12_mends_13 : decode cX12_mends 13 = .ok (.iconst (-1), 1) := by decide +kernel
theorem dX12_mends_14 : decode cX12_mends 14 = .ok (.ireturn, 1) := by decide +kernel
theorem dX12_mends_15 : decode cX12_mends 15 = .ok (.bipush 9, 2) := by decide +kernel
theorem dX12_mends_17 : decode cX12_mends 17 = .ok (.aload_n 0, 1) := by decide +kernel
theorem dX12_mends_18 : decode cX12_mends 18 = .ok (.getfield 13, 3) := by decide +kernel
theorem dX12_mends_21 : decode cX12_mends 21 = .ok (.iload_n 1, 1) := by decide +kernel
theorem dX12_mends_22 : decode cX12_mends 22 = .ok (.iaload, 1) := by decide +kernel
theorem dX12_mends_23 : decode cX12_mends 23 = .ok (.isub, 1) := by decide +kernel
theorem dX12_mends_24 : decode cX12_mends 24 = .ok (.aload_n 0, 1) := by decide +kernel
theorem dX12_mends_25 : decode cX12_mends 25 = .ok (.getfield 9, 3) := by decide +kernel
theorem dX12_mends_28 : decode cX12_mends 28 = .ok (.iload_n 1, 1) := by decide +kernel
theorem dX12_mends_29 : decode cX12_mends 29 = .ok (.iaload, 1) := by decide +kernel
theorem dX12_mends_30 : decode cX12_mends 30 = .ok (.imul, 1) := by decide +kernel
theorem dX12_mends_31 : decode cX12_mends 31 = .ok (.istore_n 2, 1) := by decide +kernel
theorem dX12_mends_32 : decode cX12_mends 32 = .ok (.aload_n 0, 1) := by decide +kernel
theorem dX12_mends_33 : decode cX12_mends 33 = .ok (.iload_n 1, 1) := by decide +kernel
theorem dX12_mends_34 : decode cX12_mends 34 = .ok (.iload_n 2, 1) := by decide +kernel
theorem dX12_mends_35 : decode cX12_mends 35 = .ok (.iconst (-1), 1) := by decide +kernel
theorem dX12_mends_36 : decode cX12_mends 36 = .ok (.invokevirtual 295, 3) := by decide +kernel
theorem dX12_mends_39 : decode cX12_mends 39 = .ok (.aload_n 0, 1) := by decide +kernel
theorem dX12_mends_40 : decode cX12_mends 40 = .ok (.getfield 13, 3) := by decide +kernel
theorem dX12_mends_43 : decode cX12_mends 43 = .ok (.iload_n 1, 1) := by decide +kernel
theorem dX12_mends_44 : decode cX12_mends 44 = .ok (.bipush 9, 2) := by decide +kernel
theorem dX12_mends_46 : decode cX12_mends 46 = .ok (.iastore, 1) := by decide +kernel
theorem dX12_mends_47 : decode cX12_mends 47 = .ok (.iload_n 2, 1) := by decide +kernel
theorem dX12_mends_48 : decode cX12_mends 48 = .ok (.ireturn, 1) := by decide +kernel
abbrev mX12_toll_0_e1 : ByteArray := .mk #[0x2a, 0x03, 0xb5, 0x00, 0x8c, 0x2a, 0x1b, 0xb6, 0x00, 0xf9, 0x9a, 0x00, 0x05, 0x02, 0xac, 0x2a, 0xb4, 0x00, 0x10, 0x1b, 0x2e, 0x3d, 0x2a, 0xb4, 0x00, 0x10, 0x1b, 0x03, 0x4f, 0x2a, 0xb6, 0x01, 0x60, 0x2a, 0xb4, 0x01, 0x57, 0x3e, 0x10, 0x14, 0x36, 0x04, 0x2a, 0xb4, 0x00, 0x10, 0x1b, 0x15, 0x04, 0x4f, 0x2a, 0xb6, 0x01, 0x60, 0x2a, 0xb4, 0x01, 0x57, 0x1d, 0x9f, 0x00, 0x15, 0x84, 0x04, 0xff, 0x2a, 0xb4, 0x00, 0x10, 0x1b, 0x15, 0x04]
theorem kmX12_toll_0_e1 : CK cX12_toll 0 mX12_toll_0_e1 := ck_of (by decide +kernel)
theorem dX12_toll_0 : decode cX12_toll 0 = .ok (.aload_n 0, 1) := rd_chunk (k := 0) (i := 0) kmX12_toll_0_e1 (by decide +kernel)
theorem dX12_toll_1 : decode cX12_toll 1 = .ok (.iconst 0, 1) := rd_chunk (k := 0) (i := 1) kmX12_toll_0_e1 (by decide +kernel)
theorem dX12_toll_2 : decode cX12_toll 2 = .ok (.putfield 140, 3) := rd_chunk (k := 0) (i := 2) kmX12_toll_0_e1 (by decide +kernel)
theorem dX12_toll_5 : decode cX12_toll 5 = .ok (.aload_n 0, 1) := rd_chunk (k := 0) (i := 5) kmX12_toll_0_e1 (by decide +kernel)
theorem dX12_toll_6 : decode cX12_toll 6 = .ok (.iload_n 1, 1) := rd_chunk (k := 0) (i := 6) kmX12_toll_0_e1 (by decide +kernel)
theorem dX12_toll_7 : decode cX12_toll 7 = .ok (.invokevirtual 249, 3) := rd_chunk (k := 0) (i := 7) kmX12_toll_0_e1 (by decide +kernel)
theorem dX12_toll_10 : decode cX12_toll 10 = .ok (.ifCond .ne 5, 3) := rd_chunk (k := 0) (i := 10) kmX12_toll_0_e1 (by decide +kernel)
theorem dX12_toll_13 : decode cX12_toll 13 = .ok (.iconst (-1), 1) := rd_chunk (k := 0) (i := 13) kmX12_toll_0_e1 (by decide +kernel)
theorem dX12_toll_14 : decode cX12_toll 14 = .ok (.ireturn, 1) := rd_chunk (k := 0) (i := 14) kmX12_toll_0_e1 (by decide +kernel)
theorem dX12_toll_15 : decode cX12_toll 15 = .ok (.aload_n 0, 1) := rd_chunk (k := 0) (i := 15) kmX12_toll_0_e1 (by decide +kernel)
theorem dX12_toll_16 : decode cX12_toll 16 = .ok (.getfield 16, 3) := rd_chunk (k := 0) (i := 16) kmX12_toll_0_e1 (by decide +kernel)
theorem dX12_toll_19 : decode cX12_toll 19 = .ok (.iload_n 1, 1) := rd_chunk (k := 0) (i := 19) kmX12_toll_0_e1 (by decide +kernel)
theorem dX12_toll_20 : decode cX12_toll 20 = .ok (.iaload, 1) := rd_chunk (k := 0) (i := 20) kmX12_toll_0_e1 (by decide +kernel)
theorem dX12_toll_21 : decode cX12_toll 21 = .ok (.istore_n 2, 1) := rd_chunk (k := 0) (i := 21) kmX12_toll_0_e1 (by decide +kernel)
theorem dX12_toll_22 : decode cX12_toll 22 = .ok (.aload_n 0, 1) := rd_chunk (k := 0) (i := 22) kmX12_toll_0_e1 (by decide +kernel)
theorem dX12_toll_23 : decode cX12_toll 23 = .ok (.getfield 16, 3) := rd_chunk (k := 0) (i := 23) kmX12_toll_0_e1 (by decide +kernel)
theorem dX12_toll_26 : decode cX12_toll 26 = .ok (.iload_n 1, 1) := rd_chunk (k := 0) (i := 26) kmX12_toll_0_e1 (by decide +kernel)
theorem dX12_toll_27 : decode cX12_toll 27 = .ok (.iconst 0, 1) := rd_chunk (k := 0) (i := 27) kmX12_toll_0_e1 (by decide +kernel)
theorem dX12_toll_28 : decode cX12_toll 28 = .ok (.iastore, 1) := rd_chunk (k := 0) (i := 28) kmX12_toll_0_e1 (by decide +kernel)
theorem dX12_toll_29 : decode cX12_toll 29 = .ok (.aload_n 0, 1) := rd_chunk (k := 0) (i := 29) kmX12_toll_0_e1 (by decide +kernel)
theorem dX12_toll_30 : decode cX12_toll 30 = .ok (.invokevirtual 352, 3) := rd_chunk (k := 0) (i := 30) kmX12_toll_0_e1 (by decide +kernel)
theorem dX12_toll_33 : decode cX12_toll 33 = .ok (.aload_n 0, 1) := rd_chunk (k := 0) (i := 33) kmX12_toll_0_e1 (by decide +kernel)
theorem dX12_toll_34 : decode cX12_toll 34 = .ok (.getfield 343, 3) := rd_chunk (k := 0) (i := 34) kmX12_toll_0_e1 (by decide +kernel)
theorem dX12_toll_37 : decode cX12_toll 37 = .ok (.istore_n 3, 1) := rd_chunk (k := 0) (i := 37) kmX12_toll_0_e1 (by decide +kernel)
theorem dX12_toll_38 : decode cX12_toll 38 = .ok (.bipush 20, 2) := rd_chunk (k := 0) (i := 38) kmX12_toll_0_e1 (by decide +kernel)
theorem dX12_toll_40 : decode cX12_toll 40 = .ok (.istore 4, 2) := rd_chunk (k := 0) (i := 40) kmX12_toll_0_e1 (by decide +kernel)
theorem dX12_toll_42 : decode cX12_toll 42 = .ok (.aload_n 0, 1) := rd_chunk (k := 0) (i := 42) kmX12_toll_0_e1 (by decide +kernel)
theorem dX12_toll_43 : decode cX12_toll 43 = .ok (.getfield 16, 3) := rd_chunk (k := 0) (i := 43) kmX12_toll_0_e1 (by decide +kernel)
theorem dX12_toll_46 : decode cX12_toll 46 = .ok (.iload_n 1, 1) := rd_chunk (k := 0) (i := 46) kmX12_toll_0_e1 (by decide +kernel)
theorem dX12_toll_47 : decode cX12_toll 47 = .ok (.iload 4, 2) := rd_chunk (k := 0) (i := 47) kmX12_toll_0_e1 (by decide +kernel)
theorem dX12_toll_49 : decode cX12_toll 49 = .ok (.iastore, 1) := rd_chunk (k := 0) (i := 49) kmX12_toll_0_e1 (by decide +kernel)
theorem dX12_toll_50 : decode cX12_toll 50 = .ok (.aload_n 0, 1) := rd_chunk (k := 0) (i := 50) kmX12_toll_0_e1 (by decide +kernel)
theorem dX12_toll_51 : decode cX12_toll 51 = .ok (.invokevirtual 352, 3) := rd_chunk (k := 0) (i := 51) kmX12_toll_0_e1 (by decide +kernel)
theorem dX12_toll_54 : decode cX12_toll 54 = .ok (.aload_n 0, 1) := rd_chunk (k := 0) (i := 54) kmX12_toll_0_e1 (by decide +kernel)
theorem dX12_toll_55 : decode cX12_toll 55 = .ok (.getfield 343, 3) := rd_chunk (k := 0) (i := 55) kmX12_toll_0_e1 (by decide +kernel)
theorem dX12_toll_58 : decode cX12_toll 58 = .ok (.iload_n 3, 1) := rd_chunk (k := 0) (i := 58) kmX12_toll_0_e1 (by decide +kernel)
theorem dX12_toll_59 : decode cX12_toll 59 = .ok (.if_icmp .eq 21, 3) := rd_chunk (k := 0) (i := 59) kmX12_toll_0_e1 (by decide +kernel)
theorem dX12_toll_62 : decode cX12_toll 62 = .ok (.iinc 4 (-1), 3) := rd_chunk (k := 0) (i := 62) kmX12_toll_0_e1 (by decide +kernel)
abbrev mX12_toll_64_e1 : ByteArray := .mk #[0xff, 0x2a, 0xb4, 0x00, 0x10, 0x1b, 0x15, 0x04, 0x4f, 0x2a, 0xb6, 0x01, 0x60, 0xa7, 0xff, 0xe9, 0x2a, 0xb4, 0x00, 0x10, 0x1b, 0x1c, 0x4f, 0x2a, 0x03, 0xb5, 0x00, 0x8f, 0x2a, 0x1d, 0x85, 0xb6, 0x01, 0x14, 0x15, 0x04, 0xac]
theorem kmX12_toll_64_e1 : CK cX12_toll 64 mX12_toll_64_e1 := ck_of (by decide +kernel)
theorem dX12_toll_65 : decode cX12_toll 65 = .ok (.aload_n 0, 1) := rd_chunk (k := 64) (i := 1) kmX12_toll_64_e1 (by decide +kernel)
theorem dX12_toll_66 : decode cX12_toll 66 = .ok (.getfield 16, 3) := rd_chunk (k := 64) (i := 2) kmX12_toll_64_e1 (by decide +kernel)
theorem dX12_toll_69 : decode cX12_toll 69 = .ok (.iload_n 1, 1) := rd_chunk (k := 64) (i := 5) kmX12_toll_64_e1 (by decide +kernel)
theorem dX12_toll_70 : decode cX12_toll 70 = .ok (.iload 4, 2) := rd_chunk (k := 64) (i := 6) kmX12_toll_64_e1 (by decide +kernel)
theorem dX12_toll_72 : decode cX12_toll 72 = .ok (.iastore, 1) := rd_chunk (k := 64) (i := 8) kmX12_toll_64_e1 (by decide +kernel)
theorem dX12_toll_73 : decode cX12_toll 73 = .ok (.aload_n 0, 1) := rd_chunk (k := 64) (i := 9) kmX12_toll_64_e1 (by decide +kernel)
theorem dX12_toll_74 : decode cX12_toll 74 = .ok (.invokevirtual 352, 3) := rd_chunk (k := 64) (i := 10) kmX12_toll_64_e1 (by decide +kernel)
theorem dX12_toll_77 : decode cX12_toll 77 = .ok (.goto (-23), 3) := rd_chunk (k := 64) (i := 13) kmX12_toll_64_e1 (by decide +kernel)
theorem dX12_toll_80 : decode cX12_toll 80 = .ok (.aload_n 0, 1) := rd_chunk (k := 64) (i := 16) kmX12_toll_64_e1 (by decide +kernel)
theorem dX12_toll_81 : decode cX12_toll 81 = .ok (.getfield 16, 3) := rd_chunk (k := 64) (i := 17) kmX12_toll_64_e1 (by decide +kernel)
theorem dX12_toll_84 : decode cX12_toll 84 = .ok (.iload_n 1, 1) := rd_chunk (k := 64) (i := 20) kmX12_toll_64_e1 (by decide +kernel)
theorem dX12_toll_85 : decode cX12_toll 85 = .ok (.iload_n 2, 1) := rd_chunk (k := 64) (i := 21) kmX12_toll_64_e1 (by decide +kernel)
theorem dX12_toll_86 : decode cX12_toll 86 = .ok (.iastore, 1) := rd_chunk (k := 64) (i := 22) kmX12_toll_64_e1 (by decide +kernel)
theorem dX12_toll_87 : decode cX12_toll 87 = .ok (.aload_n 0, 1) := rd_chunk (k := 64) (i := 23) kmX12_toll_64_e1 (by decide +kernel)
theorem dX12_toll_88 : decode cX12_toll 88 = .ok (.iconst 0, 1) := rd_chunk (k := 64) (i := 24) kmX12_toll_64_e1 (by decide +kernel)
theorem dX12_toll_89 : decode cX12_toll 89 = .ok (.putfield 143, 3) := rd_chunk (k := 64) (i := 25) kmX12_toll_64_e1 (by decide +kernel)
theorem dX12_toll_92 : decode cX12_toll 92 = .ok (.aload_n 0, 1) := rd_chunk (k := 64) (i := 28) kmX12_toll_64_e1 (by decide +kernel)
theorem dX12_toll_93 : decode cX12_toll 93 = .ok (.iload_n 3, 1) := rd_chunk (k := 64) (i := 29) kmX12_toll_64_e1 (by decide +kernel)
theorem dX12_toll_94 : decode cX12_toll 94 = .ok (.i2l, 1) := rd_chunk (k := 64) (i := 30) kmX12_toll_64_e1 (by decide +kernel)
theorem dX12_toll_95 : decode cX12_toll 95 = .ok (.invokevirtual 276, 3) := rd_chunk (k := 64) (i := 31) kmX12_toll_64_e1 (by decide +kernel)
theorem dX12_toll_98 : decode cX12_toll 98 = .ok (.iload 4, 2) := rd_chunk (k := 64) (i := 34) kmX12_toll_64_e1 (by decide +kernel)
theorem dX12_toll_100 : decode cX12_toll 100 = .ok (.ireturn, 1) := rd_chunk (k := 64) (i := 36) kmX12_toll_64_e1 (by decide +kernel)
abbrev mX12_peace_0_e1 : ByteArray := .mk #[0x2a, 0x03, 0xb5, 0x00, 0x8c, 0x2a, 0xb6, 0x01, 0x60, 0x2a, 0xb4, 0x01, 0x57, 0x3c, 0x10, 0xfe, 0x3d, 0x03, 0x3e, 0x03, 0x36, 0x04, 0x03, 0x36, 0x05, 0x15, 0x05, 0x10, 0x08, 0xa2, 0x00, 0x70, 0x15, 0x05, 0x04, 0x60, 0x36, 0x06, 0x15, 0x06, 0x10, 0x08, 0xa2, 0x00, 0x5d, 0x2a, 0xb4, 0x00, 0x1a, 0x10, 0x08, 0x15, 0x05, 0x68, 0x15, 0x06, 0x60, 0x33, 0x9a, 0x00, 0x06, 0xa7, 0x00, 0x44, 0x2a, 0x15, 0x05, 0x15, 0x06, 0x03, 0xb6, 0x01]
theorem kmX12_peace_0_e1 : CK cX12_peace 0 mX12_peace_0_e1 := ck_of (by decide +kernel)
theorem dX12_peace_0 : decode cX12_peace 0 = .ok (.aload_n 0, 1) := rd_chunk (k := 0) (i := 0) kmX12_peace_0_e1 (by decide +kernel)
theorem dX12_peace_1 : decode cX12_peace 1 = .ok (.iconst 0, 1) := rd_chunk (k := 0) (i := 1) kmX12_peace_0_e1 (by decide +kernel)
theorem dX12_peace_2 : decode cX12_peace 2 = .ok (.putfield 140, 3) := rd_chunk (k := 0) (i := 2) kmX12_peace_0_e1 (by decide +kernel)
theorem dX12_peace_5 : decode cX12_peace 5 = .ok (.aload_n 0, 1) := rd_chunk (k := 0) (i := 5) kmX12_peace_0_e1 (by decide +kernel)
theorem dX12_peace_6 : decode cX12_peace 6 = .ok (.invokevirtual 352, 3) := rd_chunk (k := 0) (i := 6) kmX12_peace_0_e1 (by decide +kernel)
theorem dX12_peace_9 : decode cX12_peace 9 = .ok (.aload_n 0, 1) := rd_chunk (k := 0) (i := 9) kmX12_peace_0_e1 (by decide +kernel)
theorem dX12_peace_10 : decode cX12_peace 10 = .ok (.getfield 343, 3) := rd_chunk (k := 0) (i := 10) kmX12_peace_0_e1 (by decide +kernel)
theorem dX12_peace_13 : decode cX12_peace 13 = .ok (.istore_n 1, 1) := rd_chunk (k := 0) (i := 13) kmX12_peace_0_e1 (by decide +kernel)
theorem dX12_peace_14 : decode cX12_peace 14 = .ok (.bipush (-2), 2) := rd_chunk (k := 0) (i := 14) kmX12_peace_0_e1 (by decide +kernel)
theorem dX12_peace_16 : decode cX12_peace 16 = .ok (.istore_n 2, 1) := rd_chunk (k := 0) (i := 16) kmX12_peace_0_e1 (by decide +kernel)
theorem dX12_peace_17 : decode cX12_peace 17 = .ok (.iconst 0, 1) := rd_chunk (k := 0) (i := 17) kmX12_peace_0_e1 (by decide +kernel)
theorem dX12_peace_18 : decode cX12_peace 18 = .ok (.istore_n 3, 1) := rd_chunk (k := 0) (i := 18) kmX12_peace_0_e1 (by decide +kernel)
theorem dX12_peace_19 : decode cX12_peace 19 = .ok (.iconst 0, 1) := rd_chunk (k := 0) (i := 19) kmX12_peace_0_e1 (by decide +kernel)
theorem dX12_peace_20 : decode cX12_peace 20 = .ok (.istore 4, 2) := rd_chunk (k := 0) (i := 20) kmX12_peace_0_e1 (by decide +kernel)
theorem dX12_peace_22 : decode cX12_peace 22 = .ok (.iconst 0, 1) := rd_chunk (k := 0) (i := 22) kmX12_peace_0_e1 (by decide +kernel)
theorem dX12_peace_23 : decode cX12_peace 23 = .ok (.istore 5, 2) := rd_chunk (k := 0) (i := 23) kmX12_peace_0_e1 (by decide +kernel)
theorem dX12_peace_25 : decode cX12_peace 25 = .ok (.iload 5, 2) := rd_chunk (k := 0) (i := 25) kmX12_peace_0_e1 (by decide +kernel)
theorem dX12_peace_27 : decode cX12_peace 27 = .ok (.bipush 8, 2) := rd_chunk (k := 0) (i := 27) kmX12_peace_0_e1 (by decide +kernel)
theorem dX12_peace_29 : decode cX12_peace 29 = .ok (.if_icmp .ge 112, 3) := rd_chunk (k := 0) (i := 29) kmX12_peace_0_e1 (by decide +kernel)
theorem dX12_peace_32 : decode cX12_peace 32 = .ok (.iload 5, 2) := rd_chunk (k := 0) (i := 32) kmX12_peace_0_e1 (by decide +kernel)
theorem dX12_peace_34 : decode cX12_peace 34 = .ok (.iconst 1, 1) := rd_chunk (k := 0) (i := 34) kmX12_peace_0_e1 (by decide +kernel)
theorem dX12_peace_35 : decode cX12_peace 35 = .ok (.iadd, 1) := rd_chunk (k := 0) (i := 35) kmX12_peace_0_e1 (by decide +kernel)
theorem dX12_peace_36 : decode cX12_peace 36 = .ok (.istore 6, 2) := rd_chunk (k := 0) (i := 36) kmX12_peace_0_e1 (by decide +kernel)
theorem dX12_peace_38 : decode cX12_peace 38 = .ok (.iload 6, 2) := rd_chunk (k := 0) (i := 38) kmX12_peace_0_e1 (by decide +kernel)
theorem dX12_peace_40 : decode cX12_peace 40 = .ok (.bipush 8, 2) := rd_chunk (k := 0) (i := 40) kmX12_peace_0_e1 (by decide +kernel)
theorem dX12_peace_42 : decode cX12_peace 42 = .ok (.if_icmp .ge 93, 3) := rd_chunk (k := 0) (i := 42) kmX12_peace_0_e1 (by decide +kernel)
theorem dX12_peace_45 : decode cX12_peace 45 = .ok (.aload_n 0, 1) := rd_chunk (k := 0) (i := 45) kmX12_peace_0_e1 (by decide +kernel)
theorem dX12_peace_46 : decode cX12_peace 46 = .ok (.getfield 26, 3) := rd_chunk (k := 0) (i := 46) kmX12_peace_0_e1 (by decide +kernel)
theorem dX12_peace_49 : decode cX12_peace 49 = .ok (.bipush 8, 2) := rd_chunk (k := 0) (i := 49) kmX12_peace_0_e1 (by decide +kernel)
theorem dX12_peace_51 : decode cX12_peace 51 = .ok (.iload 5, 2) := rd_chunk (k := 0) (i := 51) kmX12_peace_0_e1 (by decide +kernel)
theorem dX12_peace_53 : decode cX12_peace 53 = .ok (.imul, 1) := rd_chunk (k := 0) (i := 53) kmX12_peace_0_e1 (by decide +kernel)
theorem dX12_peace_54 : decode cX12_peace 54 = .ok (.iload 6, 2) := rd_chunk (k := 0) (i := 54) kmX12_peace_0_e1 (by decide +kernel)
theorem dX12_peace_56 : decode cX12_peace 56 = .ok (.iadd, 1) := rd_chunk (k := 0) (i := 56) kmX12_peace_0_e1 (by decide +kernel)
theorem dX12_peace_57 : decode cX12_peace 57 = .ok (.baload, 1) := rd_chunk (k := 0) (i := 57) kmX12_peace_0_e1 (by decide +kernel)
theorem dX12_peace_58 : decode cX12_peace 58 = .ok (.ifCond .ne 6, 3) := rd_chunk (k := 0) (i := 58) kmX12_peace_0_e1 (by decide +kernel)
theorem dX12_peace_61 : decode cX12_peace 61 = .ok (.goto 68, 3) := rd_chunk (k := 0) (i := 61) kmX12_peace_0_e1 (by decide +kernel)
abbrev mX12_peace_64_e1 : ByteArray := .mk #[0x2a, 0x15, 0x05, 0x15, 0x06, 0x03, 0xb6, 0x01, 0x03, 0x2a, 0xb6, 0x01, 0x60, 0x2a, 0x15, 0x05, 0x15, 0x06, 0x04, 0xb6, 0x01, 0x03, 0x2a, 0xb4, 0x01, 0x57, 0x1b, 0xa1, 0x00, 0x26, 0x1c, 0x9b, 0x00, 0x0e, 0x2a, 0xb4, 0x01, 0x5a, 0x1d, 0xa1, 0x00, 0x06, 0xa7, 0x00, 0x17, 0x10, 0x0a, 0x15, 0x05, 0x68, 0x15, 0x06, 0x60, 0x3d, 0x2a, 0xb4, 0x01, 0x5a, 0x3e, 0x2a, 0xb4, 0x01, 0x57, 0x36, 0x04, 0x84, 0x06, 0x01, 0xa7, 0xff, 0xa2, 0x84]
theorem kmX12_peace_64_e1 : CK cX12_peace 64 mX12_peace_64_e1 := ck_of (by decide +kernel)
theorem dX12_peace_64 : decode cX12_peace 64 = .ok (.aload_n 0, 1) := rd_chunk (k := 64) (i := 0) kmX12_peace_64_e1 (by decide +kernel)
theorem dX12_peace_65 : decode cX12_peace 65 = .ok (.iload 5, 2) := rd_chunk (k := 64) (i := 1) kmX12_peace_64_e1 (by decide +kernel)
theorem dX12_peace_67 : decode cX12_peace 67 = .ok (.iload 6, 2) := rd_chunk (k := 64) (i := 3) kmX12_peace_64_e1 (by decide +kernel)
theorem dX12_peace_69 : decode cX12_peace 69 = .ok (.iconst 0, 1) := rd_chunk (k := 64) (i := 5) kmX12_peace_64_e1 (by decide +kernel)
theorem dX12_peace_70 : decode cX12_peace 70 = .ok (.invokevirtual 259, 3) := rd_chunk (k := 64) (i := 6) kmX12_peace_64_e1 (by decide +kernel)
theorem dX12_peace_73 : decode cX12_peace 73 = .ok (.aload_n 0, 1) := rd_chunk (k := 64) (i := 9) kmX12_peace_64_e1 (by decide +kernel)
theorem dX12_peace_74 : decode cX12_peace 74 = .ok (.invokevirtual 352, 3) := rd_chunk (k := 64) (i := 10) kmX12_peace_64_e1 (by decide +kernel)
theorem dX12_peace_77 : decode cX12_peace 77 = .ok (.aload_n 0, 1) := rd_chunk (k := 64) (i := 13) kmX12_peace_64_e1 (by decide +kernel)
theorem dX12_peace_78 : decode cX12_peace 78 = .ok (.iload 5, 2) := rd_chunk (k := 64) (i := 14) kmX12_peace_64_e1 (by decide +kernel)
theorem dX12_peace_80 : decode cX12_peace 80 = .ok (.iload 6, 2) := rd_chunk (k := 64) (i := 16) kmX12_peace_64_e1 (by decide +kernel)
theorem dX12_peace_82 : decode cX12_peace 82 = .ok (.iconst 1, 1) := rd_chunk (k := 64) (i := 18) kmX12_peace_64_e1 (by decide +kernel)
theorem dX12_peace_83 : decode cX12_peace 83 = .ok (.invokevirtual 259, 3) := rd_chunk (k := 64) (i := 19) kmX12_peace_64_e1 (by decide +kernel)
theorem dX12_peace_86 : decode cX12_peace 86 = .ok (.aload_n 0, 1) := rd_chunk (k := 64) (i := 22) kmX12_peace_64_e1 (by decide +kernel)
theorem dX12_peace_87 : decode cX12_peace 87 = .ok (.getfield 343, 3) := rd_chunk (k := 64) (i := 23) kmX12_peace_64_e1 (by decide +kernel)
theorem dX12_peace_90 : decode cX12_peace 90 = .ok (.iload_n 1, 1) := rd_chunk (k := 64) (i := 26) kmX12_peace_64_e1 (by decide +kernel)
theorem dX12_peace_91 : decode cX12_peace 91 = .ok (.if_icmp .lt 38, 3) := rd_chunk (k := 64) (i := 27) kmX12_peace_64_e1 (by decide +kernel)
theorem dX12_peace_94 : decode cX12_peace 94 = .ok (.iload_n 2, 1) := rd_chunk (k := 64) (i := 30) kmX12_peace_64_e1 (by decide +kernel)
theorem dX12_peace_95 : decode cX12_peace 95 = .ok (.ifCond .lt 14, 3) := rd_chunk (k := 64) (i := 31) kmX12_peace_64_e1 (by decide +kernel)
theorem dX12_peace_98 : decode cX12_peace 98 = .ok (.aload_n 0, 1) := rd_chunk (k := 64) (i := 34) kmX12_peace_64_e1 (by decide +kernel)
theorem dX12_peace_99 : decode cX12_peace 99 = .ok (.getfield 346, 3) := rd_chunk (k := 64) (i := 35) kmX12_peace_64_e1 (by decide +kernel)
theorem dX12_peace_102 : decode cX12_peace 102 = .ok (.iload_n 3, 1) := rd_chunk (k := 64) (i := 38) kmX12_peace_64_e1 (by decide +kernel)
theorem dX12_peace_103 : decode cX12_peace 103 = .ok (.if_icmp .lt 6, 3) := rd_chunk (k := 64) (i := 39) kmX12_peace_64_e1 (by decide +kernel)
theorem dX12_peace_106 : decode cX12_peace 106 = .ok (.goto 23, 3) := rd_chunk (k := 64) (i := 42) kmX12_peace_64_e1 (by decide +kernel)
theorem dX12_peace_109 : decode cX12_peace 109 = .ok (.bipush 10, 2) := rd_chunk (k := 64) (i := 45) kmX12_peace_64_e1 (by decide +kernel)
theorem dX12_peace_111 : decode cX12_peace 111 = .ok (.iload 5, 2) := rd_chunk (k := 64) (i := 47) kmX12_peace_64_e1 (by decide +kernel)
theorem dX12_peace_113 : decode cX12_peace 113 = .ok (.imul, 1) := rd_chunk (k := 64) (i := 49) kmX12_peace_64_e1 (by decide +kernel)
theorem dX12_peace_114 : decode cX12_peace 114 = .ok (.iload 6, 2) := rd_chunk (k := 64) (i := 50) kmX12_peace_64_e1 (by decide +kernel)
theorem dX12_peace_116 : decode cX12_peace 116 = .ok (.iadd, 1) := rd_chunk (k := 64) (i := 52) kmX12_peace_64_e1 (by decide +kernel)
theorem dX12_peace_117 : decode cX12_peace 117 = .ok (.istore_n 2, 1) := rd_chunk (k := 64) (i := 53) kmX12_peace_64_e1 (by decide +kernel)
theorem dX12_peace_118 : decode cX12_peace 118 = .ok (.aload_n 0, 1) := rd_chunk (k := 64) (i := 54) kmX12_peace_64_e1 (by decide +kernel)
theorem dX12_peace_119 : decode cX12_peace 119 = .ok (.getfield 346, 3) := rd_chunk (k := 64) (i := 55) kmX12_peace_64_e1 (by decide +kernel)
theorem dX12_peace_122 : decode cX12_peace 122 = .ok (.istore_n 3, 1) := rd_chunk (k := 64) (i := 58) kmX12_peace_64_e1 (by decide +kernel)
theorem dX12_peace_123 : decode cX12_peace 123 = .ok (.aload_n 0, 1) := rd_chunk (k := 64) (i := 59) kmX12_peace_64_e1 (by decide +kernel)
theorem dX12_peace_124 : decode cX12_peace 124 = .ok (.getfield 343, 3) := rd_chunk (k := 64) (i := 60) kmX12_peace_64_e1 (by decide +kernel)
theorem dX12_peace_127 : decode cX12_peace 127 = .ok (.istore 4, 2) := rd_chunk (k := 64) (i := 63) kmX12_peace_64_e1 (by decide +kernel)
abbrev mX12_peace_128_e1 : ByteArray := .mk #[0x04, 0x84, 0x06, 0x01, 0xa7, 0xff, 0xa2, 0x84, 0x05, 0x01, 0xa7, 0xff, 0x8f, 0x1c, 0x9c, 0x00, 0x06, 0x10, 0xfe, 0xac, 0x2a, 0x03, 0xb5, 0x00, 0x8f, 0x2a, 0x1d, 0x85, 0xb6, 0x01, 0x14, 0x2a, 0x15, 0x04, 0x85, 0xb6, 0x01, 0x14, 0x1c, 0xac]
theorem kmX12_peace_128_e1 : CK cX12_peace 128 mX12_peace_128_e1 := ck_of (by decide +kernel)
theorem dX12_peace_129 : decode cX12_peace 129 = .ok (.iinc 6 1, 3) := rd_chunk (k := 128) (i := 1) kmX12_peace_128_e1 (by decide +kernel)
theorem dX12_peace_132 : decode cX12_peace 132 = .ok (.goto (-94), 3) := rd_chunk (k := 128) (i := 4) kmX12_peace_128_e1 (by decide +kernel)
theorem dX12_peace_135 : decode cX12_peace 135 = .ok (.iinc 5 1, 3) := rd_chunk (k := 128) (i := 7) kmX12_peace_128_e1 (by decide +kernel)
theorem dX12_peace_138 : decode cX12_peace 138 = .ok (.goto (-113), 3) := rd_chunk (k := 128) (i := 10) kmX12_peace_128_e1 (by decide +kernel)
theorem dX12_peace_141 : decode cX12_peace 141 = .ok (.iload_n 2, 1) := rd_chunk (k := 128) (i := 13) kmX12_peace_128_e1 (by decide +kernel)
theorem dX12_peace_142 : decode cX12_peace 142 = .ok (.ifCond .ge 6, 3) := rd_chunk (k := 128) (i := 14) kmX12_peace_128_e1 (by decide +kernel)
theorem dX12_peace_145 : decode cX12_peace 145 = .ok (.bipush (-2), 2) := rd_chunk (k := 128) (i := 17) kmX12_peace_128_e1 (by decide +kernel)
theorem dX12_peace_147 : decode cX12_peace 147 = .ok (.ireturn, 1) := rd_chunk (k := 128) (i := 19) kmX12_peace_128_e1 (by decide +kernel)
theorem dX12_peace_148 : decode cX12_peace 148 = .ok (.aload_n 0, 1) := rd_chunk (k := 128) (i := 20) kmX12_peace_128_e1 (by decide +kernel)
theorem dX12_peace_149 : decode cX12_peace 149 = .ok (.iconst 0, 1) := rd_chunk (k := 128) (i := 21) kmX12_peace_128_e1 (by decide +kernel)
theorem dX12_peace_150 : decode cX12_peace 150 = .ok (.putfield 143, 3) := rd_chunk (k := 128) (i := 22) kmX12_peace_128_e1 (by decide +kernel)
theorem dX12_peace_153 : decode cX12_peace 153 = .ok (.aload_n 0, 1) := rd_chunk (k := 128) (i := 25) kmX12_peace_128_e1 (by decide +kernel)
theorem dX12_peace_154 : decode cX12_peace 154 = .ok (.iload_n 3, 1) := rd_chunk (k := 128) (i := 26) kmX12_peace_128_e1 (by decide +kernel)
theorem dX12_peace_155 : decode cX12_peace 155 = .ok (.i2l, 1) := rd_chunk (k := 128) (i := 27) kmX12_peace_128_e1 (by decide +kernel)
theorem dX12_peace_156 : decode cX12_peace 156 = .ok (.invokevirtual 276, 3) := rd_chunk (k := 128) (i := 28) kmX12_peace_128_e1 (by decide +kernel)
theorem dX12_peace_159 : decode cX12_peace 159 = .ok (.aload_n 0, 1) := rd_chunk (k := 128) (i := 31) kmX12_peace_128_e1 (by decide +kernel)
theorem dX12_peace_160 : decode cX12_peace 160 = .ok (.iload 4, 2) := rd_chunk (k := 128) (i := 32) kmX12_peace_128_e1 (by decide +kernel)
theorem dX12_peace_162 : decode cX12_peace 162 = .ok (.i2l, 1) := rd_chunk (k := 128) (i := 34) kmX12_peace_128_e1 (by decide +kernel)
theorem dX12_peace_163 : decode cX12_peace 163 = .ok (.invokevirtual 276, 3) := rd_chunk (k := 128) (i := 35) kmX12_peace_128_e1 (by decide +kernel)
theorem dX12_peace_166 : decode cX12_peace 166 = .ok (.iload_n 2, 1) := rd_chunk (k := 128) (i := 38) kmX12_peace_128_e1 (by decide +kernel)
theorem dX12_peace_167 : decode cX12_peace 167 = .ok (.ireturn, 1) := rd_chunk (k := 128) (i := 39) kmX12_peace_128_e1 (by decide +kernel)
theorem dX12_lamps_0 : decode cX12_lamps 0 = .ok (.aload_n 0, 1) := by decide +kernel
theorem dX12_lamps_1 : decode cX12_lamps 1 = .ok (.iconst 0, 1) := by decide +kernel
theorem dX12_lamps_2 : decode cX12_lamps 2 = .ok (.putfield 140, 3) := by decide +kernel
theorem dX12_lamps_5 : decode cX12_lamps 5 = .ok (.aload_n 0, 1) := by decide +kernel
theorem dX12_lamps_6 : decode cX12_lamps 6 = .ok (.getfield 146, 3) := by decide +kernel
theorem dX12_lamps_9 : decode cX12_lamps 9 = .ok (.ifCond .eq 13, 3) := by decide +kernel
theorem dX12_lamps_12 : decode cX12_lamps 12 = .ok (.iload_n 1, 1) := by decide +kernel
theorem dX12_lamps_13 : decode cX12_lamps 13 = .ok (.iconst 0, 1) := by decide +kernel
theorem dX12_lamps_14 : decode cX12_lamps 14 = .ok (.bipush 23, 2) := by decide +kernel
theorem dX12_lamps_16 : decode cX12_lamps 16 = .ok (.invokestatic 149, 3) := by decide +kernel
theorem dX12_lamps_19 : decode cX12_lamps 19 = .ok (.ifCond .ne 5, 3) := by decide +kernel
theorem dX12_lamps_22 : decode cX12_lamps 22 = .ok (.iconst (-1), 1) := by decide +kernel
theorem dX12_lamps_23 : decode cX12_lamps 23 = .ok (.ireturn, 1) := by decide +kernel
theorem dX12_lamps_24 : decode cX12_lamps 24 = .ok (.aload_n 0, 1) := by decide +kernel
theorem dX12_lamps_25 : decode cX12_lamps 25 = .ok (.iconst 0, 1) := by decide +kernel
theorem dX12_lamps_26 : decode cX12_lamps 26 = .ok (.putfield 143, 3) := by decide +kernel
theorem dX12_lamps_29 : decode cX12_lamps 29 = .ok (.iconst 0, 1) := by decide +kernel
theorem dX12_lamps_30 : decode cX12_lamps 30 = .ok (.istore_n 2, 1) := by decide +kernel
theorem dX12_lamps_31 : decode cX12_lamps 31 = .ok (.iconst 0, 1) := by decide +kernel
theorem dX12_lamps_32 : decode cX12_lamps 32 = .ok (.istore_n 3, 1) := by decide +kernel
theorem dX12_lamps_33 : decode cX12_lamps 33 = .ok (.iload_n 3, 1) := by decide +kernel
theorem dX12_lamps_34 : decode cX12_lamps 34 = .ok (.aload_n 0, 1) := by decide +kernel
theorem dX12_lamps_35 : decode cX12_lamps 35 = .ok (.getfield 146, 3) := by decide +kernel
theorem dX12_lamps_38 : decode cX12_lamps 38 = .ok (.if_icmp .ge 37, 3) := by decide +kernel
theorem dX12_lamps_41 : decode cX12_lamps 41 = .ok (.aload_n 0, 1) := by decide +kernel
theorem dX12_lamps_42 : decode cX12_lamps 42 = .ok (.getfield 146, 3) := by decide +kernel
theorem dX12_lamps_45 : decode cX12_lamps 45 = .ok (.iconst 1, 1) := by decide +kernel
theorem dX12_lamps_46 : decode cX12_lamps 46 = .ok (.isub, 1) := by decide +kernel
theorem dX12_lamps_47 : decode cX12_lamps 47 = .ok (.iload_n 3, 1) := by decide +kernel
theorem dX12_lamps_48 : decode cX12_lamps 48 = .ok (.iload_n 1, 1) := by decide +kernel
theorem dX12_lamps_49 : decode cX12_lamps 49 = .ok (.iadd, 1) := by decide +kernel
theorem dX12_lamps_50 : decode cX12_lamps 50 = .ok (.invokestatic 240, 3) := by decide +kernel
theorem dX12_lamps_53 : decode cX12_lamps 53 = .ok (.istore 4, 2) := by decide +kernel
theorem dX12_lamps_55 : decode cX12_lamps 55 = .ok (.aload_n 0, 1) := by decide +kernel
theorem dX12_lamps_56 : decode cX12_lamps 56 = .ok (.iload 4, 2) := by decide +kernel
theorem dX12_lamps_58 : decode cX12_lamps 58 = .ok (.i2l, 1) := by decide +kernel
theorem dX12_lamps_59 : decode cX12_lamps 59 = .ok (.invokevirtual 276, 3) := by decide +kernel
theorem dX12_lamps_62 : decode cX12_lamps 62 = .ok (.iload 4, 2) := by decide +kernel
theorem dX12_lamps_64 : decode cX12_lamps 64 = .ok (.iload_n 1, 1) := by decide +kernel
theorem dX12_lamps_65 : decode cX12_lamps 65 = .ok (.iadd, 1) := by decide +kernel
theorem dX12_lamps_66 : decode cX12_lamps 66 = .ok (.iconst 1, 1) := by decide +kernel
theorem dX12_lamps_67 : decode cX12_lamps 67 = .ok (.iadd, 1) := by decide +kernel
theorem dX12_lamps_68 : decode cX12_lamps 68 = .ok (.istore_n 3, 1) := by decide +kernel
theorem dX12_lamps_69 : decode cX12_lamps 69 = .ok (.iinc 2 1, 3) := by decide +kernel
theorem dX12_lamps_72 : decode cX12_lamps 72 = .ok (.goto (-39), 3) := by decide +kernel
theorem dX12_lamps_75 : decode cX12_lamps 75 = .ok (.iload_n 2, 1) := by decide +kernel
theorem dX12_lamps_76 : decode cX12_lamps 76 = .ok (.ireturn, 1) := by decide +kernel
abbrev mX12_paidTo_0_e1 : ByteArray := .mk #[0x2a, 0xb4, 0x00, 0x10, 0x1b, 0x2e, 0x3e, 0x2a, 0xb4, 0x00, 0x10, 0x1b, 0x1c, 0x4f, 0x03, 0x36, 0x04, 0x03, 0x36, 0x05, 0x15, 0x05, 0x2a, 0xb4, 0x00, 0x99, 0xa2, 0x00, 0x68, 0x2a, 0x15, 0x05, 0xb6, 0x01, 0x3e, 0x9a, 0x00, 0x06, 0xa7, 0x00, 0x56, 0x02, 0x36, 0x06, 0x03, 0x36, 0x07, 0x15, 0x07, 0x2a, 0xb4, 0x01, 0x38, 0xa2, 0x00, 0x47, 0x2a, 0xb4, 0x00, 0x61, 0x15, 0x07, 0x2e, 0x36, 0x08, 0x1b, 0x15, 0x06, 0xa4, 0x00, 0x2e, 0x1b]
theorem kmX12_paidTo_0_e1 : CK cX12_paidTo 0 mX12_paidTo_0_e1 := ck_of (by decide +kernel)
theorem dX12_paidTo_0 : decode cX12_paidTo 0 = .ok (.aload_n 0, 1) := rd_chunk (k := 0) (i := 0) kmX12_paidTo_0_e1 (by decide +kernel)
theorem dX12_paidTo_1 : decode cX12_paidTo 1 = .ok (.getfield 16, 3) := rd_chunk (k := 0) (i := 1) kmX12_paidTo_0_e1 (by decide +kernel)
theorem dX12_paidTo_4 : decode cX12_paidTo 4 = .ok (.iload_n 1, 1) := rd_chunk (k := 0) (i := 4) kmX12_paidTo_0_e1 (by decide +kernel)
theorem dX12_paidTo_5 : decode cX12_paidTo 5 = .ok (.iaload, 1) := rd_chunk (k := 0) (i := 5) kmX12_paidTo_0_e1 (by decide +kernel)
theorem dX12_paidTo_6 : decode cX12_paidTo 6 = .ok (.istore_n 3, 1) := rd_chunk (k := 0) (i := 6) kmX12_paidTo_0_e1 (by decide +kernel)
theorem dX12_paidTo_7 : decode cX12_paidTo 7 = .ok (.aload_n 0, 1) := rd_chunk (k := 0) (i := 7) kmX12_paidTo_0_e1 (by decide +kernel)
theorem dX12_paidTo_8 : decode cX12_paidTo 8 = .ok (.getfield 16, 3) := rd_chunk (k := 0) (i := 8) kmX12_paidTo_0_e1 (by decide +kernel)
theorem dX12_paidTo_11 : decode cX12_paidTo 11 = .ok (.iload_n 1, 1) := rd_chunk (k := 0) (i := 11) kmX12_paidTo_0_e1 (by decide +kernel)
theorem dX12_paidTo_12 : decode cX12_paidTo 12 = .ok (.iload_n 2, 1) := rd_chunk (k := 0) (i := 12) kmX12_paidTo_0_e1 (by decide +kernel)
theorem dX12_paidTo_13 : decode cX12_paidTo 13 = .ok (.iastore, 1) := rd_chunk (k := 0) (i := 13) kmX12_paidTo_0_e1 (by decide +kernel)
theorem dX12_paidTo_14 : decode cX12_paidTo 14 = .ok (.iconst 0, 1) := rd_chunk (k := 0) (i := 14) kmX12_paidTo_0_e1 (by decide +kernel)
theorem dX12_paidTo_15 : decode cX12_paidTo 15 = .ok (.istore 4, 2) := rd_chunk (k := 0) (i := 15) kmX12_paidTo_0_e1 (by decide +kernel)
theorem dX12_paidTo_17 : decode cX12_paidTo 17 = .ok (.iconst 0, 1) := rd_chunk (k := 0) (i := 17) kmX12_paidTo_0_e1 (by decide +kernel)
theorem dX12_paidTo_18 : decode cX12_paidTo 18 = .ok (.istore 5, 2) := rd_chunk (k := 0) (i := 18) kmX12_paidTo_0_e1 (by decide +kernel)
theorem dX12_paidTo_20 : decode cX12_paidTo 20 = .ok (.iload 5, 2) := rd_chunk (k := 0) (i := 20) kmX12_paidTo_0_e1 (by decide +kernel)
theorem dX12_paidTo_22 : decode cX12_paidTo 22 = .ok (.aload_n 0, 1) := rd_chunk (k := 0) (i := 22) kmX12_paidTo_0_e1 (by decide +kernel)
theorem dX12_paidTo_23 : decode cX12_paidTo 23 = .ok (.getfield 153, 3) := rd_chunk (k := 0) (i := 23) kmX12_paidTo_0_e1 (by decide +kernel)
theorem dX12_paidTo_26 : decode cX12_paidTo 26 = .ok (.if_icmp .ge 104, 3) := rd_chunk (k := 0) (i := 26) kmX12_paidTo_0_e1 (by decide +kernel)
theorem dX12_paidTo_29 : decode cX12_paidTo 29 = .ok (.aload_n 0, 1) := rd_chunk (k := 0) (i := 29) kmX12_paidTo_0_e1 (by decide +kernel)
theorem dX12_paidTo_30 : decode cX12_paidTo 30 = .ok (.iload 5, 2) := rd_chunk (k := 0) (i := 30) kmX12_paidTo_0_e1 (by decide +kernel)
theorem dX12_paidTo_32 : decode cX12_paidTo 32 = .ok (.invokevirtual 318, 3) := rd_chunk (k := 0) (i := 32) kmX12_paidTo_0_e1 (by decide +kernel)
theorem dX12_paidTo_35 : decode cX12_paidTo 35 = .ok (.ifCond .ne 6, 3) := rd_chunk (k := 0) (i := 35) kmX12_paidTo_0_e1 (by decide +kernel)
theorem dX12_paidTo_38 : decode cX12_paidTo 38 = .ok (.goto 86, 3) := rd_chunk (k := 0) (i := 38) kmX12_paidTo_0_e1 (by decide +kernel)
theorem dX12_paidTo_41 : decode cX12_paidTo 41 = .ok (.iconst (-1), 1) := rd_chunk (k := 0) (i := 41) kmX12_paidTo_0_e1 (by decide +kernel)
theorem dX12_paidTo_42 : decode cX12_paidTo 42 = .ok (.istore 6, 2) := rd_chunk (k := 0) (i := 42) kmX12_paidTo_0_e1 (by decide +kernel)
theorem dX12_paidTo_44 : decode cX12_paidTo 44 = .ok (.iconst 0, 1) := rd_chunk (k := 0) (i := 44) kmX12_paidTo_0_e1 (by decide +kernel)
theorem dX12_paidTo_45 : decode cX12_paidTo 45 = .ok (.istore 7, 2) := rd_chunk (k := 0) (i := 45) kmX12_paidTo_0_e1 (by decide +kernel)
theorem dX12_paidTo_47 : decode cX12_paidTo 47 = .ok (.iload 7, 2) := rd_chunk (k := 0) (i := 47) kmX12_paidTo_0_e1 (by decide +kernel)
theorem dX12_paidTo_49 : decode cX12_paidTo 49 = .ok (.aload_n 0, 1) := rd_chunk (k := 0) (i := 49) kmX12_paidTo_0_e1 (by decide +kernel)
theorem dX12_paidTo_50 : decode cX12_paidTo 50 = .ok (.getfield 312, 3) := rd_chunk (k := 0) (i := 50) kmX12_paidTo_0_e1 (by decide +kernel)
theorem dX12_paidTo_53 : decode cX12_paidTo 53 = .ok (.if_icmp .ge 71, 3) := rd_chunk (k := 0) (i := 53) kmX12_paidTo_0_e1 (by decide +kernel)
theorem dX12_paidTo_56 : decode cX12_paidTo 56 = .ok (.aload_n 0, 1) := rd_chunk (k := 0) (i := 56) kmX12_paidTo_0_e1 (by decide +kernel)
theorem dX12_paidTo_57 : decode cX12_paidTo 57 = .ok (.getfield 97, 3) := rd_chunk (k := 0) (i := 57) kmX12_paidTo_0_e1 (by decide +kernel)
theorem dX12_paidTo_60 : decode cX12_paidTo 60 = .ok (.iload 7, 2) := rd_chunk (k := 0) (i := 60) kmX12_paidTo_0_e1 (by decide +kernel)
theorem dX12_paidTo_62 : decode cX12_paidTo 62 = .ok (.iaload, 1) := rd_chunk (k := 0) (i := 62) kmX12_paidTo_0_e1 (by decide +kernel)
theorem dX12_paidTo_63 : decode cX12_paidTo 63 = .ok (.istore 8, 2) := rd_chunk (k := 0) (i := 63) kmX12_paidTo_0_e1 (by decide +kernel)
abbrev mX12_paidTo_64_e1 : ByteArray := .mk #[0x08, 0x1b, 0x15, 0x06, 0xa4, 0x00, 0x2e, 0x1b, 0x15, 0x08, 0xa3, 0x00, 0x28, 0x15, 0x04, 0x2a, 0x1b, 0x15, 0x08, 0xa0, 0x00, 0x07, 0x03, 0xa7, 0x00, 0x04, 0x04, 0x1b, 0x15, 0x06, 0x2a, 0xb4, 0x00, 0x26, 0x15, 0x05, 0x2e, 0x15, 0x08, 0x15, 0x06, 0x64, 0x04, 0x64, 0xb6, 0x01, 0x0a, 0x60, 0x36, 0x04, 0x15, 0x08, 0x36, 0x06, 0x84, 0x07, 0x01, 0xa7, 0xff, 0xb6, 0x84, 0x05, 0x01, 0xa7, 0xff, 0x95, 0x2a, 0xb4, 0x00, 0x10, 0x1b, 0x1d]
theorem kmX12_paidTo_64_e1 : CK cX12_paidTo 64 mX12_paidTo_64_e1 := ck_of (by decide +kernel)
theorem dX12_paidTo_65 : decode cX12_paidTo 65 = .ok (.iload_n 1, 1) := rd_chunk (k := 64) (i := 1) kmX12_paidTo_64_e1 (by decide +kernel)
theorem dX12_paidTo_66 : decode cX12_paidTo 66 = .ok (.iload 6, 2) := rd_chunk (k := 64) (i := 2) kmX12_paidTo_64_e1 (by decide +kernel)
theorem dX12_paidTo_68 : decode cX12_paidTo 68 = .ok (.if_icmp .le 46, 3) := rd_chunk (k := 64) (i := 4) kmX12_paidTo_64_e1 (by decide +kernel)
theorem dX12_paidTo_71 : decode cX12_paidTo 71 = .ok (.iload_n 1, 1) := rd_chunk (k := 64) (i := 7) kmX12_paidTo_64_e1 (by decide +kernel)
theorem dX12_paidTo_72 : decode cX12_paidTo 72 = .ok (.iload 8, 2) := rd_chunk (k := 64) (i := 8) kmX12_paidTo_64_e1 (by decide +kernel)
theorem dX12_paidTo_74 : decode cX12_paidTo 74 = .ok (.if_icmp .gt 40, 3) := rd_chunk (k := 64) (i := 10) kmX12_paidTo_64_e1 (by decide +kernel)
theorem dX12_paidTo_77 : decode cX12_paidTo 77 = .ok (.iload 4, 2) := rd_chunk (k := 64) (i := 13) kmX12_paidTo_64_e1 (by decide +kernel)
theorem dX12_paidTo_79 : decode cX12_paidTo 79 = .ok (.aload_n 0, 1) := rd_chunk (k := 64) (i := 15) kmX12_paidTo_64_e1 (by decide +kernel)
theorem dX12_paidTo_80 : decode cX12_paidTo 80 = .ok (.iload_n 1, 1) := rd_chunk (k := 64) (i := 16) kmX12_paidTo_64_e1 (by decide +kernel)
theorem dX12_paidTo_81 : decode cX12_paidTo 81 = .ok (.iload 8, 2) := rd_chunk (k := 64) (i := 17) kmX12_paidTo_64_e1 (by decide +kernel)
theorem dX12_paidTo_83 : decode cX12_paidTo 83 = .ok (.if_icmp .ne 7, 3) := rd_chunk (k := 64) (i := 19) kmX12_paidTo_64_e1 (by decide +kernel)
theorem dX12_paidTo_86 : decode cX12_paidTo 86 = .ok (.iconst 0, 1) := rd_chunk (k := 64) (i := 22) kmX12_paidTo_64_e1 (by decide +kernel)
theorem dX12_paidTo_87 : decode cX12_paidTo 87 = .ok (.goto 4, 3) := rd_chunk (k := 64) (i := 23) kmX12_paidTo_64_e1 (by decide +kernel)
theorem dX12_paidTo_90 : decode cX12_paidTo 90 = .ok (.iconst 1, 1) := rd_chunk (k := 64) (i := 26) kmX12_paidTo_64_e1 (by decide +kernel)
theorem dX12_paidTo_91 : decode cX12_paidTo 91 = .ok (.iload_n 1, 1) := rd_chunk (k := 64) (i := 27) kmX12_paidTo_64_e1 (by decide +kernel)
theorem dX12_paidTo_92 : decode cX12_paidTo 92 = .ok (.iload 6, 2) := rd_chunk (k := 64) (i := 28) kmX12_paidTo_64_e1 (by decide +kernel)
theorem dX12_paidTo_94 : decode cX12_paidTo 94 = .ok (.aload_n 0, 1) := rd_chunk (k := 64) (i := 30) kmX12_paidTo_64_e1 (by decide +kernel)
theorem dX12_paidTo_95 : decode cX12_paidTo 95 = .ok (.getfield 38, 3) := rd_chunk (k := 64) (i := 31) kmX12_paidTo_64_e1 (by decide +kernel)
theorem dX12_paidTo_98 : decode cX12_paidTo 98 = .ok (.iload 5, 2) := rd_chunk (k := 64) (i := 34) kmX12_paidTo_64_e1 (by decide +kernel)
theorem dX12_paidTo_100 : decode cX12_paidTo 100 = .ok (.iaload, 1) := rd_chunk (k := 64) (i := 36) kmX12_paidTo_64_e1 (by decide +kernel)
theorem dX12_paidTo_101 : decode cX12_paidTo 101 = .ok (.iload 8, 2) := rd_chunk (k := 64) (i := 37) kmX12_paidTo_64_e1 (by decide +kernel)
theorem dX12_paidTo_103 : decode cX12_paidTo 103 = .ok (.iload 6, 2) := rd_chunk (k := 64) (i := 39) kmX12_paidTo_64_e1 (by decide +kernel)
theorem dX12_paidTo_105 : decode cX12_paidTo 105 = .ok (.isub, 1) := rd_chunk (k := 64) (i := 41) kmX12_paidTo_64_e1 (by decide +kernel)
theorem dX12_paidTo_106 : decode cX12_paidTo 106 = .ok (.iconst 1, 1) := rd_chunk (k := 64) (i := 42) kmX12_paidTo_64_e1 (by decide +kernel)
theorem dX12_paidTo_107 : decode cX12_paidTo 107 = .ok (.isub, 1) := rd_chunk (k := 64) (i := 43) kmX12_paidTo_64_e1 (by decide +kernel)
theorem dX12_paidTo_108 : decode cX12_paidTo 108 = .ok (.invokevirtual 266, 3) := rd_chunk (k := 64) (i := 44) kmX12_paidTo_64_e1 (by decide +kernel)
theorem dX12_paidTo_111 : decode cX12_paidTo 111 = .ok (.iadd, 1) := rd_chunk (k := 64) (i := 47) kmX12_paidTo_64_e1 (by decide +kernel)
theorem dX12_paidTo_112 : decode cX12_paidTo 112 = .ok (.istore 4, 2) := rd_chunk (k := 64) (i := 48) kmX12_paidTo_64_e1 (by decide +kernel)
theorem dX12_paidTo_114 : decode cX12_paidTo 114 = .ok (.iload 8, 2) := rd_chunk (k := 64) (i := 50) kmX12_paidTo_64_e1 (by decide +kernel)
theorem dX12_paidTo_116 : decode cX12_paidTo 116 = .ok (.istore 6, 2) := rd_chunk (k := 64) (i := 52) kmX12_paidTo_64_e1 (by decide +kernel)
theorem dX12_paidTo_118 : decode cX12_paidTo 118 = .ok (.iinc 7 1, 3) := rd_chunk (k := 64) (i := 54) kmX12_paidTo_64_e1 (by decide +kernel)
theorem dX12_paidTo_121 : decode cX12_paidTo 121 = .ok (.goto (-74), 3) := rd_chunk (k := 64) (i := 57) kmX12_paidTo_64_e1 (by decide +kernel)
theorem dX12_paidTo_124 : decode cX12_paidTo 124 = .ok (.iinc 5 1, 3) := rd_chunk (k := 64) (i := 60) kmX12_paidTo_64_e1 (by decide +kernel)
theorem dX12_paidTo_127 : decode cX12_paidTo 127 = .ok (.goto (-107), 3) := rd_chunk (k := 64) (i := 63) kmX12_paidTo_64_e1 (by decide +kernel)
abbrev mX12_paidTo_128_e1 : ByteArray := .mk #[0xff, 0x95, 0x2a, 0xb4, 0x00, 0x10, 0x1b, 0x1d, 0x4f, 0x15, 0x04, 0xac]
theorem kmX12_paidTo_128_e1 : CK cX12_paidTo 128 mX12_paidTo_128_e1 := ck_of (by decide +kernel)
theorem dX12_paidTo_130 : decode cX12_paidTo 130 = .ok (.aload_n 0, 1) := rd_chunk (k := 128) (i := 2) kmX12_paidTo_128_e1 (by decide +kernel)
theorem dX12_paidTo_131 : decode cX12_paidTo 131 = .ok (.getfield 16, 3) := rd_chunk (k := 128) (i := 3) kmX12_paidTo_128_e1 (by decide +kernel)
theorem dX12_paidTo_134 : decode cX12_paidTo 134 = .ok (.iload_n 1, 1) := rd_chunk (k := 128) (i := 6) kmX12_paidTo_128_e1 (by decide +kernel)
theorem dX12_paidTo_135 : decode cX12_paidTo 135 = .ok (.iload_n 3, 1) := rd_chunk (k := 128) (i := 7) kmX12_paidTo_128_e1 (by decide +kernel)
theorem dX12_paidTo_136 : decode cX12_paidTo 136 = .ok (.iastore, 1) := rd_chunk (k := 128) (i := 8) kmX12_paidTo_128_e1 (by decide +kernel)
theorem dX12_paidTo_137 : decode cX12_paidTo 137 = .ok (.iload 4, 2) := rd_chunk (k := 128) (i := 9) kmX12_paidTo_128_e1 (by decide +kernel)
theorem dX12_paidTo_139 : decode cX12_paidTo 139 = .ok (.ireturn, 1) := rd_chunk (k := 128) (i := 11) kmX12_paidTo_128_e1 (by decide +kernel)
theorem dX12_would_0 : decode cX12_would 0 = .ok (.aload_n 0, 1) := by decide +kernel
theorem dX12_would_1 : decode cX12_would 1 = .ok (.iconst 0, 1) := by decide +kernel
theorem dX12_would_2 : decode cX12_would 2 = .ok (.putfield 140, 3) := by decide +kernel
theorem dX12_would_5 : decode cX12_would 5 = .ok (.aload_n 0, 1) := by decide +kernel
theorem dX12_would_6 : decode cX12_would 6 = .ok (.iload_n 1, 1) := by decide +kernel
theorem dX12_would_7 : decode cX12_would 7 = .ok (.invokevirtual 249, 3) := by decide +kernel
theorem dX12_would_10 : decode cX12_would 10 = .ok (.ifCond .eq 22, 3) := by decide +kernel
theorem dX12_would_13 : decode cX12_would 13 = .ok (.iload_n 2, 1) := by decide +kernel
theorem dX12_would_14 : decode cX12_would 14 = .ok (.iconst 0, 1) := by decide +kernel
theorem dX12_would_15 : decode cX12_would 15 = .ok (.bipush 20, 2) := by decide +kernel
theorem dX12_would_17 : decode cX12_would 17 = .ok (.invokestatic 149, 3) := by decide +kernel
theorem dX12_would_20 : decode cX12_would 20 = .ok (.ifCond .eq 12, 3) := by decide +kernel
theorem dX12_would_23 : decode cX12_would 23 = .ok (.aload_n 0, 1) := by decide +kernel
theorem dX12_would_24 : decode cX12_would 24 = .ok (.iload_n 1, 1) := by decide +kernel
theorem dX12_would_25 : decode cX12_would 25 = .ok (.iload_n 2, 1) := by decide +kernel
theorem dX12_would_26 : decode cX12_would 26 = .ok (.invokevirtual 358, 3) := by decide +kernel
theorem dX12_would_29 : decode cX12_would 29 = .ok (.goto 4, 3) := by decide +kernel
theorem dX12_would_32 : decode cX12_would 32 = .ok (.iconst (-1), 1) := by decide +kernel
theorem dX12_would_33 : decode cX12_would 33 = .ok (.ireturn, 1) := by decide +kernel
theorem dX12_findBest_0 : decode cX12_findBest 0 = .ok (.iconst 0, 1) := by decide +kernel
theorem dX12_findBest_1 : decode cX12_findBest 1 = .ok (.istore_n 2, 1) := by decide +kernel
theorem dX12_findBest_2 : decode cX12_findBest 2 = .ok (.aload_n 0, 1) := by decide +kernel
theorem dX12_findBest_3 : decode cX12_findBest 3 = .ok (.aload_n 0, 1) := by decide +kernel
theorem dX12_findBest_4 : decode cX12_findBest 4 = .ok (.iload_n 1, 1) := by decide +kernel
theorem dX12_findBest_5 : decode cX12_findBest 5 = .ok (.iconst 0, 1) := by decide +kernel
theorem dX12_findBest_6 : decode cX12_findBest 6 = .ok (.invokevirtual 358, 3) := by decide +kernel
theorem dX12_findBest_9 : decode cX12_findBest 9 = .ok (.putfield 361, 3) := by decide +kernel
theorem dX12_findBest_12 : decode cX12_findBest 12 = .ok (.iconst 1, 1) := by decide +kernel
theorem dX12_findBest_13 : decode cX12_findBest 13 = .ok (.istore_n 3, 1) := by decide +kernel
theorem dX12_findBest_14 : decode cX12_findBest 14 = .ok (.iload_n 3, 1) := by decide +kernel
theorem dX12_findBest_15 : decode cX12_findBest 15 = .ok (.bipush 20, 2) := by decide +kernel
theorem dX12_findBest_17 : decode cX12_findBest 17 = .ok (.if_icmp .gt 37, 3) := by decide +kernel
theorem dX12_findBest_20 : decode cX12_findBest 20 = .ok (.aload_n 0, 1) := by decide +kernel
theorem dX12_findBest_21 : decode cX12_findBest 21 = .ok (.iload_n 1, 1) := by decide +kernel
theorem dX12_findBest_22 : decode cX12_findBest 22 = .ok (.iload_n 3, 1) := by decide +kernel
theorem dX12_findBest_23 : decode cX12_findBest 23 = .ok (.invokevirtual 358, 3) := by decide +kernel
theorem dX12_findBest_26 : decode cX12_findBest 26 = .ok (.istore 4, 2) := by decide +kernel
theorem dX12_findBest_28 : decode cX12_findBest 28 = .ok (.iload 4, 2) := by decide +kernel
theorem dX12_findBest_30 : decode cX12_findBest 30 = .ok (.aload_n 0, 1) := by decide +kernel
theorem dX12_findBest_31 : decode cX12_findBest 31 = .ok (.getfield 361, 3) := by decide +kernel
theorem dX12_findBest_34 : decode cX12_findBest 34 = .ok (.if_icmp .gt 6, 3) := by decide +kernel
theorem dX12_findBest_37 : decode cX12_findBest 37 = .ok (.goto 11, 3) := by decide +kernel
theorem dX12_findBest_40 : decode cX12_findBest 40 = .ok (.iload_n 3, 1) := by decide +kernel
theorem dX12_findBest_41 : decode cX12_findBest 41 = .ok (.istore_n 2, 1) := by decide +kernel
theorem dX12_findBest_42 : decode cX12_findBest 42 = .ok (.aload_n 0, 1) := by decide +kernel
theorem dX12_findBest_43 : decode cX12_findBest 43 = .ok (.iload 4, 2) := by decide +kernel
theorem dX12_findBest_45 : decode cX12_findBest 45 = .ok (.putfield 361, 3) := by decide +kernel
theorem dX12_findBest_48 : decode cX12_findBest 48 = .ok (.iinc 3 1, 3) := by decide +kernel
theorem dX12_findBest_51 : decode cX12_findBest 51 = .ok (.goto (-37), 3) := by decide +kernel
theorem dX12_findBest_54 : decode cX12_findBest 54 = .ok (.iload_n 2, 1) := by decide +kernel
theorem dX12_findBest_55 : decode cX12_findBest 55 = .ok (.ireturn, 1) := by decide +kernel
theorem dX12_best_0 : decode cX12_best 0 = .ok (.aload_n 0, 1) := by decide +kernel
theorem dX12_best_1 : decode cX12_best 1 = .ok (.iconst 0, 1) := by decide +kernel
theorem dX12_best_2 : decode cX12_best 2 = .ok (.putfield 140, 3) := by decide +kernel
theorem dX12_best_5 : decode cX12_best 5 = .ok (.aload_n 0, 1) := by decide +kernel
theorem dX12_best_6 : decode cX12_best 6 = .ok (.iload_n 1, 1) := by decide +kernel
theorem dX12_best_7 : decode cX12_best 7 = .ok (.invokevirtual 249, 3) := by decide +kernel
theorem dX12_best_10 : decode cX12_best 10 = .ok (.ifCond .ne 5, 3) := by decide +kernel
theorem dX12_best_13 : decode cX12_best 13 = .ok (.iconst (-1), 1) := by decide +kernel
theorem dX12_best_14 : decode cX12_best 14 = .ok (.ireturn, 1) := by decide +kernel
theorem dX12_best_15 : decode cX12_best 15 = .ok (.aload_n 0, 1) := by decide +kernel
theorem dX12_best_16 : decode cX12_best 16 = .ok (.iload_n 1, 1) := by decide +kernel
theorem dX12_best_17 : decode cX12_best 17 = .ok (.invokevirtual 364, 3) := by decide +kernel
theorem dX12_best_20 : decode cX12_best 20 = .ok (.istore_n 2, 1) := by decide +kernel
theorem dX12_best_21 : decode cX12_best 21 = .ok (.aload_n 0, 1) := by decide +kernel
theorem dX12_best_22 : decode cX12_best 22 = .ok (.iconst 0, 1) := by decide +kernel
theorem dX12_best_23 : decode cX12_best 23 = .ok (.putfield 143, 3) := by decide +kernel
theorem dX12_best_26 : decode cX12_best 26 = .ok (.aload_n 0, 1) := by decide +kernel
theorem dX12_best_27 : decode cX12_best 27 = .ok (.aload_n 0, 1) := by decide +kernel
theorem dX12_best_28 : decode cX12_best 28 = .ok (.getfield 361, 3) := by decide +kernel
theorem dX12_best_31 : decode cX12_best 31 = .ok (.i2l, 1) := by decide +kernel
theorem dX12_best_32 : decode cX12_best 32 = .ok (.invokevirtual 276, 3) := by decide +kernel
theorem dX12_best_35 : decode cX12_best 35 = .ok (.iload_n 2, 1) := by decide +kernel
theorem dX12_best_36 : decode cX12_best 36 = .ok (.ireturn, 1) := by decide +kernel
abbrev mX12_market_0_e1 : ByteArray := .mk #[0x2a, 0x03, 0xb5, 0x00, 0x8c, 0x2a, 0xb4, 0x00, 0x92, 0x99, 0x00, 0x0c, 0x1b, 0x04, 0x06, 0xb8, 0x00, 0x95, 0x9a, 0x00, 0x05, 0x02, 0xac, 0x03, 0x3d, 0x03, 0x3e, 0x03, 0x36, 0x04, 0x15, 0x04, 0x1b, 0xa2, 0x00, 0x5b, 0x1d, 0x9a, 0x00, 0x57, 0x04, 0x3e, 0x03, 0x36, 0x05, 0x15, 0x05, 0x2a, 0xb4, 0x00, 0x92, 0xa2, 0x00, 0x37, 0x2a, 0x15, 0x05, 0x2a, 0xb4, 0x00, 0x10, 0x15, 0x05, 0x2e, 0xb6, 0x01, 0x66, 0x36, 0x06, 0x2a, 0x15, 0x05]
theorem kmX12_market_0_e1 : CK cX12_market 0 mX12_market_0_e1 := ck_of (by decide +kernel)
theorem dX12_market_0 : decode cX12_market 0 = .ok (.aload_n 0, 1) := rd_chunk (k := 0) (i := 0) kmX12_market_0_e1 (by decide +kernel)
theorem dX12_market_1 : decode cX12_market 1 = .ok (.iconst 0, 1) := rd_chunk (k := 0) (i := 1) kmX12_market_0_e1 (by decide +kernel)
theorem dX12_market_2 : decode cX12_market 2 = .ok (.putfield 140, 3) := rd_chunk (k := 0) (i := 2) kmX12_market_0_e1 (by decide +kernel)
theorem dX12_market_5 : decode cX12_market 5 = .ok (.aload_n 0, 1) := rd_chunk (k := 0) (i := 5) kmX12_market_0_e1 (by decide +kernel)
theorem dX12_market_6 : decode cX12_market 6 = .ok (.getfield 146, 3) := rd_chunk (k := 0) (i := 6) kmX12_market_0_e1 (by decide +kernel)
theorem dX12_market_9 : decode cX12_market 9 = .ok (.ifCond .eq 12, 3) := rd_chunk (k := 0) (i := 9) kmX12_market_0_e1 (by decide +kernel)
theorem dX12_market_12 : decode cX12_market 12 = .ok (.iload_n 1, 1) := rd_chunk (k := 0) (i := 12) kmX12_market_0_e1 (by decide +kernel)
theorem dX12_market_13 : decode cX12_market 13 = .ok (.iconst 1, 1) := rd_chunk (k := 0) (i := 13) kmX12_market_0_e1 (by decide +kernel)
theorem dX12_market_14 : decode cX12_market 14 = .ok (.iconst 3, 1) := rd_chunk (k := 0) (i := 14) kmX12_market_0_e1 (by decide +kernel)
theorem dX12_market_15 : decode cX12_market 15 = .ok (.invokestatic 149, 3) := rd_chunk (k := 0) (i := 15) kmX12_market_0_e1 (by decide +kernel)
theorem dX12_market_18 : decode cX12_market 18 = .ok (.ifCond .ne 5, 3) := rd_chunk (k := 0) (i := 18) kmX12_market_0_e1 (by decide +kernel)
theorem dX12_market_21 : decode cX12_market 21 = .ok (.iconst (-1), 1) := rd_chunk (k := 0) (i := 21) kmX12_market_0_e1 (by decide +kernel)
theorem dX12_market_22 : decode cX12_market 22 = .ok (.ireturn, 1) := rd_chunk (k := 0) (i := 22) kmX12_market_0_e1 (by decide +kernel)
theorem dX12_market_23 : decode cX12_market 23 = .ok (.iconst 0, 1) := rd_chunk (k := 0) (i := 23) kmX12_market_0_e1 (by decide +kernel)
theorem dX12_market_24 : decode cX12_market 24 = .ok (.istore_n 2, 1) := rd_chunk (k := 0) (i := 24) kmX12_market_0_e1 (by decide +kernel)
theorem dX12_market_25 : decode cX12_market 25 = .ok (.iconst 0, 1) := rd_chunk (k := 0) (i := 25) kmX12_market_0_e1 (by decide +kernel)
theorem dX12_market_26 : decode cX12_market 26 = .ok (.istore_n 3, 1) := rd_chunk (k := 0) (i := 26) kmX12_market_0_e1 (by decide +kernel)
theorem dX12_market_27 : decode cX12_market 27 = .ok (.iconst 0, 1) := rd_chunk (k := 0) (i := 27) kmX12_market_0_e1 (by decide +kernel)
theorem dX12_market_28 : decode cX12_market 28 = .ok (.istore 4, 2) := rd_chunk (k := 0) (i := 28) kmX12_market_0_e1 (by decide +kernel)
theorem dX12_market_30 : decode cX12_market 30 = .ok (.iload 4, 2) := rd_chunk (k := 0) (i := 30) kmX12_market_0_e1 (by decide +kernel)
theorem dX12_market_32 : decode cX12_market 32 = .ok (.iload_n 1, 1) := rd_chunk (k := 0) (i := 32) kmX12_market_0_e1 (by decide +kernel)
theorem dX12_market_33 : decode cX12_market 33 = .ok (.if_icmp .ge 91, 3) := rd_chunk (k := 0) (i := 33) kmX12_market_0_e1 (by decide +kernel)
theorem dX12_market_36 : decode cX12_market 36 = .ok (.iload_n 3, 1) := rd_chunk (k := 0) (i := 36) kmX12_market_0_e1 (by decide +kernel)
theorem dX12_market_37 : decode cX12_market 37 = .ok (.ifCond .ne 87, 3) := rd_chunk (k := 0) (i := 37) kmX12_market_0_e1 (by decide +kernel)
theorem dX12_market_40 : decode cX12_market 40 = .ok (.iconst 1, 1) := rd_chunk (k := 0) (i := 40) kmX12_market_0_e1 (by decide +kernel)
theorem dX12_market_41 : decode cX12_market 41 = .ok (.istore_n 3, 1) := rd_chunk (k := 0) (i := 41) kmX12_market_0_e1 (by decide +kernel)
theorem dX12_market_42 : decode cX12_market 42 = .ok (.iconst 0, 1) := rd_chunk (k := 0) (i := 42) kmX12_market_0_e1 (by decide +kernel)
theorem dX12_market_43 : decode cX12_market 43 = .ok (.istore 5, 2) := rd_chunk (k := 0) (i := 43) kmX12_market_0_e1 (by decide +kernel)
theorem dX12_market_45 : decode cX12_market 45 = .ok (.iload 5, 2) := rd_chunk (k := 0) (i := 45) kmX12_market_0_e1 (by decide +kernel)
theorem dX12_market_47 : decode cX12_market 47 = .ok (.aload_n 0, 1) := rd_chunk (k := 0) (i := 47) kmX12_market_0_e1 (by decide +kernel)
theorem dX12_market_48 : decode cX12_market 48 = .ok (.getfield 146, 3) := rd_chunk (k := 0) (i := 48) kmX12_market_0_e1 (by decide +kernel)
theorem dX12_market_51 : decode cX12_market 51 = .ok (.if_icmp .ge 55, 3) := rd_chunk (k := 0) (i := 51) kmX12_market_0_e1 (by decide +kernel)
theorem dX12_market_54 : decode cX12_market 54 = .ok (.aload_n 0, 1) := rd_chunk (k := 0) (i := 54) kmX12_market_0_e1 (by decide +kernel)
theorem dX12_market_55 : decode cX12_market 55 = .ok (.iload 5, 2) := rd_chunk (k := 0) (i := 55) kmX12_market_0_e1 (by decide +kernel)
theorem dX12_market_57 : decode cX12_market 57 = .ok (.aload_n 0, 1) := rd_chunk (k := 0) (i := 57) kmX12_market_0_e1 (by decide +kernel)
theorem dX12_market_58 : decode cX12_market 58 = .ok (.getfield 16, 3) := rd_chunk (k := 0) (i := 58) kmX12_market_0_e1 (by decide +kernel)
theorem dX12_market_61 : decode cX12_market 61 = .ok (.iload 5, 2) := rd_chunk (k := 0) (i := 61) kmX12_market_0_e1 (by decide +kernel)
theorem dX12_market_63 : decode cX12_market 63 = .ok (.iaload, 1) := rd_chunk (k := 0) (i := 63) kmX12_market_0_e1 (by decide +kernel)
abbrev mX12_market_64_e1 : ByteArray := .mk #[0xb6, 0x01, 0x66, 0x36, 0x06, 0x2a, 0x15, 0x05, 0xb6, 0x01, 0x6c, 0x36, 0x07, 0x2a, 0xb4, 0x01, 0x69, 0x15, 0x06, 0xa3, 0x00, 0x06, 0xa7, 0x00, 0x0e, 0x2a, 0xb4, 0x00, 0x10, 0x15, 0x05, 0x15, 0x07, 0x4f, 0x03, 0x3e, 0x84, 0x05, 0x01, 0xa7, 0xff, 0xc6, 0x1c, 0x1d, 0x99, 0x00, 0x07, 0x03, 0xa7, 0x00, 0x04, 0x04, 0x60, 0x3d, 0x84, 0x04, 0x01, 0xa7, 0xff, 0xa5, 0x03, 0x36, 0x04, 0x03, 0x36, 0x05, 0x15, 0x05, 0x2a, 0xb4, 0x00, 0x92]
theorem kmX12_market_64_e1 : CK cX12_market 64 mX12_market_64_e1 := ck_of (by decide +kernel)
theorem dX12_market_64 : decode cX12_market 64 = .ok (.invokevirtual 358, 3) := rd_chunk (k := 64) (i := 0) kmX12_market_64_e1 (by decide +kernel)
theorem dX12_market_67 : decode cX12_market 67 = .ok (.istore 6, 2) := rd_chunk (k := 64) (i := 3) kmX12_market_64_e1 (by decide +kernel)
theorem dX12_market_69 : decode cX12_market 69 = .ok (.aload_n 0, 1) := rd_chunk (k := 64) (i := 5) kmX12_market_64_e1 (by decide +kernel)
theorem dX12_market_70 : decode cX12_market 70 = .ok (.iload 5, 2) := rd_chunk (k := 64) (i := 6) kmX12_market_64_e1 (by decide +kernel)
theorem dX12_market_72 : decode cX12_market 72 = .ok (.invokevirtual 364, 3) := rd_chunk (k := 64) (i := 8) kmX12_market_64_e1 (by decide +kernel)
theorem dX12_market_75 : decode cX12_market 75 = .ok (.istore 7, 2) := rd_chunk (k := 64) (i := 11) kmX12_market_64_e1 (by decide +kernel)
theorem dX12_market_77 : decode cX12_market 77 = .ok (.aload_n 0, 1) := rd_chunk (k := 64) (i := 13) kmX12_market_64_e1 (by decide +kernel)
theorem dX12_market_78 : decode cX12_market 78 = .ok (.getfield 361, 3) := rd_chunk (k := 64) (i := 14) kmX12_market_64_e1 (by decide +kernel)
theorem dX12_market_81 : decode cX12_market 81 = .ok (.iload 6, 2) := rd_chunk (k := 64) (i := 17) kmX12_market_64_e1 (by decide +kernel)
theorem dX12_market_83 : decode cX12_market 83 = .ok (.if_icmp .gt 6, 3) := rd_chunk (k := 64) (i := 19) kmX12_market_64_e1 (by decide +kernel)
theorem dX12_market_86 : decode cX12_market 86 = .ok (.goto 14, 3) := rd_chunk (k := 64) (i := 22) kmX12_market_64_e1 (by decide +kernel)
theorem dX12_market_89 : decode cX12_market 89 = .ok (.aload_n 0, 1) := rd_chunk (k := 64) (i := 25) kmX12_market_64_e1 (by decide +kernel)
theorem dX12_market_90 : decode cX12_market 90 = .ok (.getfield 16, 3) := rd_chunk (k := 64) (i := 26) kmX12_market_64_e1 (by decide +kernel)
theorem dX12_market_93 : decode cX12_market 93 = .ok (.iload 5, 2) := rd_chunk (k := 64) (i := 29) kmX12_market_64_e1 (by decide +kernel)
theorem dX12_market_95 : decode cX12_market 95 = .ok (.iload 7, 2) := rd_chunk (k := 64) (i := 31) kmX12_market_64_e1 (by decide +kernel)
theorem dX12_market_97 : decode cX12_market 97 = .ok (.iastore, 1) := rd_chunk (k := 64) (i := 33) kmX12_market_64_e1 (by decide +kernel)
theorem dX12_market_98 : decode cX12_market 98 = .ok (.iconst 0, 1) := rd_chunk (k := 64) (i := 34) kmX12_market_64_e1 (by decide +kernel)
theorem dX12_market_99 : decode cX12_market 99 = .ok (.istore_n 3, 1) := rd_chunk (k := 64) (i := 35) kmX12_market_64_e1 (by decide +kernel)
theorem dX12_market_100 : decode cX12_market 100 = .ok (.iinc 5 1, 3) := rd_chunk (k := 64) (i := 36) kmX12_market_64_e1 (by decide +kernel)
theorem dX12_market_103 : decode cX12_market 103 = .ok (.goto (-58), 3) := rd_chunk (k := 64) (i := 39) kmX12_market_64_e1 (by decide +kernel)
theorem dX12_market_106 : decode cX12_market 106 = .ok (.iload_n 2, 1) := rd_chunk (k := 64) (i := 42) kmX12_market_64_e1 (by decide +kernel)
theorem dX12_market_107 : decode cX12_market 107 = .ok (.iload_n 3, 1) := rd_chunk (k := 64) (i := 43) kmX12_market_64_e1 (by decide +kernel)
theorem dX12_market_108 : decode cX12_market 108 = .ok (.ifCond .eq 7, 3) := rd_chunk (k := 64) (i := 44) kmX12_market_64_e1 (by decide +kernel)
theorem dX12_market_111 : decode cX12_market 111 = .ok (.iconst 0, 1) := rd_chunk (k := 64) (i := 47) kmX12_market_64_e1 (by decide +kernel)
theorem dX12_market_112 : decode cX12_market 112 = .ok (.goto 4, 3) := rd_chunk (k := 64) (i := 48) kmX12_market_64_e1 (by decide +kernel)
theorem dX12_market_115 : decode cX12_market 115 = .ok (.iconst 1, 1) := rd_chunk (k := 64) (i := 51) kmX12_market_64_e1 (by decide +kernel)
theorem dX12_market_116 : decode cX12_market 116 = .ok (.iadd, 1) := rd_chunk (k := 64) (i := 52) kmX12_market_64_e1 (by decide +kernel)
theorem dX12_market_117 : decode cX12_market 117 = .ok (.istore_n 2, 1) := rd_chunk (k := 64) (i := 53) kmX12_market_64_e1 (by decide +kernel)
theorem dX12_market_118 : decode cX12_market 118 = .ok (.iinc 4 1, 3) := rd_chunk (k := 64) (i := 54) kmX12_market_64_e1 (by decide +kernel)
theorem dX12_market_121 : decode cX12_market 121 = .ok (.goto (-91), 3) := rd_chunk (k := 64) (i := 57) kmX12_market_64_e1 (by decide +kernel)
theorem dX12_market_124 : decode cX12_market 124 = .ok (.iconst 0, 1) := rd_chunk (k := 64) (i := 60) kmX12_market_64_e1 (by decide +kernel)
theorem dX12_market_125 : decode cX12_market 125 = .ok (.istore 4, 2) := rd_chunk (k := 64) (i := 61) kmX12_market_64_e1 (by decide +kernel)
theorem dX12_market_127 : decode cX12_market 127 = .ok (.iconst 0, 1) := rd_chunk (k := 64) (i := 63) kmX12_market_64_e1 (by decide +kernel)
abbrev mX12_market_128_e1 : ByteArray := .mk #[0x36, 0x05, 0x15, 0x05, 0x2a, 0xb4, 0x00, 0x92, 0xa2, 0x00, 0x15, 0x15, 0x04, 0x2a, 0xb4, 0x00, 0x10, 0x15, 0x05, 0x2e, 0x60, 0x36, 0x04, 0x84, 0x05, 0x01, 0xa7, 0xff, 0xe8, 0x2a, 0x03, 0xb5, 0x00, 0x8f, 0x2a, 0x1d, 0x99, 0x00, 0x07, 0x0a, 0xa7, 0x00, 0x04, 0x09, 0xb6, 0x01, 0x14, 0x2a, 0x15, 0x04, 0x85, 0xb6, 0x01, 0x14, 0x1c, 0xac]
theorem kmX12_market_128_e1 : CK cX12_market 128 mX12_market_128_e1 := ck_of (by decide +kernel)
theorem dX12_market_128 : decode cX12_market 128 = .ok (.istore 5, 2) := rd_chunk (k := 128) (i := 0) kmX12_market_128_e1 (by decide +kernel)
theorem dX12_market_130 : decode cX12_market 130 = .ok (.iload 5, 2) := rd_chunk (k := 128) (i := 2) kmX12_market_128_e1 (by decide +kernel)
theorem dX12_market_132 : decode cX12_market 132 = .ok (.aload_n 0, 1) := rd_chunk (k := 128) (i := 4) kmX12_market_128_e1 (by decide +kernel)
theorem dX12_market_133 : decode cX12_market 133 = .ok (.getfield 146, 3) := rd_chunk (k := 128) (i := 5) kmX12_market_128_e1 (by decide +kernel)
theorem dX12_market_136 : decode cX12_market 136 = .ok (.if_icmp .ge 21, 3) := rd_chunk (k := 128) (i := 8) kmX12_market_128_e1 (by decide +kernel)
theorem dX12_market_139 : decode cX12_market 139 = .ok (.iload 4, 2) := rd_chunk (k := 128) (i := 11) kmX12_market_128_e1 (by decide +kernel)
theorem dX12_market_141 : decode cX12_market 141 = .ok (.aload_n 0, 1) := rd_chunk (k := 128) (i := 13) kmX12_market_128_e1 (by decide +kernel)
theorem dX12_market_142 : decode cX12_market 142 = .ok (.getfield 16, 3) := rd_chunk (k := 128) (i := 14) kmX12_market_128_e1 (by decide +kernel)
theorem dX12_market_145 : decode cX12_market 145 = .ok (.iload 5, 2) := rd_chunk (k := 128) (i := 17) kmX12_market_128_e1 (by decide +kernel)
theorem dX12_market_147 : decode cX12_market 147 = .ok (.iaload, 1) := rd_chunk (k := 128) (i := 19) kmX12_market_128_e1 (by decide +kernel)
theorem dX12_market_148 : decode cX12_market 148 = .ok (.iadd, 1) := rd_chunk (k := 128) (i := 20) kmX12_market_128_e1 (by decide +kernel)
theorem dX12_market_149 : decode cX12_market 149 = .ok (.istore 4, 2) := rd_chunk (k := 128) (i := 21) kmX12_market_128_e1 (by decide +kernel)
theorem dX12_market_151 : decode cX12_market 151 = .ok (.iinc 5 1, 3) := rd_chunk (k := 128) (i := 23) kmX12_market_128_e1 (by decide +kernel)
theorem dX12_market_154 : decode cX12_market 154 = .ok (.goto (-24), 3) := rd_chunk (k := 128) (i := 26) kmX12_market_128_e1 (by decide +kernel)
theorem dX12_market_157 : decode cX12_market 157 = .ok (.aload_n 0, 1) := rd_chunk (k := 128) (i := 29) kmX12_market_128_e1 (by decide +kernel)
theorem dX12_market_158 : decode cX12_market 158 = .ok (.iconst 0, 1) := rd_chunk (k := 128) (i := 30) kmX12_market_128_e1 (by decide +kernel)
theorem dX12_market_159 : decode cX12_market 159 = .ok (.putfield 143, 3) := rd_chunk (k := 128) (i := 31) kmX12_market_128_e1 (by decide +kernel)
theorem dX12_market_162 : decode cX12_market 162 = .ok (.aload_n 0, 1) := rd_chunk (k := 128) (i := 34) kmX12_market_128_e1 (by decide +kernel)
theorem dX12_market_163 : decode cX12_market 163 = .ok (.iload_n 3, 1) := rd_chunk (k := 128) (i := 35) kmX12_market_128_e1 (by decide +kernel)
theorem dX12_market_164 : decode cX12_market 164 = .ok (.ifCond .eq 7, 3) := rd_chunk (k := 128) (i := 36) kmX12_market_128_e1 (by decide +kernel)
theorem dX12_market_167 : decode cX12_market 167 = .ok (.lconst 1, 1) := rd_chunk (k := 128) (i := 39) kmX12_market_128_e1 (by decide +kernel)
theorem dX12_market_168 : decode cX12_market 168 = .ok (.goto 4, 3) := rd_chunk (k := 128) (i := 40) kmX12_market_128_e1 (by decide +kernel)
theorem dX12_market_171 : decode cX12_market 171 = .ok (.lconst 0, 1) := rd_chunk (k := 128) (i := 43) kmX12_market_128_e1 (by decide +kernel)
theorem dX12_market_172 : decode cX12_market 172 = .ok (.invokevirtual 276, 3) := rd_chunk (k := 128) (i := 44) kmX12_market_128_e1 (by decide +kernel)
theorem dX12_market_175 : decode cX12_market 175 = .ok (.aload_n 0, 1) := rd_chunk (k := 128) (i := 47) kmX12_market_128_e1 (by decide +kernel)
theorem dX12_market_176 : decode cX12_market 176 = .ok (.iload 4, 2) := rd_chunk (k := 128) (i := 48) kmX12_market_128_e1 (by decide +kernel)
theorem dX12_market_178 : decode cX12_market 178 = .ok (.i2l, 1) := rd_chunk (k := 128) (i := 50) kmX12_market_128_e1 (by decide +kernel)
theorem dX12_market_179 : decode cX12_market 179 = .ok (.invokevirtual 276, 3) := rd_chunk (k := 128) (i := 51) kmX12_market_128_e1 (by decide +kernel)
theorem dX12_market_182 : decode cX12_market 182 = .ok (.iload_n 2, 1) := rd_chunk (k := 128) (i := 54) kmX12_market_128_e1 (by decide +kernel)
theorem dX12_market_183 : decode cX12_market 183 = .ok (.ireturn, 1) := rd_chunk (k := 128) (i := 55) kmX12_market_128_e1 (by decide +kernel)
theorem dX12_rememberParts_0 : decode cX12_rememberParts 0 = .ok (.sipush 192, 3) := by decide +kernel
theorem dX12_rememberParts_3 : decode cX12_rememberParts 3 = .ok (.istore_n 1, 1) := by decide +kernel
theorem dX12_rememberParts_4 : decode cX12_rememberParts 4 = .ok (.aload_n 0, 1) := by decide +kernel
theorem dX12_rememberParts_5 : decode cX12_rememberParts 5 = .ok (.getfield 201, 3) := by decide +kernel
theorem dX12_rememberParts_8 : decode cX12_rememberParts 8 = .ok (.bipush 8, 2) := by decide +kernel
theorem dX12_rememberParts_10 : decode cX12_rememberParts 10 = .ok (.if_icmp .ne 43, 3) := by decide +kernel
theorem dX12_rememberParts_13 : decode cX12_rememberParts 13 = .ok (.iconst 0, 1) := by decide +kernel
theorem dX12_rememberParts_14 : decode cX12_rememberParts 14 = .ok (.istore_n 2, 1) := by decide +kernel
theorem dX12_rememberParts_15 : decode cX12_rememberParts 15 = .ok (.iload_n 2, 1) := by decide +kernel
theorem dX12_rememberParts_16 : decode cX12_rememberParts 16 = .ok (.iload_n 1, 1) := by decide +kernel
theorem dX12_rememberParts_17 : decode cX12_rememberParts 17 = .ok (.bipush 7, 2) := by decide +kernel
theorem dX12_rememberParts_19 : decode cX12_rememberParts 19 = .ok (.imul, 1) := by decide +kernel
theorem dX12_rememberParts_20 : decode cX12_rememberParts 20 = .ok (.if_icmp .ge 23, 3) := by decide +kernel
theorem dX12_rememberParts_23 : decode cX12_rememberParts 23 = .ok (.aload_n 0, 1) := by decide +kernel
theorem dX12_rememberParts_24 : decode cX12_rememberParts 24 = .ok (.getfield 104, 3) := by decide +kernel
theorem dX12_rememberParts_27 : decode cX12_rememberParts 27 = .ok (.iload_n 2, 1) := by decide +kernel
theorem dX12_rememberParts_28 : decode cX12_rememberParts 28 = .ok (.aload_n 0, 1) := by decide +kernel
theorem dX12_rememberParts_29 : decode cX12_rememberParts 29 = .ok (.getfield 104, 3) := by decide +kernel
theorem dX12_rememberParts_32 : decode cX12_rememberParts 32 = .ok (.iload_n 2, 1) := by decide +kernel
theorem dX12_rememberParts_33 : decode cX12_rememberParts 33 = .ok (.iload_n 1, 1) := by decide +kernel
theorem dX12_rememberParts_34 : decode cX12_rememberParts 34 = .ok (.iadd, 1) := by decide +kernel
theorem dX12_rememberParts_35 : decode cX12_rememberParts 35 = .ok (.iaload, 1) := by decide +kernel
theorem dX12_rememberParts_36 : decode cX12_rememberParts 36 = .ok (.iastore, 1) := by decide +kernel
theorem dX12_rememberParts_37 : decode cX12_rememberParts 37 = .ok (.iinc 2 1, 3) := by decide +kernel
theorem dX12_rememberParts_40 : decode cX12_rememberParts 40 = .ok (.goto (-25), 3) := by decide +kernel
theorem dX12_rememberParts_43 : decode cX12_rememberParts 43 = .ok (.aload_n 0, 1) := by decide +kernel
theorem dX12_rememberParts_44 : decode cX12_rememberParts 44 = .ok (.dup, 1) := by decide +kernel
theorem dX12_rememberParts_45 : decode cX12_rememberParts 45 = .ok (.getfield 201, 3) := by decide +kernel
theorem dX12_rememberParts_48 : decode cX12_rememberParts 48 = .ok (.iconst 1, 1) := by decide +kernel
theorem dX12_rememberParts_49 : decode cX12_rememberParts 49 = .ok (.isub, 1) := by decide +kernel
theorem dX12_rememberParts_50 : decode cX12_rememberParts 50 = .ok (.putfield 201, 3) := by decide +kernel
theorem dX12_rememberParts_53 : decode cX12_rememberParts 53 = .ok (.iconst 0, 1) := by decide +kernel
theorem dX12_rememberParts_54 : decode cX12_rememberParts 54 = .ok (.istore_n 2, 1) := by decide +kernel
theorem dX12_rememberParts_55 : decode cX12_rememberParts 55 = .ok (.iload_n 2, 1) := by decide +kernel
theorem dX12_rememberParts_56 : decode cX12_rememberParts 56 = .ok (.iload_n 1, 1) := by decide +kernel
theorem dX12_rememberParts_57 : decode cX12_rememberParts 57 = .ok (.if_icmp .ge 28, 3) := by decide +kernel
theorem dX12_rememberParts_60 : decode cX12_rememberParts 60 = .ok (.aload_n 0, 1) := by decide +kernel
theorem dX12_rememberParts_61 : decode cX12_rememberParts 61 = .ok (.getfield 104, 3) := by decide +kernel
theorem dX12_rememberParts_64 : decode cX12_rememberParts 64 = .ok (.iload_n 1, 1) := by decide +kernel
theorem dX12_rememberParts_65 : decode cX12_rememberParts 65 = .ok (.aload_n 0, 1) := by decide +kernel
theorem dX12_rememberParts_66 : decode cX12_rememberParts 66 = .ok (.getfield 201, 3) := by decide +kernel
theorem dX12_rememberParts_69 : decode cX12_rememberParts 69 = .ok (.imul, 1) := by decide +kernel
theorem dX12_rememberParts_70 : decode cX12_rememberParts 70 = .ok (.iload_n 2, 1) := by decide +kernel
theorem dX12_rememberParts_71 : decode cX12_rememberParts 71 = .ok (.iadd, 1) := by decide +kernel
theorem dX12_rememberParts_72 : decode cX12_rememberParts 72 = .ok (.aload_n 0, 1) := by decide +kernel
theorem dX12_rememberParts_73 : decode cX12_rememberParts 73 = .ok (.getfield 107, 3) := by decide +kernel
theorem dX12_rememberParts_76 : decode cX12_rememberParts 76 = .ok (.iload_n 2, 1) := by decide +kernel
theorem dX12_rememberParts_77 : decode cX12_rememberParts 77 = .ok (.iaload, 1) := by decide +kernel
theorem dX12_rememberParts_78 : decode cX12_rememberParts 78 = .ok (.iastore, 1) := by decide +kernel
theorem dX12_rememberParts_79 : decode cX12_rememberParts 79 = .ok (.iinc 2 1, 3) := by decide +kernel
theorem dX12_rememberParts_82 : decode cX12_rememberParts 82 = .ok (.goto (-27), 3) := by decide +kernel
theorem dX12_rememberParts_85 : decode cX12_rememberParts 85 = .ok (.aload_n 0, 1) := by decide +kernel
theorem dX12_rememberParts_86 : decode cX12_rememberParts 86 = .ok (.dup, 1) := by decide +kernel
theorem dX12_rememberParts_87 : decode cX12_rememberParts 87 = .ok (.getfield 201, 3) := by decide +kernel
theorem dX12_rememberParts_90 : decode cX12_rememberParts 90 = .ok (.iconst 1, 1) := by decide +kernel
theorem dX12_rememberParts_91 : decode cX12_rememberParts 91 = .ok (.iadd, 1) := by decide +kernel
theorem dX12_rememberParts_92 : decode cX12_rememberParts 92 = .ok (.putfield 201, 3) := by decide +kernel
theorem dX12_rememberParts_95 : decode cX12_rememberParts 95 = .ok (.return_, 1) := by decide +kernel
theorem dX12_parts_0 : decode cX12_parts 0 = .ok (.aload_n 0, 1) := by decide +kernel
theorem dX12_parts_1 : decode cX12_parts 1 = .ok (.iconst 0, 1) := by decide +kernel
theorem dX12_parts_2 : decode cX12_parts 2 = .ok (.putfield 140, 3) := by decide +kernel
