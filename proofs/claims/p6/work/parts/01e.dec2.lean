theorem dX12_parts_5 : decode cX12_parts 5 = .ok (.aload_n 0, 1) := by decide +kernel
theorem dX12_parts_6 : decode cX12_parts 6 = .ok (.iload_n 1, 1) := by decide +kernel
theorem dX12_parts_7 : decode cX12_parts 7 = .ok (.invokevirtual 249, 3) := by decide +kernel
theorem dX12_parts_10 : decode cX12_parts 10 = .ok (.ifCond .eq 24, 3) := by decide +kernel
theorem dX12_parts_13 : decode cX12_parts 13 = .ok (.iload_n 2, 1) := by decide +kernel
theorem dX12_parts_14 : decode cX12_parts 14 = .ok (.invokestatic 256, 3) := by decide +kernel
theorem dX12_parts_17 : decode cX12_parts 17 = .ok (.ifCond .eq 17, 3) := by decide +kernel
theorem dX12_parts_20 : decode cX12_parts 20 = .ok (.aload_n 0, 1) := by decide +kernel
theorem dX12_parts_21 : decode cX12_parts 21 = .ok (.getfield 23, 3) := by decide +kernel
theorem dX12_parts_24 : decode cX12_parts 24 = .ok (.bipush 8, 2) := by decide +kernel
theorem dX12_parts_26 : decode cX12_parts 26 = .ok (.iload_n 1, 1) := by decide +kernel
theorem dX12_parts_27 : decode cX12_parts 27 = .ok (.imul, 1) := by decide +kernel
theorem dX12_parts_28 : decode cX12_parts 28 = .ok (.iload_n 2, 1) := by decide +kernel
theorem dX12_parts_29 : decode cX12_parts 29 = .ok (.iadd, 1) := by decide +kernel
theorem dX12_parts_30 : decode cX12_parts 30 = .ok (.iaload, 1) := by decide +kernel
theorem dX12_parts_31 : decode cX12_parts 31 = .ok (.goto 4, 3) := by decide +kernel
theorem dX12_parts_34 : decode cX12_parts 34 = .ok (.iconst (-1), 1) := by decide +kernel
theorem dX12_parts_35 : decode cX12_parts 35 = .ok (.ireturn, 1) := by decide +kernel
abbrev mX12_sells_0_e2 : ByteArray := .mk #[0x2a, 0x03, 0xb5, 0x00, 0x8c, 0x2a, 0x1b, 0xb6, 0x00, 0xf9, 0x99, 0x00, 0x2c, 0x1c, 0xb8, 0x01, 0x00, 0x99, 0x00, 0x25, 0x1d, 0xb8, 0x01, 0x00, 0x99, 0x00, 0x1e, 0x1c, 0x1d, 0x9f, 0x00, 0x19, 0x15, 0x05, 0x04, 0x10, 0x09, 0xb8, 0x00, 0x95, 0x99, 0x00, 0x0e, 0x15, 0x04, 0x04, 0x15, 0x05, 0xb8, 0x00, 0x95, 0x9a, 0x00, 0x05, 0x02, 0xac, 0x2a, 0xb4, 0x00, 0x17, 0x10, 0x08, 0x1b, 0x68, 0x1c, 0x60, 0x2e, 0x15, 0x04, 0x68, 0x15, 0x05]
theorem kmX12_sells_0_e2 : CK cX12_sells 0 mX12_sells_0_e2 := ck_of (by decide +kernel)
theorem dX12_sells_0 : decode cX12_sells 0 = .ok (.aload_n 0, 1) := rd_chunk (k := 0) (i := 0) kmX12_sells_0_e2 (by decide +kernel)
theorem dX12_sells_1 : decode cX12_sells 1 = .ok (.iconst 0, 1) := rd_chunk (k := 0) (i := 1) kmX12_sells_0_e2 (by decide +kernel)
theorem dX12_sells_2 : decode cX12_sells 2 = .ok (.putfield 140, 3) := rd_chunk (k := 0) (i := 2) kmX12_sells_0_e2 (by decide +kernel)
theorem dX12_sells_5 : decode cX12_sells 5 = .ok (.aload_n 0, 1) := rd_chunk (k := 0) (i := 5) kmX12_sells_0_e2 (by decide +kernel)
theorem dX12_sells_6 : decode cX12_sells 6 = .ok (.iload_n 1, 1) := rd_chunk (k := 0) (i := 6) kmX12_sells_0_e2 (by decide +kernel)
theorem dX12_sells_7 : decode cX12_sells 7 = .ok (.invokevirtual 249, 3) := rd_chunk (k := 0) (i := 7) kmX12_sells_0_e2 (by decide +kernel)
theorem dX12_sells_10 : decode cX12_sells 10 = .ok (.ifCond .eq 44, 3) := rd_chunk (k := 0) (i := 10) kmX12_sells_0_e2 (by decide +kernel)
theorem dX12_sells_13 : decode cX12_sells 13 = .ok (.iload_n 2, 1) := rd_chunk (k := 0) (i := 13) kmX12_sells_0_e2 (by decide +kernel)
theorem dX12_sells_14 : decode cX12_sells 14 = .ok (.invokestatic 256, 3) := rd_chunk (k := 0) (i := 14) kmX12_sells_0_e2 (by decide +kernel)
theorem dX12_sells_17 : decode cX12_sells 17 = .ok (.ifCond .eq 37, 3) := rd_chunk (k := 0) (i := 17) kmX12_sells_0_e2 (by decide +kernel)
theorem dX12_sells_20 : decode cX12_sells 20 = .ok (.iload_n 3, 1) := rd_chunk (k := 0) (i := 20) kmX12_sells_0_e2 (by decide +kernel)
theorem dX12_sells_21 : decode cX12_sells 21 = .ok (.invokestatic 256, 3) := rd_chunk (k := 0) (i := 21) kmX12_sells_0_e2 (by decide +kernel)
theorem dX12_sells_24 : decode cX12_sells 24 = .ok (.ifCond .eq 30, 3) := rd_chunk (k := 0) (i := 24) kmX12_sells_0_e2 (by decide +kernel)
theorem dX12_sells_27 : decode cX12_sells 27 = .ok (.iload_n 2, 1) := rd_chunk (k := 0) (i := 27) kmX12_sells_0_e2 (by decide +kernel)
theorem dX12_sells_28 : decode cX12_sells 28 = .ok (.iload_n 3, 1) := rd_chunk (k := 0) (i := 28) kmX12_sells_0_e2 (by decide +kernel)
theorem dX12_sells_29 : decode cX12_sells 29 = .ok (.if_icmp .eq 25, 3) := rd_chunk (k := 0) (i := 29) kmX12_sells_0_e2 (by decide +kernel)
theorem dX12_sells_32 : decode cX12_sells 32 = .ok (.iload 5, 2) := rd_chunk (k := 0) (i := 32) kmX12_sells_0_e2 (by decide +kernel)
theorem dX12_sells_34 : decode cX12_sells 34 = .ok (.iconst 1, 1) := rd_chunk (k := 0) (i := 34) kmX12_sells_0_e2 (by decide +kernel)
theorem dX12_sells_35 : decode cX12_sells 35 = .ok (.bipush 9, 2) := rd_chunk (k := 0) (i := 35) kmX12_sells_0_e2 (by decide +kernel)
theorem dX12_sells_37 : decode cX12_sells 37 = .ok (.invokestatic 149, 3) := rd_chunk (k := 0) (i := 37) kmX12_sells_0_e2 (by decide +kernel)
theorem dX12_sells_40 : decode cX12_sells 40 = .ok (.ifCond .eq 14, 3) := rd_chunk (k := 0) (i := 40) kmX12_sells_0_e2 (by decide +kernel)
theorem dX12_sells_43 : decode cX12_sells 43 = .ok (.iload 4, 2) := rd_chunk (k := 0) (i := 43) kmX12_sells_0_e2 (by decide +kernel)
theorem dX12_sells_45 : decode cX12_sells 45 = .ok (.iconst 1, 1) := rd_chunk (k := 0) (i := 45) kmX12_sells_0_e2 (by decide +kernel)
theorem dX12_sells_46 : decode cX12_sells 46 = .ok (.iload 5, 2) := rd_chunk (k := 0) (i := 46) kmX12_sells_0_e2 (by decide +kernel)
theorem dX12_sells_48 : decode cX12_sells 48 = .ok (.invokestatic 149, 3) := rd_chunk (k := 0) (i := 48) kmX12_sells_0_e2 (by decide +kernel)
theorem dX12_sells_51 : decode cX12_sells 51 = .ok (.ifCond .ne 5, 3) := rd_chunk (k := 0) (i := 51) kmX12_sells_0_e2 (by decide +kernel)
theorem dX12_sells_54 : decode cX12_sells 54 = .ok (.iconst (-1), 1) := rd_chunk (k := 0) (i := 54) kmX12_sells_0_e2 (by decide +kernel)
theorem dX12_sells_55 : decode cX12_sells 55 = .ok (.ireturn, 1) := rd_chunk (k := 0) (i := 55) kmX12_sells_0_e2 (by decide +kernel)
theorem dX12_sells_56 : decode cX12_sells 56 = .ok (.aload_n 0, 1) := rd_chunk (k := 0) (i := 56) kmX12_sells_0_e2 (by decide +kernel)
theorem dX12_sells_57 : decode cX12_sells 57 = .ok (.getfield 23, 3) := rd_chunk (k := 0) (i := 57) kmX12_sells_0_e2 (by decide +kernel)
theorem dX12_sells_60 : decode cX12_sells 60 = .ok (.bipush 8, 2) := rd_chunk (k := 0) (i := 60) kmX12_sells_0_e2 (by decide +kernel)
theorem dX12_sells_62 : decode cX12_sells 62 = .ok (.iload_n 1, 1) := rd_chunk (k := 0) (i := 62) kmX12_sells_0_e2 (by decide +kernel)
theorem dX12_sells_63 : decode cX12_sells 63 = .ok (.imul, 1) := rd_chunk (k := 0) (i := 63) kmX12_sells_0_e2 (by decide +kernel)
abbrev mX12_sells_64_e2 : ByteArray := .mk #[0x1c, 0x60, 0x2e, 0x15, 0x04, 0x68, 0x15, 0x05, 0x6c, 0x36, 0x06, 0x15, 0x06, 0x9a, 0x00, 0x05, 0x02, 0xac, 0x03, 0x36, 0x07, 0x15, 0x07, 0x2a, 0xb4, 0x00, 0x6b, 0xbe, 0xa2, 0x00, 0x17, 0x2a, 0xb4, 0x00, 0x6b, 0x15, 0x07, 0x2a, 0xb4, 0x00, 0x17, 0x15, 0x07, 0x2e, 0x4f, 0x84, 0x07, 0x01, 0xa7, 0xff, 0xe5, 0x2a, 0xb6, 0x01, 0x6f, 0x2a, 0xb4, 0x00, 0x17, 0x10, 0x08, 0x1b, 0x68, 0x1c, 0x60, 0x5c, 0x2e, 0x15, 0x06, 0x64, 0x4f, 0x2a]
theorem kmX12_sells_64_e2 : CK cX12_sells 64 mX12_sells_64_e2 := ck_of (by decide +kernel)
theorem dX12_sells_64 : decode cX12_sells 64 = .ok (.iload_n 2, 1) := rd_chunk (k := 64) (i := 0) kmX12_sells_64_e2 (by decide +kernel)
theorem dX12_sells_65 : decode cX12_sells 65 = .ok (.iadd, 1) := rd_chunk (k := 64) (i := 1) kmX12_sells_64_e2 (by decide +kernel)
theorem dX12_sells_66 : decode cX12_sells 66 = .ok (.iaload, 1) := rd_chunk (k := 64) (i := 2) kmX12_sells_64_e2 (by decide +kernel)
theorem dX12_sells_67 : decode cX12_sells 67 = .ok (.iload 4, 2) := rd_chunk (k := 64) (i := 3) kmX12_sells_64_e2 (by decide +kernel)
theorem dX12_sells_69 : decode cX12_sells 69 = .ok (.imul, 1) := rd_chunk (k := 64) (i := 5) kmX12_sells_64_e2 (by decide +kernel)
theorem dX12_sells_70 : decode cX12_sells 70 = .ok (.iload 5, 2) := rd_chunk (k := 64) (i := 6) kmX12_sells_64_e2 (by decide +kernel)
theorem dX12_sells_72 : decode cX12_sells 72 = .ok (.idiv, 1) := rd_chunk (k := 64) (i := 8) kmX12_sells_64_e2 (by decide +kernel)
theorem dX12_sells_73 : decode cX12_sells 73 = .ok (.istore 6, 2) := rd_chunk (k := 64) (i := 9) kmX12_sells_64_e2 (by decide +kernel)
theorem dX12_sells_75 : decode cX12_sells 75 = .ok (.iload 6, 2) := rd_chunk (k := 64) (i := 11) kmX12_sells_64_e2 (by decide +kernel)
theorem dX12_sells_77 : decode cX12_sells 77 = .ok (.ifCond .ne 5, 3) := rd_chunk (k := 64) (i := 13) kmX12_sells_64_e2 (by decide +kernel)
theorem dX12_sells_80 : decode cX12_sells 80 = .ok (.iconst (-1), 1) := rd_chunk (k := 64) (i := 16) kmX12_sells_64_e2 (by decide +kernel)
theorem dX12_sells_81 : decode cX12_sells 81 = .ok (.ireturn, 1) := rd_chunk (k := 64) (i := 17) kmX12_sells_64_e2 (by decide +kernel)
theorem dX12_sells_82 : decode cX12_sells 82 = .ok (.iconst 0, 1) := rd_chunk (k := 64) (i := 18) kmX12_sells_64_e2 (by decide +kernel)
theorem dX12_sells_83 : decode cX12_sells 83 = .ok (.istore 7, 2) := rd_chunk (k := 64) (i := 19) kmX12_sells_64_e2 (by decide +kernel)
theorem dX12_sells_85 : decode cX12_sells 85 = .ok (.iload 7, 2) := rd_chunk (k := 64) (i := 21) kmX12_sells_64_e2 (by decide +kernel)
theorem dX12_sells_87 : decode cX12_sells 87 = .ok (.aload_n 0, 1) := rd_chunk (k := 64) (i := 23) kmX12_sells_64_e2 (by decide +kernel)
theorem dX12_sells_88 : decode cX12_sells 88 = .ok (.getfield 107, 3) := rd_chunk (k := 64) (i := 24) kmX12_sells_64_e2 (by decide +kernel)
theorem dX12_sells_91 : decode cX12_sells 91 = .ok (.arraylength, 1) := rd_chunk (k := 64) (i := 27) kmX12_sells_64_e2 (by decide +kernel)
theorem dX12_sells_92 : decode cX12_sells 92 = .ok (.if_icmp .ge 23, 3) := rd_chunk (k := 64) (i := 28) kmX12_sells_64_e2 (by decide +kernel)
theorem dX12_sells_95 : decode cX12_sells 95 = .ok (.aload_n 0, 1) := rd_chunk (k := 64) (i := 31) kmX12_sells_64_e2 (by decide +kernel)
theorem dX12_sells_96 : decode cX12_sells 96 = .ok (.getfield 107, 3) := rd_chunk (k := 64) (i := 32) kmX12_sells_64_e2 (by decide +kernel)
theorem dX12_sells_99 : decode cX12_sells 99 = .ok (.iload 7, 2) := rd_chunk (k := 64) (i := 35) kmX12_sells_64_e2 (by decide +kernel)
theorem dX12_sells_101 : decode cX12_sells 101 = .ok (.aload_n 0, 1) := rd_chunk (k := 64) (i := 37) kmX12_sells_64_e2 (by decide +kernel)
theorem dX12_sells_102 : decode cX12_sells 102 = .ok (.getfield 23, 3) := rd_chunk (k := 64) (i := 38) kmX12_sells_64_e2 (by decide +kernel)
theorem dX12_sells_105 : decode cX12_sells 105 = .ok (.iload 7, 2) := rd_chunk (k := 64) (i := 41) kmX12_sells_64_e2 (by decide +kernel)
theorem dX12_sells_107 : decode cX12_sells 107 = .ok (.iaload, 1) := rd_chunk (k := 64) (i := 43) kmX12_sells_64_e2 (by decide +kernel)
theorem dX12_sells_108 : decode cX12_sells 108 = .ok (.iastore, 1) := rd_chunk (k := 64) (i := 44) kmX12_sells_64_e2 (by decide +kernel)
theorem dX12_sells_109 : decode cX12_sells 109 = .ok (.iinc 7 1, 3) := rd_chunk (k := 64) (i := 45) kmX12_sells_64_e2 (by decide +kernel)
theorem dX12_sells_112 : decode cX12_sells 112 = .ok (.goto (-27), 3) := rd_chunk (k := 64) (i := 48) kmX12_sells_64_e2 (by decide +kernel)
theorem dX12_sells_115 : decode cX12_sells 115 = .ok (.aload_n 0, 1) := rd_chunk (k := 64) (i := 51) kmX12_sells_64_e2 (by decide +kernel)
theorem dX12_sells_116 : decode cX12_sells 116 = .ok (.invokevirtual 367, 3) := rd_chunk (k := 64) (i := 52) kmX12_sells_64_e2 (by decide +kernel)
theorem dX12_sells_119 : decode cX12_sells 119 = .ok (.aload_n 0, 1) := rd_chunk (k := 64) (i := 55) kmX12_sells_64_e2 (by decide +kernel)
theorem dX12_sells_120 : decode cX12_sells 120 = .ok (.getfield 23, 3) := rd_chunk (k := 64) (i := 56) kmX12_sells_64_e2 (by decide +kernel)
theorem dX12_sells_123 : decode cX12_sells 123 = .ok (.bipush 8, 2) := rd_chunk (k := 64) (i := 59) kmX12_sells_64_e2 (by decide +kernel)
theorem dX12_sells_125 : decode cX12_sells 125 = .ok (.iload_n 1, 1) := rd_chunk (k := 64) (i := 61) kmX12_sells_64_e2 (by decide +kernel)
theorem dX12_sells_126 : decode cX12_sells 126 = .ok (.imul, 1) := rd_chunk (k := 64) (i := 62) kmX12_sells_64_e2 (by decide +kernel)
theorem dX12_sells_127 : decode cX12_sells 127 = .ok (.iload_n 2, 1) := rd_chunk (k := 64) (i := 63) kmX12_sells_64_e2 (by decide +kernel)
abbrev mX12_sells_128_e2 : ByteArray := .mk #[0x60, 0x5c, 0x2e, 0x15, 0x06, 0x64, 0x4f, 0x2a, 0xb4, 0x00, 0x17, 0x10, 0x08, 0x1b, 0x68, 0x1d, 0x60, 0x5c, 0x2e, 0x15, 0x06, 0x60, 0x4f, 0x15, 0x06, 0xac]
theorem kmX12_sells_128_e2 : CK cX12_sells 128 mX12_sells_128_e2 := ck_of (by decide +kernel)
theorem dX12_sells_128 : decode cX12_sells 128 = .ok (.iadd, 1) := rd_chunk (k := 128) (i := 0) kmX12_sells_128_e2 (by decide +kernel)
theorem dX12_sells_129 : decode cX12_sells 129 = .ok (.dup2, 1) := rd_chunk (k := 128) (i := 1) kmX12_sells_128_e2 (by decide +kernel)
theorem dX12_sells_130 : decode cX12_sells 130 = .ok (.iaload, 1) := rd_chunk (k := 128) (i := 2) kmX12_sells_128_e2 (by decide +kernel)
theorem dX12_sells_131 : decode cX12_sells 131 = .ok (.iload 6, 2) := rd_chunk (k := 128) (i := 3) kmX12_sells_128_e2 (by decide +kernel)
theorem dX12_sells_133 : decode cX12_sells 133 = .ok (.isub, 1) := rd_chunk (k := 128) (i := 5) kmX12_sells_128_e2 (by decide +kernel)
theorem dX12_sells_134 : decode cX12_sells 134 = .ok (.iastore, 1) := rd_chunk (k := 128) (i := 6) kmX12_sells_128_e2 (by decide +kernel)
theorem dX12_sells_135 : decode cX12_sells 135 = .ok (.aload_n 0, 1) := rd_chunk (k := 128) (i := 7) kmX12_sells_128_e2 (by decide +kernel)
theorem dX12_sells_136 : decode cX12_sells 136 = .ok (.getfield 23, 3) := rd_chunk (k := 128) (i := 8) kmX12_sells_128_e2 (by decide +kernel)
theorem dX12_sells_139 : decode cX12_sells 139 = .ok (.bipush 8, 2) := rd_chunk (k := 128) (i := 11) kmX12_sells_128_e2 (by decide +kernel)
theorem dX12_sells_141 : decode cX12_sells 141 = .ok (.iload_n 1, 1) := rd_chunk (k := 128) (i := 13) kmX12_sells_128_e2 (by decide +kernel)
theorem dX12_sells_142 : decode cX12_sells 142 = .ok (.imul, 1) := rd_chunk (k := 128) (i := 14) kmX12_sells_128_e2 (by decide +kernel)
theorem dX12_sells_143 : decode cX12_sells 143 = .ok (.iload_n 3, 1) := rd_chunk (k := 128) (i := 15) kmX12_sells_128_e2 (by decide +kernel)
theorem dX12_sells_144 : decode cX12_sells 144 = .ok (.iadd, 1) := rd_chunk (k := 128) (i := 16) kmX12_sells_128_e2 (by decide +kernel)
theorem dX12_sells_145 : decode cX12_sells 145 = .ok (.dup2, 1) := rd_chunk (k := 128) (i := 17) kmX12_sells_128_e2 (by decide +kernel)
theorem dX12_sells_146 : decode cX12_sells 146 = .ok (.iaload, 1) := rd_chunk (k := 128) (i := 18) kmX12_sells_128_e2 (by decide +kernel)
theorem dX12_sells_147 : decode cX12_sells 147 = .ok (.iload 6, 2) := rd_chunk (k := 128) (i := 19) kmX12_sells_128_e2 (by decide +kernel)
theorem dX12_sells_149 : decode cX12_sells 149 = .ok (.iadd, 1) := rd_chunk (k := 128) (i := 21) kmX12_sells_128_e2 (by decide +kernel)
theorem dX12_sells_150 : decode cX12_sells 150 = .ok (.iastore, 1) := rd_chunk (k := 128) (i := 22) kmX12_sells_128_e2 (by decide +kernel)
theorem dX12_sells_151 : decode cX12_sells 151 = .ok (.iload 6, 2) := rd_chunk (k := 128) (i := 23) kmX12_sells_128_e2 (by decide +kernel)
theorem dX12_sells_153 : decode cX12_sells 153 = .ok (.ireturn, 1) := rd_chunk (k := 128) (i := 25) kmX12_sells_128_e2 (by decide +kernel)
abbrev mX12_dies_0_e2 : ByteArray := .mk #[0x2a, 0x03, 0xb5, 0x00, 0x8c, 0x1b, 0xb8, 0x01, 0x00, 0x99, 0x00, 0x16, 0x1c, 0x04, 0x11, 0x00, 0xff, 0xb8, 0x00, 0x95, 0x99, 0x00, 0x0b, 0x1c, 0x1b, 0xb8, 0x01, 0x23, 0x99, 0x00, 0x05, 0x02, 0xac, 0x03, 0x3e, 0x1d, 0x2a, 0xb4, 0x00, 0x6b, 0xbe, 0xa2, 0x00, 0x15, 0x2a, 0xb4, 0x00, 0x6b, 0x1d, 0x2a, 0xb4, 0x00, 0x17, 0x1d, 0x2e, 0x4f, 0x84, 0x03, 0x01, 0xa7, 0xff, 0xe8, 0x1c, 0xb8, 0x01, 0x72, 0x3e, 0x03, 0x36, 0x04, 0x03, 0x36]
theorem kmX12_dies_0_e2 : CK cX12_dies 0 mX12_dies_0_e2 := ck_of (by decide +kernel)
theorem dX12_dies_0 : decode cX12_dies 0 = .ok (.aload_n 0, 1) := rd_chunk (k := 0) (i := 0) kmX12_dies_0_e2 (by decide +kernel)
theorem dX12_dies_1 : decode cX12_dies 1 = .ok (.iconst 0, 1) := rd_chunk (k := 0) (i := 1) kmX12_dies_0_e2 (by decide +kernel)
theorem dX12_dies_2 : decode cX12_dies 2 = .ok (.putfield 140, 3) := rd_chunk (k := 0) (i := 2) kmX12_dies_0_e2 (by decide +kernel)
theorem dX12_dies_5 : decode cX12_dies 5 = .ok (.iload_n 1, 1) := rd_chunk (k := 0) (i := 5) kmX12_dies_0_e2 (by decide +kernel)
theorem dX12_dies_6 : decode cX12_dies 6 = .ok (.invokestatic 256, 3) := rd_chunk (k := 0) (i := 6) kmX12_dies_0_e2 (by decide +kernel)
theorem dX12_dies_9 : decode cX12_dies 9 = .ok (.ifCond .eq 22, 3) := rd_chunk (k := 0) (i := 9) kmX12_dies_0_e2 (by decide +kernel)
theorem dX12_dies_12 : decode cX12_dies 12 = .ok (.iload_n 2, 1) := rd_chunk (k := 0) (i := 12) kmX12_dies_0_e2 (by decide +kernel)
theorem dX12_dies_13 : decode cX12_dies 13 = .ok (.iconst 1, 1) := rd_chunk (k := 0) (i := 13) kmX12_dies_0_e2 (by decide +kernel)
theorem dX12_dies_14 : decode cX12_dies 14 = .ok (.sipush 255, 3) := rd_chunk (k := 0) (i := 14) kmX12_dies_0_e2 (by decide +kernel)
theorem dX12_dies_17 : decode cX12_dies 17 = .ok (.invokestatic 149, 3) := rd_chunk (k := 0) (i := 17) kmX12_dies_0_e2 (by decide +kernel)
theorem dX12_dies_20 : decode cX12_dies 20 = .ok (.ifCond .eq 11, 3) := rd_chunk (k := 0) (i := 20) kmX12_dies_0_e2 (by decide +kernel)
theorem dX12_dies_23 : decode cX12_dies 23 = .ok (.iload_n 2, 1) := rd_chunk (k := 0) (i := 23) kmX12_dies_0_e2 (by decide +kernel)
theorem dX12_dies_24 : decode cX12_dies 24 = .ok (.iload_n 1, 1) := rd_chunk (k := 0) (i := 24) kmX12_dies_0_e2 (by decide +kernel)
theorem dX12_dies_25 : decode cX12_dies 25 = .ok (.invokestatic 291, 3) := rd_chunk (k := 0) (i := 25) kmX12_dies_0_e2 (by decide +kernel)
theorem dX12_dies_28 : decode cX12_dies 28 = .ok (.ifCond .eq 5, 3) := rd_chunk (k := 0) (i := 28) kmX12_dies_0_e2 (by decide +kernel)
theorem dX12_dies_31 : decode cX12_dies 31 = .ok (.iconst (-1), 1) := rd_chunk (k := 0) (i := 31) kmX12_dies_0_e2 (by decide +kernel)
theorem dX12_dies_32 : decode cX12_dies 32 = .ok (.ireturn, 1) := rd_chunk (k := 0) (i := 32) kmX12_dies_0_e2 (by decide +kernel)
theorem dX12_dies_33 : decode cX12_dies 33 = .ok (.iconst 0, 1) := rd_chunk (k := 0) (i := 33) kmX12_dies_0_e2 (by decide +kernel)
theorem dX12_dies_34 : decode cX12_dies 34 = .ok (.istore_n 3, 1) := rd_chunk (k := 0) (i := 34) kmX12_dies_0_e2 (by decide +kernel)
theorem dX12_dies_35 : decode cX12_dies 35 = .ok (.iload_n 3, 1) := rd_chunk (k := 0) (i := 35) kmX12_dies_0_e2 (by decide +kernel)
theorem dX12_dies_36 : decode cX12_dies 36 = .ok (.aload_n 0, 1) := rd_chunk (k := 0) (i := 36) kmX12_dies_0_e2 (by decide +kernel)
theorem dX12_dies_37 : decode cX12_dies 37 = .ok (.getfield 107, 3) := rd_chunk (k := 0) (i := 37) kmX12_dies_0_e2 (by decide +kernel)
theorem dX12_dies_40 : decode cX12_dies 40 = .ok (.arraylength, 1) := rd_chunk (k := 0) (i := 40) kmX12_dies_0_e2 (by decide +kernel)
theorem dX12_dies_41 : decode cX12_dies 41 = .ok (.if_icmp .ge 21, 3) := rd_chunk (k := 0) (i := 41) kmX12_dies_0_e2 (by decide +kernel)
theorem dX12_dies_44 : decode cX12_dies 44 = .ok (.aload_n 0, 1) := rd_chunk (k := 0) (i := 44) kmX12_dies_0_e2 (by decide +kernel)
theorem dX12_dies_45 : decode cX12_dies 45 = .ok (.getfield 107, 3) := rd_chunk (k := 0) (i := 45) kmX12_dies_0_e2 (by decide +kernel)
theorem dX12_dies_48 : decode cX12_dies 48 = .ok (.iload_n 3, 1) := rd_chunk (k := 0) (i := 48) kmX12_dies_0_e2 (by decide +kernel)
theorem dX12_dies_49 : decode cX12_dies 49 = .ok (.aload_n 0, 1) := rd_chunk (k := 0) (i := 49) kmX12_dies_0_e2 (by decide +kernel)
theorem dX12_dies_50 : decode cX12_dies 50 = .ok (.getfield 23, 3) := rd_chunk (k := 0) (i := 50) kmX12_dies_0_e2 (by decide +kernel)
theorem dX12_dies_53 : decode cX12_dies 53 = .ok (.iload_n 3, 1) := rd_chunk (k := 0) (i := 53) kmX12_dies_0_e2 (by decide +kernel)
theorem dX12_dies_54 : decode cX12_dies 54 = .ok (.iaload, 1) := rd_chunk (k := 0) (i := 54) kmX12_dies_0_e2 (by decide +kernel)
theorem dX12_dies_55 : decode cX12_dies 55 = .ok (.iastore, 1) := rd_chunk (k := 0) (i := 55) kmX12_dies_0_e2 (by decide +kernel)
theorem dX12_dies_56 : decode cX12_dies 56 = .ok (.iinc 3 1, 3) := rd_chunk (k := 0) (i := 56) kmX12_dies_0_e2 (by decide +kernel)
theorem dX12_dies_59 : decode cX12_dies 59 = .ok (.goto (-24), 3) := rd_chunk (k := 0) (i := 59) kmX12_dies_0_e2 (by decide +kernel)
theorem dX12_dies_62 : decode cX12_dies 62 = .ok (.iload_n 2, 1) := rd_chunk (k := 0) (i := 62) kmX12_dies_0_e2 (by decide +kernel)
theorem dX12_dies_63 : decode cX12_dies 63 = .ok (.invokestatic 370, 3) := rd_chunk (k := 0) (i := 63) kmX12_dies_0_e2 (by decide +kernel)
abbrev mX12_dies_64_e2 : ByteArray := .mk #[0x01, 0x72, 0x3e, 0x03, 0x36, 0x04, 0x03, 0x36, 0x05, 0x15, 0x05, 0x2a, 0xb4, 0x00, 0x92, 0xa2, 0x00, 0x70, 0x2a, 0xb4, 0x00, 0x17, 0x10, 0x08, 0x15, 0x05, 0x68, 0x1b, 0x60, 0x2e, 0x36, 0x06, 0x2a, 0xb4, 0x00, 0x17, 0x10, 0x08, 0x15, 0x05, 0x68, 0x1b, 0x60, 0x03, 0x4f, 0x03, 0x36, 0x07, 0x03, 0x36, 0x08, 0x15, 0x08, 0x10, 0x08, 0xa2, 0x00, 0x3b, 0x1c, 0x15, 0x08, 0xb8, 0x01, 0x23, 0x9a, 0x00, 0x06, 0xa7, 0x00, 0x29, 0x2a, 0xb4]
theorem kmX12_dies_64_e2 : CK cX12_dies 64 mX12_dies_64_e2 := ck_of (by decide +kernel)
theorem dX12_dies_66 : decode cX12_dies 66 = .ok (.istore_n 3, 1) := rd_chunk (k := 64) (i := 2) kmX12_dies_64_e2 (by decide +kernel)
theorem dX12_dies_67 : decode cX12_dies 67 = .ok (.iconst 0, 1) := rd_chunk (k := 64) (i := 3) kmX12_dies_64_e2 (by decide +kernel)
theorem dX12_dies_68 : decode cX12_dies 68 = .ok (.istore 4, 2) := rd_chunk (k := 64) (i := 4) kmX12_dies_64_e2 (by decide +kernel)
theorem dX12_dies_70 : decode cX12_dies 70 = .ok (.iconst 0, 1) := rd_chunk (k := 64) (i := 6) kmX12_dies_64_e2 (by decide +kernel)
theorem dX12_dies_71 : decode cX12_dies 71 = .ok (.istore 5, 2) := rd_chunk (k := 64) (i := 7) kmX12_dies_64_e2 (by decide +kernel)
theorem dX12_dies_73 : decode cX12_dies 73 = .ok (.iload 5, 2) := rd_chunk (k := 64) (i := 9) kmX12_dies_64_e2 (by decide +kernel)
theorem dX12_dies_75 : decode cX12_dies 75 = .ok (.aload_n 0, 1) := rd_chunk (k := 64) (i := 11) kmX12_dies_64_e2 (by decide +kernel)
theorem dX12_dies_76 : decode cX12_dies 76 = .ok (.getfield 146, 3) := rd_chunk (k := 64) (i := 12) kmX12_dies_64_e2 (by decide +kernel)
theorem dX12_dies_79 : decode cX12_dies 79 = .ok (.if_icmp .ge 112, 3) := rd_chunk (k := 64) (i := 15) kmX12_dies_64_e2 (by decide +kernel)
theorem dX12_dies_82 : decode cX12_dies 82 = .ok (.aload_n 0, 1) := rd_chunk (k := 64) (i := 18) kmX12_dies_64_e2 (by decide +kernel)
theorem dX12_dies_83 : decode cX12_dies 83 = .ok (.getfield 23, 3) := rd_chunk (k := 64) (i := 19) kmX12_dies_64_e2 (by decide +kernel)
theorem dX12_dies_86 : decode cX12_dies 86 = .ok (.bipush 8, 2) := rd_chunk (k := 64) (i := 22) kmX12_dies_64_e2 (by decide +kernel)
theorem dX12_dies_88 : decode cX12_dies 88 = .ok (.iload 5, 2) := rd_chunk (k := 64) (i := 24) kmX12_dies_64_e2 (by decide +kernel)
theorem dX12_dies_90 : decode cX12_dies 90 = .ok (.imul, 1) := rd_chunk (k := 64) (i := 26) kmX12_dies_64_e2 (by decide +kernel)
theorem dX12_dies_91 : decode cX12_dies 91 = .ok (.iload_n 1, 1) := rd_chunk (k := 64) (i := 27) kmX12_dies_64_e2 (by decide +kernel)
theorem dX12_dies_92 : decode cX12_dies 92 = .ok (.iadd, 1) := rd_chunk (k := 64) (i := 28) kmX12_dies_64_e2 (by decide +kernel)
theorem dX12_dies_93 : decode cX12_dies 93 = .ok (.iaload, 1) := rd_chunk (k := 64) (i := 29) kmX12_dies_64_e2 (by decide +kernel)
theorem dX12_dies_94 : decode cX12_dies 94 = .ok (.istore 6, 2) := rd_chunk (k := 64) (i := 30) kmX12_dies_64_e2 (by decide +kernel)
theorem dX12_dies_96 : decode cX12_dies 96 = .ok (.aload_n 0, 1) := rd_chunk (k := 64) (i := 32) kmX12_dies_64_e2 (by decide +kernel)
theorem dX12_dies_97 : decode cX12_dies 97 = .ok (.getfield 23, 3) := rd_chunk (k := 64) (i := 33) kmX12_dies_64_e2 (by decide +kernel)
theorem dX12_dies_100 : decode cX12_dies 100 = .ok (.bipush 8, 2) := rd_chunk (k := 64) (i := 36) kmX12_dies_64_e2 (by decide +kernel)
theorem dX12_dies_102 : decode cX12_dies 102 = .ok (.iload 5, 2) := rd_chunk (k := 64) (i := 38) kmX12_dies_64_e2 (by decide +kernel)
theorem dX12_dies_104 : decode cX12_dies 104 = .ok (.imul, 1) := rd_chunk (k := 64) (i := 40) kmX12_dies_64_e2 (by decide +kernel)
theorem dX12_dies_105 : decode cX12_dies 105 = .ok (.iload_n 1, 1) := rd_chunk (k := 64) (i := 41) kmX12_dies_64_e2 (by decide +kernel)
theorem dX12_dies_106 : decode cX12_dies 106 = .ok (.iadd, 1) := rd_chunk (k := 64) (i := 42) kmX12_dies_64_e2 (by decide +kernel)
theorem dX12_dies_107 : decode cX12_dies 107 = .ok (.iconst 0, 1) := rd_chunk (k := 64) (i := 43) kmX12_dies_64_e2 (by decide +kernel)
theorem dX12_dies_108 : decode cX12_dies 108 = .ok (.iastore, 1) := rd_chunk (k := 64) (i := 44) kmX12_dies_64_e2 (by decide +kernel)
theorem dX12_dies_109 : decode cX12_dies 109 = .ok (.iconst 0, 1) := rd_chunk (k := 64) (i := 45) kmX12_dies_64_e2 (by decide +kernel)
theorem dX12_dies_110 : decode cX12_dies 110 = .ok (.istore 7, 2) := rd_chunk (k := 64) (i := 46) kmX12_dies_64_e2 (by decide +kernel)
theorem dX12_dies_112 : decode cX12_dies 112 = .ok (.iconst 0, 1) := rd_chunk (k := 64) (i := 48) kmX12_dies_64_e2 (by decide +kernel)
theorem dX12_dies_113 : decode cX12_dies 113 = .ok (.istore 8, 2) := rd_chunk (k := 64) (i := 49) kmX12_dies_64_e2 (by decide +kernel)
theorem dX12_dies_115 : decode cX12_dies 115 = .ok (.iload 8, 2) := rd_chunk (k := 64) (i := 51) kmX12_dies_64_e2 (by decide +kernel)
theorem dX12_dies_117 : decode cX12_dies 117 = .ok (.bipush 8, 2) := rd_chunk (k := 64) (i := 53) kmX12_dies_64_e2 (by decide +kernel)
theorem dX12_dies_119 : decode cX12_dies 119 = .ok (.if_icmp .ge 59, 3) := rd_chunk (k := 64) (i := 55) kmX12_dies_64_e2 (by decide +kernel)
theorem dX12_dies_122 : decode cX12_dies 122 = .ok (.iload_n 2, 1) := rd_chunk (k := 64) (i := 58) kmX12_dies_64_e2 (by decide +kernel)
theorem dX12_dies_123 : decode cX12_dies 123 = .ok (.iload 8, 2) := rd_chunk (k := 64) (i := 59) kmX12_dies_64_e2 (by decide +kernel)
theorem dX12_dies_125 : decode cX12_dies 125 = .ok (.invokestatic 291, 3) := rd_chunk (k := 64) (i := 61) kmX12_dies_64_e2 (by decide +kernel)
abbrev mX12_dies_128_e2 : ByteArray := .mk #[0x9a, 0x00, 0x06, 0xa7, 0x00, 0x29, 0x2a, 0xb4, 0x00, 0x17, 0x10, 0x08, 0x15, 0x05, 0x68, 0x15, 0x08, 0x60, 0x5c, 0x2e, 0x15, 0x06, 0x1d, 0x6c, 0x15, 0x07, 0x15, 0x06, 0x1d, 0x70, 0xa2, 0x00, 0x07, 0x04, 0xa7, 0x00, 0x04, 0x03, 0x60, 0x60, 0x4f, 0x84, 0x07, 0x01, 0x84, 0x08, 0x01, 0xa7, 0xff, 0xc4, 0x15, 0x04, 0x15, 0x06, 0x60, 0x36, 0x04, 0x84, 0x05, 0x01, 0xa7, 0xff, 0x8d, 0x15, 0x04, 0x9e, 0x00, 0x07, 0x2a, 0xb6, 0x01, 0x6f]
theorem kmX12_dies_128_e2 : CK cX12_dies 128 mX12_dies_128_e2 := ck_of (by decide +kernel)
theorem dX12_dies_128 : decode cX12_dies 128 = .ok (.ifCond .ne 6, 3) := rd_chunk (k := 128) (i := 0) kmX12_dies_128_e2 (by decide +kernel)
theorem dX12_dies_131 : decode cX12_dies 131 = .ok (.goto 41, 3) := rd_chunk (k := 128) (i := 3) kmX12_dies_128_e2 (by decide +kernel)
theorem dX12_dies_134 : decode cX12_dies 134 = .ok (.aload_n 0, 1) := rd_chunk (k := 128) (i := 6) kmX12_dies_128_e2 (by decide +kernel)
theorem dX12_dies_135 : decode cX12_dies 135 = .ok (.getfield 23, 3) := rd_chunk (k := 128) (i := 7) kmX12_dies_128_e2 (by decide +kernel)
theorem dX12_dies_138 : decode cX12_dies 138 = .ok (.bipush 8, 2) := rd_chunk (k := 128) (i := 10) kmX12_dies_128_e2 (by decide +kernel)
theorem dX12_dies_140 : decode cX12_dies 140 = .ok (.iload 5, 2) := rd_chunk (k := 128) (i := 12) kmX12_dies_128_e2 (by decide +kernel)
theorem dX12_dies_142 : decode cX12_dies 142 = .ok (.imul, 1) := rd_chunk (k := 128) (i := 14) kmX12_dies_128_e2 (by decide +kernel)
theorem dX12_dies_143 : decode cX12_dies 143 = .ok (.iload 8, 2) := rd_chunk (k := 128) (i := 15) kmX12_dies_128_e2 (by decide +kernel)
theorem dX12_dies_145 : decode cX12_dies 145 = .ok (.iadd, 1) := rd_chunk (k := 128) (i := 17) kmX12_dies_128_e2 (by decide +kernel)
theorem dX12_dies_146 : decode cX12_dies 146 = .ok (.dup2, 1) := rd_chunk (k := 128) (i := 18) kmX12_dies_128_e2 (by decide +kernel)
theorem dX12_dies_147 : decode cX12_dies 147 = .ok (.iaload, 1) := rd_chunk (k := 128) (i := 19) kmX12_dies_128_e2 (by decide +kernel)
theorem dX12_dies_148 : decode cX12_dies 148 = .ok (.iload 6, 2) := rd_chunk (k := 128) (i := 20) kmX12_dies_128_e2 (by decide +kernel)
theorem dX12_dies_150 : decode cX12_dies 150 = .ok (.iload_n 3, 1) := rd_chunk (k := 128) (i := 22) kmX12_dies_128_e2 (by decide +kernel)
theorem dX12_dies_151 : decode cX12_dies 151 = .ok (.idiv, 1) := rd_chunk (k := 128) (i := 23) kmX12_dies_128_e2 (by decide +kernel)
theorem dX12_dies_152 : decode cX12_dies 152 = .ok (.iload 7, 2) := rd_chunk (k := 128) (i := 24) kmX12_dies_128_e2 (by decide +kernel)
theorem dX12_dies_154 : decode cX12_dies 154 = .ok (.iload 6, 2) := rd_chunk (k := 128) (i := 26) kmX12_dies_128_e2 (by decide +kernel)
theorem dX12_dies_156 : decode cX12_dies 156 = .ok (.iload_n 3, 1) := rd_chunk (k := 128) (i := 28) kmX12_dies_128_e2 (by decide +kernel)
theorem dX12_dies_157 : decode cX12_dies 157 = .ok (.irem, 1) := rd_chunk (k := 128) (i := 29) kmX12_dies_128_e2 (by decide +kernel)
theorem dX12_dies_158 : decode cX12_dies 158 = .ok (.if_icmp .ge 7, 3) := rd_chunk (k := 128) (i := 30) kmX12_dies_128_e2 (by decide +kernel)
theorem dX12_dies_161 : decode cX12_dies 161 = .ok (.iconst 1, 1) := rd_chunk (k := 128) (i := 33) kmX12_dies_128_e2 (by decide +kernel)
theorem dX12_dies_162 : decode cX12_dies 162 = .ok (.goto 4, 3) := rd_chunk (k := 128) (i := 34) kmX12_dies_128_e2 (by decide +kernel)
theorem dX12_dies_165 : decode cX12_dies 165 = .ok (.iconst 0, 1) := rd_chunk (k := 128) (i := 37) kmX12_dies_128_e2 (by decide +kernel)
theorem dX12_dies_166 : decode cX12_dies 166 = .ok (.iadd, 1) := rd_chunk (k := 128) (i := 38) kmX12_dies_128_e2 (by decide +kernel)
theorem dX12_dies_167 : decode cX12_dies 167 = .ok (.iadd, 1) := rd_chunk (k := 128) (i := 39) kmX12_dies_128_e2 (by decide +kernel)
theorem dX12_dies_168 : decode cX12_dies 168 = .ok (.iastore, 1) := rd_chunk (k := 128) (i := 40) kmX12_dies_128_e2 (by decide +kernel)
theorem dX12_dies_169 : decode cX12_dies 169 = .ok (.iinc 7 1, 3) := rd_chunk (k := 128) (i := 41) kmX12_dies_128_e2 (by decide +kernel)
theorem dX12_dies_172 : decode cX12_dies 172 = .ok (.iinc 8 1, 3) := rd_chunk (k := 128) (i := 44) kmX12_dies_128_e2 (by decide +kernel)
theorem dX12_dies_175 : decode cX12_dies 175 = .ok (.goto (-60), 3) := rd_chunk (k := 128) (i := 47) kmX12_dies_128_e2 (by decide +kernel)
theorem dX12_dies_178 : decode cX12_dies 178 = .ok (.iload 4, 2) := rd_chunk (k := 128) (i := 50) kmX12_dies_128_e2 (by decide +kernel)
theorem dX12_dies_180 : decode cX12_dies 180 = .ok (.iload 6, 2) := rd_chunk (k := 128) (i := 52) kmX12_dies_128_e2 (by decide +kernel)
theorem dX12_dies_182 : decode cX12_dies 182 = .ok (.iadd, 1) := rd_chunk (k := 128) (i := 54) kmX12_dies_128_e2 (by decide +kernel)
theorem dX12_dies_183 : decode cX12_dies 183 = .ok (.istore 4, 2) := rd_chunk (k := 128) (i := 55) kmX12_dies_128_e2 (by decide +kernel)
theorem dX12_dies_185 : decode cX12_dies 185 = .ok (.iinc 5 1, 3) := rd_chunk (k := 128) (i := 57) kmX12_dies_128_e2 (by decide +kernel)
theorem dX12_dies_188 : decode cX12_dies 188 = .ok (.goto (-115), 3) := rd_chunk (k := 128) (i := 60) kmX12_dies_128_e2 (by decide +kernel)
theorem dX12_dies_191 : decode cX12_dies 191 = .ok (.iload 4, 2) := rd_chunk (k := 128) (i := 63) kmX12_dies_128_e2 (by decide +kernel)
abbrev mX12_dies_192_e2 : ByteArray := .mk #[0x04, 0x9e, 0x00, 0x07, 0x2a, 0xb6, 0x01, 0x6f, 0x15, 0x04, 0xac]
theorem kmX12_dies_192_e2 : CK cX12_dies 192 mX12_dies_192_e2 := ck_of (by decide +kernel)
theorem dX12_dies_193 : decode cX12_dies 193 = .ok (.ifCond .le 7, 3) := rd_chunk (k := 192) (i := 1) kmX12_dies_192_e2 (by decide +kernel)
theorem dX12_dies_196 : decode cX12_dies 196 = .ok (.aload_n 0, 1) := rd_chunk (k := 192) (i := 4) kmX12_dies_192_e2 (by decide +kernel)
theorem dX12_dies_197 : decode cX12_dies 197 = .ok (.invokevirtual 367, 3) := rd_chunk (k := 192) (i := 5) kmX12_dies_192_e2 (by decide +kernel)
theorem dX12_dies_200 : decode cX12_dies 200 = .ok (.iload 4, 2) := rd_chunk (k := 192) (i := 8) kmX12_dies_192_e2 (by decide +kernel)
theorem dX12_dies_202 : decode cX12_dies 202 = .ok (.ireturn, 1) := rd_chunk (k := 192) (i := 10) kmX12_dies_192_e2 (by decide +kernel)
theorem dX12_undo_0 : decode cX12_undo 0 = .ok (.aload_n 0, 1) := by decide +kernel
theorem dX12_undo_1 : decode cX12_undo 1 = .ok (.iconst 0, 1) := by decide +kernel
theorem dX12_undo_2 : decode cX12_undo 2 = .ok (.putfield 140, 3) := by decide +kernel
theorem dX12_undo_5 : decode cX12_undo 5 = .ok (.aload_n 0, 1) := by decide +kernel
theorem dX12_undo_6 : decode cX12_undo 6 = .ok (.getfield 201, 3) := by decide +kernel
theorem dX12_undo_9 : decode cX12_undo 9 = .ok (.ifCond .ne 5, 3) := by decide +kernel
theorem dX12_undo_12 : decode cX12_undo 12 = .ok (.iconst (-1), 1) := by decide +kernel
theorem dX12_undo_13 : decode cX12_undo 13 = .ok (.ireturn, 1) := by decide +kernel
theorem dX12_undo_14 : decode cX12_undo 14 = .ok (.aload_n 0, 1) := by decide +kernel
theorem dX12_undo_15 : decode cX12_undo 15 = .ok (.dup, 1) := by decide +kernel
theorem dX12_undo_16 : decode cX12_undo 16 = .ok (.getfield 201, 3) := by decide +kernel
theorem dX12_undo_19 : decode cX12_undo 19 = .ok (.iconst 1, 1) := by decide +kernel
theorem dX12_undo_20 : decode cX12_undo 20 = .ok (.isub, 1) := by decide +kernel
theorem dX12_undo_21 : decode cX12_undo 21 = .ok (.putfield 201, 3) := by decide +kernel
theorem dX12_undo_24 : decode cX12_undo 24 = .ok (.iconst 0, 1) := by decide +kernel
theorem dX12_undo_25 : decode cX12_undo 25 = .ok (.istore_n 1, 1) := by decide +kernel
theorem dX12_undo_26 : decode cX12_undo 26 = .ok (.iload_n 1, 1) := by decide +kernel
theorem dX12_undo_27 : decode cX12_undo 27 = .ok (.sipush 192, 3) := by decide +kernel
theorem dX12_undo_30 : decode cX12_undo 30 = .ok (.if_icmp .ge 30, 3) := by decide +kernel
theorem dX12_undo_33 : decode cX12_undo 33 = .ok (.aload_n 0, 1) := by decide +kernel
theorem dX12_undo_34 : decode cX12_undo 34 = .ok (.getfield 23, 3) := by decide +kernel
theorem dX12_undo_37 : decode cX12_undo 37 = .ok (.iload_n 1, 1) := by decide +kernel
theorem dX12_undo_38 : decode cX12_undo 38 = .ok (.aload_n 0, 1) := by decide +kernel
theorem dX12_undo_39 : decode cX12_undo 39 = .ok (.getfield 104, 3) := by decide +kernel
theorem dX12_undo_42 : decode cX12_undo 42 = .ok (.sipush 192, 3) := by decide +kernel
theorem dX12_undo_45 : decode cX12_undo 45 = .ok (.aload_n 0, 1) := by decide +kernel
theorem dX12_undo_46 : decode cX12_undo 46 = .ok (.getfield 201, 3) := by decide +kernel
theorem dX12_undo_49 : decode cX12_undo 49 = .ok (.imul, 1) := by decide +kernel
theorem dX12_undo_50 : decode cX12_undo 50 = .ok (.iload_n 1, 1) := by decide +kernel
theorem dX12_undo_51 : decode cX12_undo 51 = .ok (.iadd, 1) := by decide +kernel
theorem dX12_undo_52 : decode cX12_undo 52 = .ok (.iaload, 1) := by decide +kernel
theorem dX12_undo_53 : decode cX12_undo 53 = .ok (.iastore, 1) := by decide +kernel
theorem dX12_undo_54 : decode cX12_undo 54 = .ok (.iinc 1 1, 3) := by decide +kernel
theorem dX12_undo_57 : decode cX12_undo 57 = .ok (.goto (-31), 3) := by decide +kernel
theorem dX12_undo_60 : decode cX12_undo 60 = .ok (.aload_n 0, 1) := by decide +kernel
theorem dX12_undo_61 : decode cX12_undo 61 = .ok (.getfield 201, 3) := by decide +kernel
theorem dX12_undo_64 : decode cX12_undo 64 = .ok (.ireturn, 1) := by decide +kernel
theorem dX12_rail_0 : decode cX12_rail 0 = .ok (.aload_n 0, 1) := by decide +kernel
theorem dX12_rail_1 : decode cX12_rail 1 = .ok (.iconst 0, 1) := by decide +kernel
theorem dX12_rail_2 : decode cX12_rail 2 = .ok (.putfield 140, 3) := by decide +kernel
theorem dX12_rail_5 : decode cX12_rail 5 = .ok (.aload_n 0, 1) := by decide +kernel
theorem dX12_rail_6 : decode cX12_rail 6 = .ok (.getfield 146, 3) := by decide +kernel
theorem dX12_rail_9 : decode cX12_rail 9 = .ok (.ifCond .eq 14, 3) := by decide +kernel
theorem dX12_rail_12 : decode cX12_rail 12 = .ok (.iload_n 1, 1) := by decide +kernel
theorem dX12_rail_13 : decode cX12_rail 13 = .ok (.iconst 0, 1) := by decide +kernel
theorem dX12_rail_14 : decode cX12_rail 14 = .ok (.sipush 9999, 3) := by decide +kernel
theorem dX12_rail_17 : decode cX12_rail 17 = .ok (.invokestatic 149, 3) := by decide +kernel
theorem dX12_rail_20 : decode cX12_rail 20 = .ok (.ifCond .ne 5, 3) := by decide +kernel
theorem dX12_rail_23 : decode cX12_rail 23 = .ok (.iconst (-1), 1) := by decide +kernel
theorem dX12_rail_24 : decode cX12_rail 24 = .ok (.ireturn, 1) := by decide +kernel
theorem dX12_rail_25 : decode cX12_rail 25 = .ok (.aload_n 0, 1) := by decide +kernel
theorem dX12_rail_26 : decode cX12_rail 26 = .ok (.iload_n 1, 1) := by decide +kernel
theorem dX12_rail_27 : decode cX12_rail 27 = .ok (.iconst (-1), 1) := by decide +kernel
theorem dX12_rail_28 : decode cX12_rail 28 = .ok (.invokevirtual 287, 3) := by decide +kernel
theorem dX12_rail_31 : decode cX12_rail 31 = .ok (.iconst 0, 1) := by decide +kernel
theorem dX12_rail_32 : decode cX12_rail 32 = .ok (.istore_n 2, 1) := by decide +kernel
theorem dX12_rail_33 : decode cX12_rail 33 = .ok (.aload_n 0, 1) := by decide +kernel
theorem dX12_rail_34 : decode cX12_rail 34 = .ok (.iconst 0, 1) := by decide +kernel
theorem dX12_rail_35 : decode cX12_rail 35 = .ok (.putfield 143, 3) := by decide +kernel
theorem dX12_rail_38 : decode cX12_rail 38 = .ok (.iconst 0, 1) := by decide +kernel
theorem dX12_rail_39 : decode cX12_rail 39 = .ok (.istore_n 3, 1) := by decide +kernel
theorem dX12_rail_40 : decode cX12_rail 40 = .ok (.iload_n 3, 1) := by decide +kernel
theorem dX12_rail_41 : decode cX12_rail 41 = .ok (.bipush 8, 2) := by decide +kernel
theorem dX12_rail_43 : decode cX12_rail 43 = .ok (.if_icmp .ge 37, 3) := by decide +kernel
theorem dX12_rail_46 : decode cX12_rail 46 = .ok (.aload_n 0, 1) := by decide +kernel
theorem dX12_rail_47 : decode cX12_rail 47 = .ok (.aload_n 0, 1) := by decide +kernel
theorem dX12_rail_48 : decode cX12_rail 48 = .ok (.getfield 79, 3) := by decide +kernel
theorem dX12_rail_51 : decode cX12_rail 51 = .ok (.iload_n 3, 1) := by decide +kernel
theorem dX12_rail_52 : decode cX12_rail 52 = .ok (.iaload, 1) := by decide +kernel
theorem dX12_rail_53 : decode cX12_rail 53 = .ok (.i2l, 1) := by decide +kernel
theorem dX12_rail_54 : decode cX12_rail 54 = .ok (.invokevirtual 276, 3) := by decide +kernel
theorem dX12_rail_57 : decode cX12_rail 57 = .ok (.iload_n 2, 1) := by decide +kernel
theorem dX12_rail_58 : decode cX12_rail 58 = .ok (.aload_n 0, 1) := by decide +kernel
theorem dX12_rail_59 : decode cX12_rail 59 = .ok (.getfield 79, 3) := by decide +kernel
theorem dX12_rail_62 : decode cX12_rail 62 = .ok (.iload_n 3, 1) := by decide +kernel
theorem dX12_rail_63 : decode cX12_rail 63 = .ok (.iaload, 1) := by decide +kernel
theorem dX12_rail_64 : decode cX12_rail 64 = .ok (.ifCond .le 7, 3) := by decide +kernel
theorem dX12_rail_67 : decode cX12_rail 67 = .ok (.iconst 1, 1) := by decide +kernel
theorem dX12_rail_68 : decode cX12_rail 68 = .ok (.goto 4, 3) := by decide +kernel
theorem dX12_rail_71 : decode cX12_rail 71 = .ok (.iconst 0, 1) := by decide +kernel
theorem dX12_rail_72 : decode cX12_rail 72 = .ok (.iadd, 1) := by decide +kernel
theorem dX12_rail_73 : decode cX12_rail 73 = .ok (.istore_n 2, 1) := by decide +kernel
theorem dX12_rail_74 : decode cX12_rail 74 = .ok (.iinc 3 1, 3) := by decide +kernel
theorem dX12_rail_77 : decode cX12_rail 77 = .ok (.goto (-37), 3) := by decide +kernel
theorem dX12_rail_80 : decode cX12_rail 80 = .ok (.iload_n 2, 1) := by decide +kernel
theorem dX12_rail_81 : decode cX12_rail 81 = .ok (.ireturn, 1) := by decide +kernel
abbrev mX12_rules_0_e2 : ByteArray := .mk #[0x2a, 0x03, 0xb5, 0x00, 0x8c, 0x2a, 0xb4, 0x00, 0x92, 0x99, 0x00, 0x18, 0x1b, 0x03, 0x04, 0xb8, 0x00, 0x95, 0x99, 0x00, 0x0f, 0x1b, 0x9a, 0x00, 0x0d, 0x2a, 0x1c, 0xb6, 0x00, 0xf9, 0x9a, 0x00, 0x05, 0x02, 0xac, 0x03, 0x3e, 0x04, 0x36, 0x04, 0x15, 0x04, 0x11, 0x01, 0x00, 0xa2, 0x00, 0x99, 0x03, 0x36, 0x05, 0x03, 0x36, 0x06, 0x15, 0x06, 0x10, 0x08, 0xa2, 0x00, 0x2c, 0x15, 0x05, 0x1b, 0x9a, 0x00, 0x1c, 0x15, 0x04, 0x15, 0x06, 0xb8]
theorem kmX12_rules_0_e2 : CK cX12_rules 0 mX12_rules_0_e2 := ck_of (by decide +kernel)
theorem dX12_rules_0 : decode cX12_rules 0 = .ok (.aload_n 0, 1) := rd_chunk (k := 0) (i := 0) kmX12_rules_0_e2 (by decide +kernel)
theorem dX12_rules_1 : decode cX12_rules 1 = .ok (.iconst 0, 1) := rd_chunk (k := 0) (i := 1) kmX12_rules_0_e2 (by decide +kernel)
theorem dX12_rules_2 : decode cX12_rules 2 = .ok (.putfield 140, 3) := rd_chunk (k := 0) (i := 2) kmX12_rules_0_e2 (by decide +kernel)
theorem dX12_rules_5 : decode cX12_rules 5 = .ok (.aload_n 0, 1) := rd_chunk (k := 0) (i := 5) kmX12_rules_0_e2 (by decide +kernel)
theorem dX12_rules_6 : decode cX12_rules 6 = .ok (.getfield 146, 3) := rd_chunk (k := 0) (i := 6) kmX12_rules_0_e2 (by decide +kernel)
theorem dX12_rules_9 : decode cX12_rules 9 = .ok (.ifCond .eq 24, 3) := rd_chunk (k := 0) (i := 9) kmX12_rules_0_e2 (by decide +kernel)
theorem dX12_rules_12 : decode cX12_rules 12 = .ok (.iload_n 1, 1) := rd_chunk (k := 0) (i := 12) kmX12_rules_0_e2 (by decide +kernel)
theorem dX12_rules_13 : decode cX12_rules 13 = .ok (.iconst 0, 1) := rd_chunk (k := 0) (i := 13) kmX12_rules_0_e2 (by decide +kernel)
theorem dX12_rules_14 : decode cX12_rules 14 = .ok (.iconst 1, 1) := rd_chunk (k := 0) (i := 14) kmX12_rules_0_e2 (by decide +kernel)
theorem dX12_rules_15 : decode cX12_rules 15 = .ok (.invokestatic 149, 3) := rd_chunk (k := 0) (i := 15) kmX12_rules_0_e2 (by decide +kernel)
theorem dX12_rules_18 : decode cX12_rules 18 = .ok (.ifCond .eq 15, 3) := rd_chunk (k := 0) (i := 18) kmX12_rules_0_e2 (by decide +kernel)
theorem dX12_rules_21 : decode cX12_rules 21 = .ok (.iload_n 1, 1) := rd_chunk (k := 0) (i := 21) kmX12_rules_0_e2 (by decide +kernel)
theorem dX12_rules_22 : decode cX12_rules 22 = .ok (.ifCond .ne 13, 3) := rd_chunk (k := 0) (i := 22) kmX12_rules_0_e2 (by decide +kernel)
theorem dX12_rules_25 : decode cX12_rules 25 = .ok (.aload_n 0, 1) := rd_chunk (k := 0) (i := 25) kmX12_rules_0_e2 (by decide +kernel)
theorem dX12_rules_26 : decode cX12_rules 26 = .ok (.iload_n 2, 1) := rd_chunk (k := 0) (i := 26) kmX12_rules_0_e2 (by decide +kernel)
theorem dX12_rules_27 : decode cX12_rules 27 = .ok (.invokevirtual 249, 3) := rd_chunk (k := 0) (i := 27) kmX12_rules_0_e2 (by decide +kernel)
theorem dX12_rules_30 : decode cX12_rules 30 = .ok (.ifCond .ne 5, 3) := rd_chunk (k := 0) (i := 30) kmX12_rules_0_e2 (by decide +kernel)
theorem dX12_rules_33 : decode cX12_rules 33 = .ok (.iconst (-1), 1) := rd_chunk (k := 0) (i := 33) kmX12_rules_0_e2 (by decide +kernel)
theorem dX12_rules_34 : decode cX12_rules 34 = .ok (.ireturn, 1) := rd_chunk (k := 0) (i := 34) kmX12_rules_0_e2 (by decide +kernel)
theorem dX12_rules_35 : decode cX12_rules 35 = .ok (.iconst 0, 1) := rd_chunk (k := 0) (i := 35) kmX12_rules_0_e2 (by decide +kernel)
theorem dX12_rules_36 : decode cX12_rules 36 = .ok (.istore_n 3, 1) := rd_chunk (k := 0) (i := 36) kmX12_rules_0_e2 (by decide +kernel)
theorem dX12_rules_37 : decode cX12_rules 37 = .ok (.iconst 1, 1) := rd_chunk (k := 0) (i := 37) kmX12_rules_0_e2 (by decide +kernel)
theorem dX12_rules_38 : decode cX12_rules 38 = .ok (.istore 4, 2) := rd_chunk (k := 0) (i := 38) kmX12_rules_0_e2 (by decide +kernel)
theorem dX12_rules_40 : decode cX12_rules 40 = .ok (.iload 4, 2) := rd_chunk (k := 0) (i := 40) kmX12_rules_0_e2 (by decide +kernel)
theorem dX12_rules_42 : decode cX12_rules 42 = .ok (.sipush 256, 3) := rd_chunk (k := 0) (i := 42) kmX12_rules_0_e2 (by decide +kernel)
theorem dX12_rules_45 : decode cX12_rules 45 = .ok (.if_icmp .ge 153, 3) := rd_chunk (k := 0) (i := 45) kmX12_rules_0_e2 (by decide +kernel)
theorem dX12_rules_48 : decode cX12_rules 48 = .ok (.iconst 0, 1) := rd_chunk (k := 0) (i := 48) kmX12_rules_0_e2 (by decide +kernel)
theorem dX12_rules_49 : decode cX12_rules 49 = .ok (.istore 5, 2) := rd_chunk (k := 0) (i := 49) kmX12_rules_0_e2 (by decide +kernel)
theorem dX12_rules_51 : decode cX12_rules 51 = .ok (.iconst 0, 1) := rd_chunk (k := 0) (i := 51) kmX12_rules_0_e2 (by decide +kernel)
theorem dX12_rules_52 : decode cX12_rules 52 = .ok (.istore 6, 2) := rd_chunk (k := 0) (i := 52) kmX12_rules_0_e2 (by decide +kernel)
theorem dX12_rules_54 : decode cX12_rules 54 = .ok (.iload 6, 2) := rd_chunk (k := 0) (i := 54) kmX12_rules_0_e2 (by decide +kernel)
theorem dX12_rules_56 : decode cX12_rules 56 = .ok (.bipush 8, 2) := rd_chunk (k := 0) (i := 56) kmX12_rules_0_e2 (by decide +kernel)
theorem dX12_rules_58 : decode cX12_rules 58 = .ok (.if_icmp .ge 44, 3) := rd_chunk (k := 0) (i := 58) kmX12_rules_0_e2 (by decide +kernel)
theorem dX12_rules_61 : decode cX12_rules 61 = .ok (.iload 5, 2) := rd_chunk (k := 0) (i := 61) kmX12_rules_0_e2 (by decide +kernel)
theorem dX12_rules_63 : decode cX12_rules 63 = .ok (.iload_n 1, 1) := rd_chunk (k := 0) (i := 63) kmX12_rules_0_e2 (by decide +kernel)
abbrev mX12_rules_64_e2 : ByteArray := .mk #[0x9a, 0x00, 0x1c, 0x15, 0x04, 0x15, 0x06, 0xb8, 0x01, 0x23, 0x99, 0x00, 0x12, 0x2a, 0xb4, 0x00, 0x17, 0x10, 0x08, 0x1c, 0x68, 0x15, 0x06, 0x60, 0x2e, 0xa7, 0x00, 0x04, 0x03, 0x60, 0x36, 0x05, 0x84, 0x06, 0x01, 0xa7, 0xff, 0xd3, 0x03, 0x36, 0x06, 0x15, 0x06, 0x2a, 0xb4, 0x00, 0x92, 0xa2, 0x00, 0x26, 0x15, 0x05, 0x1b, 0x04, 0xa0, 0x00, 0x15, 0x15, 0x04, 0x2a, 0x15, 0x06, 0xb6, 0x00, 0xe7, 0xb8, 0x01, 0x23, 0x99, 0x00, 0x07, 0x04]
theorem kmX12_rules_64_e2 : CK cX12_rules 64 mX12_rules_64_e2 := ck_of (by decide +kernel)
theorem dX12_rules_64 : decode cX12_rules 64 = .ok (.ifCond .ne 28, 3) := rd_chunk (k := 64) (i := 0) kmX12_rules_64_e2 (by decide +kernel)
theorem dX12_rules_67 : decode cX12_rules 67 = .ok (.iload 4, 2) := rd_chunk (k := 64) (i := 3) kmX12_rules_64_e2 (by decide +kernel)
theorem dX12_rules_69 : decode cX12_rules 69 = .ok (.iload 6, 2) := rd_chunk (k := 64) (i := 5) kmX12_rules_64_e2 (by decide +kernel)
theorem dX12_rules_71 : decode cX12_rules 71 = .ok (.invokestatic 291, 3) := rd_chunk (k := 64) (i := 7) kmX12_rules_64_e2 (by decide +kernel)
theorem dX12_rules_74 : decode cX12_rules 74 = .ok (.ifCond .eq 18, 3) := rd_chunk (k := 64) (i := 10) kmX12_rules_64_e2 (by decide +kernel)
theorem dX12_rules_77 : decode cX12_rules 77 = .ok (.aload_n 0, 1) := rd_chunk (k := 64) (i := 13) kmX12_rules_64_e2 (by decide +kernel)
theorem dX12_rules_78 : decode cX12_rules 78 = .ok (.getfield 23, 3) := rd_chunk (k := 64) (i := 14) kmX12_rules_64_e2 (by decide +kernel)
theorem dX12_rules_81 : decode cX12_rules 81 = .ok (.bipush 8, 2) := rd_chunk (k := 64) (i := 17) kmX12_rules_64_e2 (by decide +kernel)
theorem dX12_rules_83 : decode cX12_rules 83 = .ok (.iload_n 2, 1) := rd_chunk (k := 64) (i := 19) kmX12_rules_64_e2 (by decide +kernel)
theorem dX12_rules_84 : decode cX12_rules 84 = .ok (.imul, 1) := rd_chunk (k := 64) (i := 20) kmX12_rules_64_e2 (by decide +kernel)
theorem dX12_rules_85 : decode cX12_rules 85 = .ok (.iload 6, 2) := rd_chunk (k := 64) (i := 21) kmX12_rules_64_e2 (by decide +kernel)
theorem dX12_rules_87 : decode cX12_rules 87 = .ok (.iadd, 1) := rd_chunk (k := 64) (i := 23) kmX12_rules_64_e2 (by decide +kernel)
theorem dX12_rules_88 : decode cX12_rules 88 = .ok (.iaload, 1) := rd_chunk (k := 64) (i := 24) kmX12_rules_64_e2 (by decide +kernel)
theorem dX12_rules_89 : decode cX12_rules 89 = .ok (.goto 4, 3) := rd_chunk (k := 64) (i := 25) kmX12_rules_64_e2 (by decide +kernel)
theorem dX12_rules_92 : decode cX12_rules 92 = .ok (.iconst 0, 1) := rd_chunk (k := 64) (i := 28) kmX12_rules_64_e2 (by decide +kernel)
theorem dX12_rules_93 : decode cX12_rules 93 = .ok (.iadd, 1) := rd_chunk (k := 64) (i := 29) kmX12_rules_64_e2 (by decide +kernel)
theorem dX12_rules_94 : decode cX12_rules 94 = .ok (.istore 5, 2) := rd_chunk (k := 64) (i := 30) kmX12_rules_64_e2 (by decide +kernel)
theorem dX12_rules_96 : decode cX12_rules 96 = .ok (.iinc 6 1, 3) := rd_chunk (k := 64) (i := 32) kmX12_rules_64_e2 (by decide +kernel)
theorem dX12_rules_99 : decode cX12_rules 99 = .ok (.goto (-45), 3) := rd_chunk (k := 64) (i := 35) kmX12_rules_64_e2 (by decide +kernel)
theorem dX12_rules_102 : decode cX12_rules 102 = .ok (.iconst 0, 1) := rd_chunk (k := 64) (i := 38) kmX12_rules_64_e2 (by decide +kernel)
theorem dX12_rules_103 : decode cX12_rules 103 = .ok (.istore 6, 2) := rd_chunk (k := 64) (i := 39) kmX12_rules_64_e2 (by decide +kernel)
theorem dX12_rules_105 : decode cX12_rules 105 = .ok (.iload 6, 2) := rd_chunk (k := 64) (i := 41) kmX12_rules_64_e2 (by decide +kernel)
theorem dX12_rules_107 : decode cX12_rules 107 = .ok (.aload_n 0, 1) := rd_chunk (k := 64) (i := 43) kmX12_rules_64_e2 (by decide +kernel)
theorem dX12_rules_108 : decode cX12_rules 108 = .ok (.getfield 146, 3) := rd_chunk (k := 64) (i := 44) kmX12_rules_64_e2 (by decide +kernel)
theorem dX12_rules_111 : decode cX12_rules 111 = .ok (.if_icmp .ge 38, 3) := rd_chunk (k := 64) (i := 47) kmX12_rules_64_e2 (by decide +kernel)
theorem dX12_rules_114 : decode cX12_rules 114 = .ok (.iload 5, 2) := rd_chunk (k := 64) (i := 50) kmX12_rules_64_e2 (by decide +kernel)
theorem dX12_rules_116 : decode cX12_rules 116 = .ok (.iload_n 1, 1) := rd_chunk (k := 64) (i := 52) kmX12_rules_64_e2 (by decide +kernel)
theorem dX12_rules_117 : decode cX12_rules 117 = .ok (.iconst 1, 1) := rd_chunk (k := 64) (i := 53) kmX12_rules_64_e2 (by decide +kernel)
theorem dX12_rules_118 : decode cX12_rules 118 = .ok (.if_icmp .ne 21, 3) := rd_chunk (k := 64) (i := 54) kmX12_rules_64_e2 (by decide +kernel)
theorem dX12_rules_121 : decode cX12_rules 121 = .ok (.iload 4, 2) := rd_chunk (k := 64) (i := 57) kmX12_rules_64_e2 (by decide +kernel)
theorem dX12_rules_123 : decode cX12_rules 123 = .ok (.aload_n 0, 1) := rd_chunk (k := 64) (i := 59) kmX12_rules_64_e2 (by decide +kernel)
theorem dX12_rules_124 : decode cX12_rules 124 = .ok (.iload 6, 2) := rd_chunk (k := 64) (i := 60) kmX12_rules_64_e2 (by decide +kernel)
theorem dX12_rules_126 : decode cX12_rules 126 = .ok (.invokevirtual 231, 3) := rd_chunk (k := 64) (i := 62) kmX12_rules_64_e2 (by decide +kernel)
abbrev mX12_rules_128_e2 : ByteArray := .mk #[0xe7, 0xb8, 0x01, 0x23, 0x99, 0x00, 0x07, 0x04, 0xa7, 0x00, 0x04, 0x03, 0x60, 0x36, 0x05, 0x84, 0x06, 0x01, 0xa7, 0xff, 0xd7, 0x05, 0x15, 0x05, 0x68, 0x1b, 0x9a, 0x00, 0x09, 0x11, 0x02, 0xd0, 0xa7, 0x00, 0x07, 0x2a, 0xb4, 0x00, 0x92, 0xa3, 0x00, 0x06, 0xa7, 0x00, 0x16, 0x1d, 0x99, 0x00, 0x0f, 0x15, 0x04, 0xb8, 0x01, 0x72, 0x1d, 0xb8, 0x01, 0x72, 0xa2, 0x00, 0x06, 0x15, 0x04, 0x3e, 0x84, 0x04, 0x01, 0xa7, 0xff, 0x65, 0x2a, 0x03]
theorem kmX12_rules_128_e2 : CK cX12_rules 128 mX12_rules_128_e2 := ck_of (by decide +kernel)
theorem dX12_rules_129 : decode cX12_rules 129 = .ok (.invokestatic 291, 3) := rd_chunk (k := 128) (i := 1) kmX12_rules_128_e2 (by decide +kernel)
theorem dX12_rules_132 : decode cX12_rules 132 = .ok (.ifCond .eq 7, 3) := rd_chunk (k := 128) (i := 4) kmX12_rules_128_e2 (by decide +kernel)
theorem dX12_rules_135 : decode cX12_rules 135 = .ok (.iconst 1, 1) := rd_chunk (k := 128) (i := 7) kmX12_rules_128_e2 (by decide +kernel)
theorem dX12_rules_136 : decode cX12_rules 136 = .ok (.goto 4, 3) := rd_chunk (k := 128) (i := 8) kmX12_rules_128_e2 (by decide +kernel)
theorem dX12_rules_139 : decode cX12_rules 139 = .ok (.iconst 0, 1) := rd_chunk (k := 128) (i := 11) kmX12_rules_128_e2 (by decide +kernel)
theorem dX12_rules_140 : decode cX12_rules 140 = .ok (.iadd, 1) := rd_chunk (k := 128) (i := 12) kmX12_rules_128_e2 (by decide +kernel)
theorem dX12_rules_141 : decode cX12_rules 141 = .ok (.istore 5, 2) := rd_chunk (k := 128) (i := 13) kmX12_rules_128_e2 (by decide +kernel)
theorem dX12_rules_143 : decode cX12_rules 143 = .ok (.iinc 6 1, 3) := rd_chunk (k := 128) (i := 15) kmX12_rules_128_e2 (by decide +kernel)
theorem dX12_rules_146 : decode cX12_rules 146 = .ok (.goto (-41), 3) := rd_chunk (k := 128) (i := 18) kmX12_rules_128_e2 (by decide +kernel)
theorem dX12_rules_149 : decode cX12_rules 149 = .ok (.iconst 2, 1) := rd_chunk (k := 128) (i := 21) kmX12_rules_128_e2 (by decide +kernel)
theorem dX12_rules_150 : decode cX12_rules 150 = .ok (.iload 5, 2) := rd_chunk (k := 128) (i := 22) kmX12_rules_128_e2 (by decide +kernel)
theorem dX12_rules_152 : decode cX12_rules 152 = .ok (.imul, 1) := rd_chunk (k := 128) (i := 24) kmX12_rules_128_e2 (by decide +kernel)
theorem dX12_rules_153 : decode cX12_rules 153 = .ok (.iload_n 1, 1) := rd_chunk (k := 128) (i := 25) kmX12_rules_128_e2 (by decide +kernel)
theorem dX12_rules_154 : decode cX12_rules 154 = .ok (.ifCond .ne 9, 3) := rd_chunk (k := 128) (i := 26) kmX12_rules_128_e2 (by decide +kernel)
theorem dX12_rules_157 : decode cX12_rules 157 = .ok (.sipush 720, 3) := rd_chunk (k := 128) (i := 29) kmX12_rules_128_e2 (by decide +kernel)
theorem dX12_rules_160 : decode cX12_rules 160 = .ok (.goto 7, 3) := rd_chunk (k := 128) (i := 32) kmX12_rules_128_e2 (by decide +kernel)
theorem dX12_rules_163 : decode cX12_rules 163 = .ok (.aload_n 0, 1) := rd_chunk (k := 128) (i := 35) kmX12_rules_128_e2 (by decide +kernel)
theorem dX12_rules_164 : decode cX12_rules 164 = .ok (.getfield 146, 3) := rd_chunk (k := 128) (i := 36) kmX12_rules_128_e2 (by decide +kernel)
theorem dX12_rules_167 : decode cX12_rules 167 = .ok (.if_icmp .gt 6, 3) := rd_chunk (k := 128) (i := 39) kmX12_rules_128_e2 (by decide +kernel)
theorem dX12_rules_170 : decode cX12_rules 170 = .ok (.goto 22, 3) := rd_chunk (k := 128) (i := 42) kmX12_rules_128_e2 (by decide +kernel)
theorem dX12_rules_173 : decode cX12_rules 173 = .ok (.iload_n 3, 1) := rd_chunk (k := 128) (i := 45) kmX12_rules_128_e2 (by decide +kernel)
theorem dX12_rules_174 : decode cX12_rules 174 = .ok (.ifCond .eq 15, 3) := rd_chunk (k := 128) (i := 46) kmX12_rules_128_e2 (by decide +kernel)
theorem dX12_rules_177 : decode cX12_rules 177 = .ok (.iload 4, 2) := rd_chunk (k := 128) (i := 49) kmX12_rules_128_e2 (by decide +kernel)
theorem dX12_rules_179 : decode cX12_rules 179 = .ok (.invokestatic 370, 3) := rd_chunk (k := 128) (i := 51) kmX12_rules_128_e2 (by decide +kernel)
theorem dX12_rules_182 : decode cX12_rules 182 = .ok (.iload_n 3, 1) := rd_chunk (k := 128) (i := 54) kmX12_rules_128_e2 (by decide +kernel)
theorem dX12_rules_183 : decode cX12_rules 183 = .ok (.invokestatic 370, 3) := rd_chunk (k := 128) (i := 55) kmX12_rules_128_e2 (by decide +kernel)
theorem dX12_rules_186 : decode cX12_rules 186 = .ok (.if_icmp .ge 6, 3) := rd_chunk (k := 128) (i := 58) kmX12_rules_128_e2 (by decide +kernel)
theorem dX12_rules_189 : decode cX12_rules 189 = .ok (.iload 4, 2) := rd_chunk (k := 128) (i := 61) kmX12_rules_128_e2 (by decide +kernel)
theorem dX12_rules_191 : decode cX12_rules 191 = .ok (.istore_n 3, 1) := rd_chunk (k := 128) (i := 63) kmX12_rules_128_e2 (by decide +kernel)
abbrev mX12_rules_192_e2 : ByteArray := .mk #[0x84, 0x04, 0x01, 0xa7, 0xff, 0x65, 0x2a, 0x03, 0xb5, 0x00, 0x8f, 0x2a, 0x1d, 0x85, 0xb6, 0x01, 0x14, 0x1d, 0xb8, 0x01, 0x72, 0xac]
theorem kmX12_rules_192_e2 : CK cX12_rules 192 mX12_rules_192_e2 := ck_of (by decide +kernel)
theorem dX12_rules_192 : decode cX12_rules 192 = .ok (.iinc 4 1, 3) := rd_chunk (k := 192) (i := 0) kmX12_rules_192_e2 (by decide +kernel)
theorem dX12_rules_195 : decode cX12_rules 195 = .ok (.goto (-155), 3) := rd_chunk (k := 192) (i := 3) kmX12_rules_192_e2 (by decide +kernel)
theorem dX12_rules_198 : decode cX12_rules 198 = .ok (.aload_n 0, 1) := rd_chunk (k := 192) (i := 6) kmX12_rules_192_e2 (by decide +kernel)
theorem dX12_rules_199 : decode cX12_rules 199 = .ok (.iconst 0, 1) := rd_chunk (k := 192) (i := 7) kmX12_rules_192_e2 (by decide +kernel)
theorem dX12_rules_200 : decode cX12_rules 200 = .ok (.putfield 143, 3) := rd_chunk (k := 192) (i := 8) kmX12_rules_192_e2 (by decide +kernel)
theorem dX12_rules_203 : decode cX12_rules 203 = .ok (.aload_n 0, 1) := rd_chunk (k := 192) (i := 11) kmX12_rules_192_e2 (by decide +kernel)
theorem dX12_rules_204 : decode cX12_rules 204 = .ok (.iload_n 3, 1) := rd_chunk (k := 192) (i := 12) kmX12_rules_192_e2 (by decide +kernel)
theorem dX12_rules_205 : decode cX12_rules 205 = .ok (.i2l, 1) := rd_chunk (k := 192) (i := 13) kmX12_rules_192_e2 (by decide +kernel)
theorem dX12_rules_206 : decode cX12_rules 206 = .ok (.invokevirtual 276, 3) := rd_chunk (k := 192) (i := 14) kmX12_rules_192_e2 (by decide +kernel)
theorem dX12_rules_209 : decode cX12_rules 209 = .ok (.iload_n 3, 1) := rd_chunk (k := 192) (i := 17) kmX12_rules_192_e2 (by decide +kernel)
theorem dX12_rules_210 : decode cX12_rules 210 = .ok (.invokestatic 370, 3) := rd_chunk (k := 192) (i := 18) kmX12_rules_192_e2 (by decide +kernel)
theorem dX12_rules_213 : decode cX12_rules 213 = .ok (.ireturn, 1) := rd_chunk (k := 192) (i := 21) kmX12_rules_192_e2 (by decide +kernel)
theorem dX12_placeOf_0 : decode cX12_placeOf 0 = .ok (.aload_n 0, 1) := by decide +kernel
theorem dX12_placeOf_1 : decode cX12_placeOf 1 = .ok (.getfield 116, 3) := by decide +kernel
theorem dX12_placeOf_4 : decode cX12_placeOf 4 = .ok (.iload_n 1, 1) := by decide +kernel
theorem dX12_placeOf_5 : decode cX12_placeOf 5 = .ok (.iaload, 1) := by decide +kernel
theorem dX12_placeOf_6 : decode cX12_placeOf 6 = .ok (.ifCond .ne 7, 3) := by decide +kernel
theorem dX12_placeOf_9 : decode cX12_placeOf 9 = .ok (.iconst (-1), 1) := by decide +kernel
theorem dX12_placeOf_10 : decode cX12_placeOf 10 = .ok (.goto 21, 3) := by decide +kernel
theorem dX12_placeOf_13 : decode cX12_placeOf 13 = .ok (.aload_n 0, 1) := by decide +kernel
theorem dX12_placeOf_14 : decode cX12_placeOf 14 = .ok (.getfield 110, 3) := by decide +kernel
theorem dX12_placeOf_17 : decode cX12_placeOf 17 = .ok (.bipush 24, 2) := by decide +kernel
theorem dX12_placeOf_19 : decode cX12_placeOf 19 = .ok (.iload_n 1, 1) := by decide +kernel
theorem dX12_placeOf_20 : decode cX12_placeOf 20 = .ok (.imul, 1) := by decide +kernel
theorem dX12_placeOf_21 : decode cX12_placeOf 21 = .ok (.aload_n 0, 1) := by decide +kernel
theorem dX12_placeOf_22 : decode cX12_placeOf 22 = .ok (.getfield 116, 3) := by decide +kernel
theorem dX12_placeOf_25 : decode cX12_placeOf 25 = .ok (.iload_n 1, 1) := by decide +kernel
theorem dX12_placeOf_26 : decode cX12_placeOf 26 = .ok (.iaload, 1) := by decide +kernel
theorem dX12_placeOf_27 : decode cX12_placeOf 27 = .ok (.iadd, 1) := by decide +kernel
theorem dX12_placeOf_28 : decode cX12_placeOf 28 = .ok (.iconst 1, 1) := by decide +kernel
theorem dX12_placeOf_29 : decode cX12_placeOf 29 = .ok (.isub, 1) := by decide +kernel
theorem dX12_placeOf_30 : decode cX12_placeOf 30 = .ok (.iaload, 1) := by decide +kernel
theorem dX12_placeOf_31 : decode cX12_placeOf 31 = .ok (.ireturn, 1) := by decide +kernel
theorem dX12_onStep_0 : decode cX12_onStep 0 = .ok (.iconst 0, 1) := by decide +kernel
theorem dX12_onStep_1 : decode cX12_onStep 1 = .ok (.istore_n 2, 1) := by decide +kernel
theorem dX12_onStep_2 : decode cX12_onStep 2 = .ok (.iconst 0, 1) := by decide +kernel
theorem dX12_onStep_3 : decode cX12_onStep 3 = .ok (.istore_n 3, 1) := by decide +kernel
theorem dX12_onStep_4 : decode cX12_onStep 4 = .ok (.iload_n 3, 1) := by decide +kernel
theorem dX12_onStep_5 : decode cX12_onStep 5 = .ok (.aload_n 0, 1) := by decide +kernel
theorem dX12_onStep_6 : decode cX12_onStep 6 = .ok (.getfield 153, 3) := by decide +kernel
theorem dX12_onStep_9 : decode cX12_onStep 9 = .ok (.if_icmp .ge 35, 3) := by decide +kernel
theorem dX12_onStep_12 : decode cX12_onStep 12 = .ok (.iload_n 2, 1) := by decide +kernel
theorem dX12_onStep_13 : decode cX12_onStep 13 = .ok (.aload_n 0, 1) := by decide +kernel
theorem dX12_onStep_14 : decode cX12_onStep 14 = .ok (.getfield 113, 3) := by decide +kernel
theorem dX12_onStep_17 : decode cX12_onStep 17 = .ok (.iload_n 3, 1) := by decide +kernel
theorem dX12_onStep_18 : decode cX12_onStep 18 = .ok (.iaload, 1) := by decide +kernel
theorem dX12_onStep_19 : decode cX12_onStep 19 = .ok (.ifCond .le 16, 3) := by decide +kernel
theorem dX12_onStep_22 : decode cX12_onStep 22 = .ok (.aload_n 0, 1) := by decide +kernel
theorem dX12_onStep_23 : decode cX12_onStep 23 = .ok (.iload_n 3, 1) := by decide +kernel
theorem dX12_onStep_24 : decode cX12_onStep 24 = .ok (.invokevirtual 375, 3) := by decide +kernel
theorem dX12_onStep_27 : decode cX12_onStep 27 = .ok (.iload_n 1, 1) := by decide +kernel
theorem dX12_onStep_28 : decode cX12_onStep 28 = .ok (.if_icmp .ne 7, 3) := by decide +kernel
theorem dX12_onStep_31 : decode cX12_onStep 31 = .ok (.iconst 1, 1) := by decide +kernel
theorem dX12_onStep_32 : decode cX12_onStep 32 = .ok (.goto 4, 3) := by decide +kernel
theorem dX12_onStep_35 : decode cX12_onStep 35 = .ok (.iconst 0, 1) := by decide +kernel
theorem dX12_onStep_36 : decode cX12_onStep 36 = .ok (.iadd, 1) := by decide +kernel
theorem dX12_onStep_37 : decode cX12_onStep 37 = .ok (.istore_n 2, 1) := by decide +kernel
theorem dX12_onStep_38 : decode cX12_onStep 38 = .ok (.iinc 3 1, 3) := by decide +kernel
theorem dX12_onStep_41 : decode cX12_onStep 41 = .ok (.goto (-37), 3) := by decide +kernel
theorem dX12_onStep_44 : decode cX12_onStep 44 = .ok (.iload_n 2, 1) := by decide +kernel
theorem dX12_onStep_45 : decode cX12_onStep 45 = .ok (.ireturn, 1) := by decide +kernel
abbrev mX12_runFeast_0_e2 : ByteArray := .mk #[0x03, 0x3d, 0x1c, 0x10, 0x18, 0xa2, 0x00, 0x10, 0x2a, 0xb4, 0x00, 0x7a, 0x1c, 0x03, 0x4f, 0x84, 0x02, 0x01, 0xa7, 0xff, 0xf0, 0x2a, 0x03, 0xb5, 0x01, 0x7a, 0x03, 0x3d, 0x03, 0x3e, 0x1d, 0x2a, 0xb4, 0x00, 0x99, 0xa2, 0x00, 0x65, 0x2a, 0xb4, 0x00, 0x74, 0x1d, 0x03, 0x4f, 0x2a, 0xb4, 0x00, 0x77, 0x1d, 0x03, 0x4f, 0x2a, 0xb4, 0x00, 0x71, 0x1d, 0x2a, 0x1d, 0xb6, 0x01, 0x3e, 0x99, 0x00, 0x0a, 0x2a, 0xb4, 0x01, 0x38, 0xa7, 0x00, 0x04]
theorem kmX12_runFeast_0_e2 : CK cX12_runFeast 0 mX12_runFeast_0_e2 := ck_of (by decide +kernel)
theorem dX12_runFeast_0 : decode cX12_runFeast 0 = .ok (.iconst 0, 1) := rd_chunk (k := 0) (i := 0) kmX12_runFeast_0_e2 (by decide +kernel)
theorem dX12_runFeast_1 : decode cX12_runFeast 1 = .ok (.istore_n 2, 1) := rd_chunk (k := 0) (i := 1) kmX12_runFeast_0_e2 (by decide +kernel)
theorem dX12_runFeast_2 : decode cX12_runFeast 2 = .ok (.iload_n 2, 1) := rd_chunk (k := 0) (i := 2) kmX12_runFeast_0_e2 (by decide +kernel)
theorem dX12_runFeast_3 : decode cX12_runFeast 3 = .ok (.bipush 24, 2) := rd_chunk (k := 0) (i := 3) kmX12_runFeast_0_e2 (by decide +kernel)
theorem dX12_runFeast_5 : decode cX12_runFeast 5 = .ok (.if_icmp .ge 16, 3) := rd_chunk (k := 0) (i := 5) kmX12_runFeast_0_e2 (by decide +kernel)
theorem dX12_runFeast_8 : decode cX12_runFeast 8 = .ok (.aload_n 0, 1) := rd_chunk (k := 0) (i := 8) kmX12_runFeast_0_e2 (by decide +kernel)
theorem dX12_runFeast_9 : decode cX12_runFeast 9 = .ok (.getfield 122, 3) := rd_chunk (k := 0) (i := 9) kmX12_runFeast_0_e2 (by decide +kernel)
theorem dX12_runFeast_12 : decode cX12_runFeast 12 = .ok (.iload_n 2, 1) := rd_chunk (k := 0) (i := 12) kmX12_runFeast_0_e2 (by decide +kernel)
theorem dX12_runFeast_13 : decode cX12_runFeast 13 = .ok (.iconst 0, 1) := rd_chunk (k := 0) (i := 13) kmX12_runFeast_0_e2 (by decide +kernel)
theorem dX12_runFeast_14 : decode cX12_runFeast 14 = .ok (.iastore, 1) := rd_chunk (k := 0) (i := 14) kmX12_runFeast_0_e2 (by decide +kernel)
theorem dX12_runFeast_15 : decode cX12_runFeast 15 = .ok (.iinc 2 1, 3) := rd_chunk (k := 0) (i := 15) kmX12_runFeast_0_e2 (by decide +kernel)
theorem dX12_runFeast_18 : decode cX12_runFeast 18 = .ok (.goto (-16), 3) := rd_chunk (k := 0) (i := 18) kmX12_runFeast_0_e2 (by decide +kernel)
theorem dX12_runFeast_21 : decode cX12_runFeast 21 = .ok (.aload_n 0, 1) := rd_chunk (k := 0) (i := 21) kmX12_runFeast_0_e2 (by decide +kernel)
theorem dX12_runFeast_22 : decode cX12_runFeast 22 = .ok (.iconst 0, 1) := rd_chunk (k := 0) (i := 22) kmX12_runFeast_0_e2 (by decide +kernel)
theorem dX12_runFeast_23 : decode cX12_runFeast 23 = .ok (.putfield 378, 3) := rd_chunk (k := 0) (i := 23) kmX12_runFeast_0_e2 (by decide +kernel)
theorem dX12_runFeast_26 : decode cX12_runFeast 26 = .ok (.iconst 0, 1) := rd_chunk (k := 0) (i := 26) kmX12_runFeast_0_e2 (by decide +kernel)
theorem dX12_runFeast_27 : decode cX12_runFeast 27 = .ok (.istore_n 2, 1) := rd_chunk (k := 0) (i := 27) kmX12_runFeast_0_e2 (by decide +kernel)
theorem dX12_runFeast_28 : decode cX12_runFeast 28 = .ok (.iconst 0, 1) := rd_chunk (k := 0) (i := 28) kmX12_runFeast_0_e2 (by decide +kernel)
theorem dX12_runFeast_29 : decode cX12_runFeast 29 = .ok (.istore_n 3, 1) := rd_chunk (k := 0) (i := 29) kmX12_runFeast_0_e2 (by decide +kernel)
theorem dX12_runFeast_30 : decode cX12_runFeast 30 = .ok (.iload_n 3, 1) := rd_chunk (k := 0) (i := 30) kmX12_runFeast_0_e2 (by decide +kernel)
theorem dX12_runFeast_31 : decode cX12_runFeast 31 = .ok (.aload_n 0, 1) := rd_chunk (k := 0) (i := 31) kmX12_runFeast_0_e2 (by decide +kernel)
theorem dX12_runFeast_32 : decode cX12_runFeast 32 = .ok (.getfield 153, 3) := rd_chunk (k := 0) (i := 32) kmX12_runFeast_0_e2 (by decide +kernel)
theorem dX12_runFeast_35 : decode cX12_runFeast 35 = .ok (.if_icmp .ge 101, 3) := rd_chunk (k := 0) (i := 35) kmX12_runFeast_0_e2 (by decide +kernel)
theorem dX12_runFeast_38 : decode cX12_runFeast 38 = .ok (.aload_n 0, 1) := rd_chunk (k := 0) (i := 38) kmX12_runFeast_0_e2 (by decide +kernel)
theorem dX12_runFeast_39 : decode cX12_runFeast 39 = .ok (.getfield 116, 3) := rd_chunk (k := 0) (i := 39) kmX12_runFeast_0_e2 (by decide +kernel)
theorem dX12_runFeast_42 : decode cX12_runFeast 42 = .ok (.iload_n 3, 1) := rd_chunk (k := 0) (i := 42) kmX12_runFeast_0_e2 (by decide +kernel)
theorem dX12_runFeast_43 : decode cX12_runFeast 43 = .ok (.iconst 0, 1) := rd_chunk (k := 0) (i := 43) kmX12_runFeast_0_e2 (by decide +kernel)
theorem dX12_runFeast_44 : decode cX12_runFeast 44 = .ok (.iastore, 1) := rd_chunk (k := 0) (i := 44) kmX12_runFeast_0_e2 (by decide +kernel)
theorem dX12_runFeast_45 : decode cX12_runFeast 45 = .ok (.aload_n 0, 1) := rd_chunk (k := 0) (i := 45) kmX12_runFeast_0_e2 (by decide +kernel)
theorem dX12_runFeast_46 : decode cX12_runFeast 46 = .ok (.getfield 119, 3) := rd_chunk (k := 0) (i := 46) kmX12_runFeast_0_e2 (by decide +kernel)
theorem dX12_runFeast_49 : decode cX12_runFeast 49 = .ok (.iload_n 3, 1) := rd_chunk (k := 0) (i := 49) kmX12_runFeast_0_e2 (by decide +kernel)
theorem dX12_runFeast_50 : decode cX12_runFeast 50 = .ok (.iconst 0, 1) := rd_chunk (k := 0) (i := 50) kmX12_runFeast_0_e2 (by decide +kernel)
theorem dX12_runFeast_51 : decode cX12_runFeast 51 = .ok (.iastore, 1) := rd_chunk (k := 0) (i := 51) kmX12_runFeast_0_e2 (by decide +kernel)
theorem dX12_runFeast_52 : decode cX12_runFeast 52 = .ok (.aload_n 0, 1) := rd_chunk (k := 0) (i := 52) kmX12_runFeast_0_e2 (by decide +kernel)
theorem dX12_runFeast_53 : decode cX12_runFeast 53 = .ok (.getfield 113, 3) := rd_chunk (k := 0) (i := 53) kmX12_runFeast_0_e2 (by decide +kernel)
theorem dX12_runFeast_56 : decode cX12_runFeast 56 = .ok (.iload_n 3, 1) := rd_chunk (k := 0) (i := 56) kmX12_runFeast_0_e2 (by decide +kernel)
theorem dX12_runFeast_57 : decode cX12_runFeast 57 = .ok (.aload_n 0, 1) := rd_chunk (k := 0) (i := 57) kmX12_runFeast_0_e2 (by decide +kernel)
theorem dX12_runFeast_58 : decode cX12_runFeast 58 = .ok (.iload_n 3, 1) := rd_chunk (k := 0) (i := 58) kmX12_runFeast_0_e2 (by decide +kernel)
theorem dX12_runFeast_59 : decode cX12_runFeast 59 = .ok (.invokevirtual 318, 3) := rd_chunk (k := 0) (i := 59) kmX12_runFeast_0_e2 (by decide +kernel)
theorem dX12_runFeast_62 : decode cX12_runFeast 62 = .ok (.ifCond .eq 10, 3) := rd_chunk (k := 0) (i := 62) kmX12_runFeast_0_e2 (by decide +kernel)
abbrev mX12_runFeast_64_e2 : ByteArray := .mk #[0x0a, 0x2a, 0xb4, 0x01, 0x38, 0xa7, 0x00, 0x04, 0x03, 0x4f, 0x03, 0x36, 0x04, 0x15, 0x04, 0x2a, 0xb4, 0x00, 0x71, 0x1d, 0x2e, 0xa2, 0x00, 0x1c, 0x2a, 0xb4, 0x00, 0x6e, 0x10, 0x18, 0x1d, 0x68, 0x15, 0x04, 0x60, 0x2a, 0xb4, 0x00, 0x61, 0x15, 0x04, 0x2e, 0x4f, 0x84, 0x04, 0x01, 0xa7, 0xff, 0xdf, 0x1c, 0x2a, 0xb4, 0x00, 0x71, 0x1d, 0x2e, 0x9e, 0x00, 0x07, 0x04, 0xa7, 0x00, 0x04, 0x03, 0x60, 0x3d, 0x84, 0x03, 0x01, 0xa7, 0xff, 0x99]
theorem kmX12_runFeast_64_e2 : CK cX12_runFeast 64 mX12_runFeast_64_e2 := ck_of (by decide +kernel)
theorem dX12_runFeast_65 : decode cX12_runFeast 65 = .ok (.aload_n 0, 1) := rd_chunk (k := 64) (i := 1) kmX12_runFeast_64_e2 (by decide +kernel)
theorem dX12_runFeast_66 : decode cX12_runFeast 66 = .ok (.getfield 312, 3) := rd_chunk (k := 64) (i := 2) kmX12_runFeast_64_e2 (by decide +kernel)
theorem dX12_runFeast_69 : decode cX12_runFeast 69 = .ok (.goto 4, 3) := rd_chunk (k := 64) (i := 5) kmX12_runFeast_64_e2 (by decide +kernel)
theorem dX12_runFeast_72 : decode cX12_runFeast 72 = .ok (.iconst 0, 1) := rd_chunk (k := 64) (i := 8) kmX12_runFeast_64_e2 (by decide +kernel)
theorem dX12_runFeast_73 : decode cX12_runFeast 73 = .ok (.iastore, 1) := rd_chunk (k := 64) (i := 9) kmX12_runFeast_64_e2 (by decide +kernel)
theorem dX12_runFeast_74 : decode cX12_runFeast 74 = .ok (.iconst 0, 1) := rd_chunk (k := 64) (i := 10) kmX12_runFeast_64_e2 (by decide +kernel)
theorem dX12_runFeast_75 : decode cX12_runFeast 75 = .ok (.istore 4, 2) := rd_chunk (k := 64) (i := 11) kmX12_runFeast_64_e2 (by decide +kernel)
theorem dX12_runFeast_77 : decode cX12_runFeast 77 = .ok (.iload 4, 2) := rd_chunk (k := 64) (i := 13) kmX12_runFeast_64_e2 (by decide +kernel)
theorem dX12_runFeast_79 : decode cX12_runFeast 79 = .ok (.aload_n 0, 1) := rd_chunk (k := 64) (i := 15) kmX12_runFeast_64_e2 (by decide +kernel)
theorem dX12_runFeast_80 : decode cX12_runFeast 80 = .ok (.getfield 113, 3) := rd_chunk (k := 64) (i := 16) kmX12_runFeast_64_e2 (by decide +kernel)
theorem dX12_runFeast_83 : decode cX12_runFeast 83 = .ok (.iload_n 3, 1) := rd_chunk (k := 64) (i := 19) kmX12_runFeast_64_e2 (by decide +kernel)
theorem dX12_runFeast_84 : decode cX12_runFeast 84 = .ok (.iaload, 1) := rd_chunk (k := 64) (i := 20) kmX12_runFeast_64_e2 (by decide +kernel)
theorem dX12_runFeast_85 : decode cX12_runFeast 85 = .ok (.if_icmp .ge 28, 3) := rd_chunk (k := 64) (i := 21) kmX12_runFeast_64_e2 (by decide +kernel)
theorem dX12_runFeast_88 : decode cX12_runFeast 88 = .ok (.aload_n 0, 1) := rd_chunk (k := 64) (i := 24) kmX12_runFeast_64_e2 (by decide +kernel)
theorem dX12_runFeast_89 : decode cX12_runFeast 89 = .ok (.getfield 110, 3) := rd_chunk (k := 64) (i := 25) kmX12_runFeast_64_e2 (by decide +kernel)
theorem dX12_runFeast_92 : decode cX12_runFeast 92 = .ok (.bipush 24, 2) := rd_chunk (k := 64) (i := 28) kmX12_runFeast_64_e2 (by decide +kernel)
theorem dX12_runFeast_94 : decode cX12_runFeast 94 = .ok (.iload_n 3, 1) := rd_chunk (k := 64) (i := 30) kmX12_runFeast_64_e2 (by decide +kernel)
theorem dX12_runFeast_95 : decode cX12_runFeast 95 = .ok (.imul, 1) := rd_chunk (k := 64) (i := 31) kmX12_runFeast_64_e2 (by decide +kernel)
theorem dX12_runFeast_96 : decode cX12_runFeast 96 = .ok (.iload 4, 2) := rd_chunk (k := 64) (i := 32) kmX12_runFeast_64_e2 (by decide +kernel)
theorem dX12_runFeast_98 : decode cX12_runFeast 98 = .ok (.iadd, 1) := rd_chunk (k := 64) (i := 34) kmX12_runFeast_64_e2 (by decide +kernel)
theorem dX12_runFeast_99 : decode cX12_runFeast 99 = .ok (.aload_n 0, 1) := rd_chunk (k := 64) (i := 35) kmX12_runFeast_64_e2 (by decide +kernel)
theorem dX12_runFeast_100 : decode cX12_runFeast 100 = .ok (.getfield 97, 3) := rd_chunk (k := 64) (i := 36) kmX12_runFeast_64_e2 (by decide +kernel)
theorem dX12_runFeast_103 : decode cX12_runFeast 103 = .ok (.iload 4, 2) := rd_chunk (k := 64) (i := 39) kmX12_runFeast_64_e2 (by decide +kernel)
theorem dX12_runFeast_105 : decode cX12_runFeast 105 = .ok (.iaload, 1) := rd_chunk (k := 64) (i := 41) kmX12_runFeast_64_e2 (by decide +kernel)
theorem dX12_runFeast_106 : decode cX12_runFeast 106 = .ok (.iastore, 1) := rd_chunk (k := 64) (i := 42) kmX12_runFeast_64_e2 (by decide +kernel)
theorem dX12_runFeast_107 : decode cX12_runFeast 107 = .ok (.iinc 4 1, 3) := rd_chunk (k := 64) (i := 43) kmX12_runFeast_64_e2 (by decide +kernel)
theorem dX12_runFeast_110 : decode cX12_runFeast 110 = .ok (.goto (-33), 3) := rd_chunk (k := 64) (i := 46) kmX12_runFeast_64_e2 (by decide +kernel)
theorem dX12_runFeast_113 : decode cX12_runFeast 113 = .ok (.iload_n 2, 1) := rd_chunk (k := 64) (i := 49) kmX12_runFeast_64_e2 (by decide +kernel)
theorem dX12_runFeast_114 : decode cX12_runFeast 114 = .ok (.aload_n 0, 1) := rd_chunk (k := 64) (i := 50) kmX12_runFeast_64_e2 (by decide +kernel)
theorem dX12_runFeast_115 : decode cX12_runFeast 115 = .ok (.getfield 113, 3) := rd_chunk (k := 64) (i := 51) kmX12_runFeast_64_e2 (by decide +kernel)
theorem dX12_runFeast_118 : decode cX12_runFeast 118 = .ok (.iload_n 3, 1) := rd_chunk (k := 64) (i := 54) kmX12_runFeast_64_e2 (by decide +kernel)
theorem dX12_runFeast_119 : decode cX12_runFeast 119 = .ok (.iaload, 1) := rd_chunk (k := 64) (i := 55) kmX12_runFeast_64_e2 (by decide +kernel)
theorem dX12_runFeast_120 : decode cX12_runFeast 120 = .ok (.ifCond .le 7, 3) := rd_chunk (k := 64) (i := 56) kmX12_runFeast_64_e2 (by decide +kernel)
theorem dX12_runFeast_123 : decode cX12_runFeast 123 = .ok (.iconst 1, 1) := rd_chunk (k := 64) (i := 59) kmX12_runFeast_64_e2 (by decide +kernel)
theorem dX12_runFeast_124 : decode cX12_runFeast 124 = .ok (.goto 4, 3) := rd_chunk (k := 64) (i := 60) kmX12_runFeast_64_e2 (by decide +kernel)
theorem dX12_runFeast_127 : decode cX12_runFeast 127 = .ok (.iconst 0, 1) := rd_chunk (k := 64) (i := 63) kmX12_runFeast_64_e2 (by decide +kernel)
abbrev mX12_runFeast_128_e2 : ByteArray := .mk #[0x60, 0x3d, 0x84, 0x03, 0x01, 0xa7, 0xff, 0x99, 0x03, 0x3e, 0x1c, 0x9e, 0x00, 0xfe, 0x03, 0x36, 0x04, 0x15, 0x04, 0x2a, 0xb4, 0x00, 0x99, 0xa2, 0x00, 0x2c, 0x2a, 0xb4, 0x00, 0x7d, 0x15, 0x04, 0x2a, 0xb4, 0x00, 0x74, 0x15, 0x04, 0x2e, 0x2a, 0xb4, 0x00, 0x71, 0x15, 0x04, 0x2e, 0xa2, 0x00, 0x0c, 0x2a, 0x15, 0x04, 0xb6, 0x01, 0x77, 0xa7, 0x00, 0x05, 0x10, 0xfe, 0x4f, 0x84, 0x04, 0x01, 0xa7, 0xff, 0xd1, 0x2a, 0xb4, 0x00, 0x92, 0x04]
theorem kmX12_runFeast_128_e2 : CK cX12_runFeast 128 mX12_runFeast_128_e2 := ck_of (by decide +kernel)
theorem dX12_runFeast_128 : decode cX12_runFeast 128 = .ok (.iadd, 1) := rd_chunk (k := 128) (i := 0) kmX12_runFeast_128_e2 (by decide +kernel)
theorem dX12_runFeast_129 : decode cX12_runFeast 129 = .ok (.istore_n 2, 1) := rd_chunk (k := 128) (i := 1) kmX12_runFeast_128_e2 (by decide +kernel)
theorem dX12_runFeast_130 : decode cX12_runFeast 130 = .ok (.iinc 3 1, 3) := rd_chunk (k := 128) (i := 2) kmX12_runFeast_128_e2 (by decide +kernel)
theorem dX12_runFeast_133 : decode cX12_runFeast 133 = .ok (.goto (-103), 3) := rd_chunk (k := 128) (i := 5) kmX12_runFeast_128_e2 (by decide +kernel)
theorem dX12_runFeast_136 : decode cX12_runFeast 136 = .ok (.iconst 0, 1) := rd_chunk (k := 128) (i := 8) kmX12_runFeast_128_e2 (by decide +kernel)
theorem dX12_runFeast_137 : decode cX12_runFeast 137 = .ok (.istore_n 3, 1) := rd_chunk (k := 128) (i := 9) kmX12_runFeast_128_e2 (by decide +kernel)
theorem dX12_runFeast_138 : decode cX12_runFeast 138 = .ok (.iload_n 2, 1) := rd_chunk (k := 128) (i := 10) kmX12_runFeast_128_e2 (by decide +kernel)
theorem dX12_runFeast_139 : decode cX12_runFeast 139 = .ok (.ifCond .le 254, 3) := rd_chunk (k := 128) (i := 11) kmX12_runFeast_128_e2 (by decide +kernel)
theorem dX12_runFeast_142 : decode cX12_runFeast 142 = .ok (.iconst 0, 1) := rd_chunk (k := 128) (i := 14) kmX12_runFeast_128_e2 (by decide +kernel)
theorem dX12_runFeast_143 : decode cX12_runFeast 143 = .ok (.istore 4, 2) := rd_chunk (k := 128) (i := 15) kmX12_runFeast_128_e2 (by decide +kernel)
theorem dX12_runFeast_145 : decode cX12_runFeast 145 = .ok (.iload 4, 2) := rd_chunk (k := 128) (i := 17) kmX12_runFeast_128_e2 (by decide +kernel)
theorem dX12_runFeast_147 : decode cX12_runFeast 147 = .ok (.aload_n 0, 1) := rd_chunk (k := 128) (i := 19) kmX12_runFeast_128_e2 (by decide +kernel)
theorem dX12_runFeast_148 : decode cX12_runFeast 148 = .ok (.getfield 153, 3) := rd_chunk (k := 128) (i := 20) kmX12_runFeast_128_e2 (by decide +kernel)
theorem dX12_runFeast_151 : decode cX12_runFeast 151 = .ok (.if_icmp .ge 44, 3) := rd_chunk (k := 128) (i := 23) kmX12_runFeast_128_e2 (by decide +kernel)
theorem dX12_runFeast_154 : decode cX12_runFeast 154 = .ok (.aload_n 0, 1) := rd_chunk (k := 128) (i := 26) kmX12_runFeast_128_e2 (by decide +kernel)
theorem dX12_runFeast_155 : decode cX12_runFeast 155 = .ok (.getfield 125, 3) := rd_chunk (k := 128) (i := 27) kmX12_runFeast_128_e2 (by decide +kernel)
theorem dX12_runFeast_158 : decode cX12_runFeast 158 = .ok (.iload 4, 2) := rd_chunk (k := 128) (i := 30) kmX12_runFeast_128_e2 (by decide +kernel)
theorem dX12_runFeast_160 : decode cX12_runFeast 160 = .ok (.aload_n 0, 1) := rd_chunk (k := 128) (i := 32) kmX12_runFeast_128_e2 (by decide +kernel)
theorem dX12_runFeast_161 : decode cX12_runFeast 161 = .ok (.getfield 116, 3) := rd_chunk (k := 128) (i := 33) kmX12_runFeast_128_e2 (by decide +kernel)
theorem dX12_runFeast_164 : decode cX12_runFeast 164 = .ok (.iload 4, 2) := rd_chunk (k := 128) (i := 36) kmX12_runFeast_128_e2 (by decide +kernel)
theorem dX12_runFeast_166 : decode cX12_runFeast 166 = .ok (.iaload, 1) := rd_chunk (k := 128) (i := 38) kmX12_runFeast_128_e2 (by decide +kernel)
theorem dX12_runFeast_167 : decode cX12_runFeast 167 = .ok (.aload_n 0, 1) := rd_chunk (k := 128) (i := 39) kmX12_runFeast_128_e2 (by decide +kernel)
theorem dX12_runFeast_168 : decode cX12_runFeast 168 = .ok (.getfield 113, 3) := rd_chunk (k := 128) (i := 40) kmX12_runFeast_128_e2 (by decide +kernel)
theorem dX12_runFeast_171 : decode cX12_runFeast 171 = .ok (.iload 4, 2) := rd_chunk (k := 128) (i := 43) kmX12_runFeast_128_e2 (by decide +kernel)
theorem dX12_runFeast_173 : decode cX12_runFeast 173 = .ok (.iaload, 1) := rd_chunk (k := 128) (i := 45) kmX12_runFeast_128_e2 (by decide +kernel)
theorem dX12_runFeast_174 : decode cX12_runFeast 174 = .ok (.if_icmp .ge 12, 3) := rd_chunk (k := 128) (i := 46) kmX12_runFeast_128_e2 (by decide +kernel)
theorem dX12_runFeast_177 : decode cX12_runFeast 177 = .ok (.aload_n 0, 1) := rd_chunk (k := 128) (i := 49) kmX12_runFeast_128_e2 (by decide +kernel)
theorem dX12_runFeast_178 : decode cX12_runFeast 178 = .ok (.iload 4, 2) := rd_chunk (k := 128) (i := 50) kmX12_runFeast_128_e2 (by decide +kernel)
theorem dX12_runFeast_180 : decode cX12_runFeast 180 = .ok (.invokevirtual 375, 3) := rd_chunk (k := 128) (i := 52) kmX12_runFeast_128_e2 (by decide +kernel)
theorem dX12_runFeast_183 : decode cX12_runFeast 183 = .ok (.goto 5, 3) := rd_chunk (k := 128) (i := 55) kmX12_runFeast_128_e2 (by decide +kernel)
theorem dX12_runFeast_186 : decode cX12_runFeast 186 = .ok (.bipush (-2), 2) := rd_chunk (k := 128) (i := 58) kmX12_runFeast_128_e2 (by decide +kernel)
theorem dX12_runFeast_188 : decode cX12_runFeast 188 = .ok (.iastore, 1) := rd_chunk (k := 128) (i := 60) kmX12_runFeast_128_e2 (by decide +kernel)
theorem dX12_runFeast_189 : decode cX12_runFeast 189 = .ok (.iinc 4 1, 3) := rd_chunk (k := 128) (i := 61) kmX12_runFeast_128_e2 (by decide +kernel)
abbrev mX12_runFeast_192_e2 : ByteArray := .mk #[0xa7, 0xff, 0xd1, 0x2a, 0xb4, 0x00, 0x92, 0x04, 0x64, 0x36, 0x04, 0x15, 0x04, 0x02, 0xa1, 0x00, 0x90, 0x03, 0x36, 0x05, 0x15, 0x05, 0x2a, 0xb4, 0x00, 0x99, 0xa2, 0x00, 0x7e, 0x2a, 0xb4, 0x00, 0x7d, 0x15, 0x05, 0x2e, 0x15, 0x04, 0x9f, 0x00, 0x06, 0xa7, 0x00, 0x69, 0x2a, 0xb4, 0x00, 0x6e, 0x10, 0x18, 0x15, 0x05, 0x68, 0x2a, 0xb4, 0x00, 0x74, 0x15, 0x05, 0x2e, 0x60, 0x2e, 0x36, 0x06, 0x15, 0x06, 0x2a, 0xb4, 0x00, 0x92, 0x04, 0x64]
theorem kmX12_runFeast_192_e2 : CK cX12_runFeast 192 mX12_runFeast_192_e2 := ck_of (by decide +kernel)
theorem dX12_runFeast_192 : decode cX12_runFeast 192 = .ok (.goto (-47), 3) := rd_chunk (k := 192) (i := 0) kmX12_runFeast_192_e2 (by decide +kernel)
theorem dX12_runFeast_195 : decode cX12_runFeast 195 = .ok (.aload_n 0, 1) := rd_chunk (k := 192) (i := 3) kmX12_runFeast_192_e2 (by decide +kernel)
theorem dX12_runFeast_196 : decode cX12_runFeast 196 = .ok (.getfield 146, 3) := rd_chunk (k := 192) (i := 4) kmX12_runFeast_192_e2 (by decide +kernel)
theorem dX12_runFeast_199 : decode cX12_runFeast 199 = .ok (.iconst 1, 1) := rd_chunk (k := 192) (i := 7) kmX12_runFeast_192_e2 (by decide +kernel)
theorem dX12_runFeast_200 : decode cX12_runFeast 200 = .ok (.isub, 1) := rd_chunk (k := 192) (i := 8) kmX12_runFeast_192_e2 (by decide +kernel)
theorem dX12_runFeast_201 : decode cX12_runFeast 201 = .ok (.istore 4, 2) := rd_chunk (k := 192) (i := 9) kmX12_runFeast_192_e2 (by decide +kernel)
theorem dX12_runFeast_203 : decode cX12_runFeast 203 = .ok (.iload 4, 2) := rd_chunk (k := 192) (i := 11) kmX12_runFeast_192_e2 (by decide +kernel)
theorem dX12_runFeast_205 : decode cX12_runFeast 205 = .ok (.iconst (-1), 1) := rd_chunk (k := 192) (i := 13) kmX12_runFeast_192_e2 (by decide +kernel)
theorem dX12_runFeast_206 : decode cX12_runFeast 206 = .ok (.if_icmp .lt 144, 3) := rd_chunk (k := 192) (i := 14) kmX12_runFeast_192_e2 (by decide +kernel)
theorem dX12_runFeast_209 : decode cX12_runFeast 209 = .ok (.iconst 0, 1) := rd_chunk (k := 192) (i := 17) kmX12_runFeast_192_e2 (by decide +kernel)
theorem dX12_runFeast_210 : decode cX12_runFeast 210 = .ok (.istore 5, 2) := rd_chunk (k := 192) (i := 18) kmX12_runFeast_192_e2 (by decide +kernel)
theorem dX12_runFeast_212 : decode cX12_runFeast 212 = .ok (.iload 5, 2) := rd_chunk (k := 192) (i := 20) kmX12_runFeast_192_e2 (by decide +kernel)
theorem dX12_runFeast_214 : decode cX12_runFeast 214 = .ok (.aload_n 0, 1) := rd_chunk (k := 192) (i := 22) kmX12_runFeast_192_e2 (by decide +kernel)
theorem dX12_runFeast_215 : decode cX12_runFeast 215 = .ok (.getfield 153, 3) := rd_chunk (k := 192) (i := 23) kmX12_runFeast_192_e2 (by decide +kernel)
theorem dX12_runFeast_218 : decode cX12_runFeast 218 = .ok (.if_icmp .ge 126, 3) := rd_chunk (k := 192) (i := 26) kmX12_runFeast_192_e2 (by decide +kernel)
theorem dX12_runFeast_221 : decode cX12_runFeast 221 = .ok (.aload_n 0, 1) := rd_chunk (k := 192) (i := 29) kmX12_runFeast_192_e2 (by decide +kernel)
theorem dX12_runFeast_222 : decode cX12_runFeast 222 = .ok (.getfield 125, 3) := rd_chunk (k := 192) (i := 30) kmX12_runFeast_192_e2 (by decide +kernel)
theorem dX12_runFeast_225 : decode cX12_runFeast 225 = .ok (.iload 5, 2) := rd_chunk (k := 192) (i := 33) kmX12_runFeast_192_e2 (by decide +kernel)
theorem dX12_runFeast_227 : decode cX12_runFeast 227 = .ok (.iaload, 1) := rd_chunk (k := 192) (i := 35) kmX12_runFeast_192_e2 (by decide +kernel)
theorem dX12_runFeast_228 : decode cX12_runFeast 228 = .ok (.iload 4, 2) := rd_chunk (k := 192) (i := 36) kmX12_runFeast_192_e2 (by decide +kernel)
theorem dX12_runFeast_230 : decode cX12_runFeast 230 = .ok (.if_icmp .eq 6, 3) := rd_chunk (k := 192) (i := 38) kmX12_runFeast_192_e2 (by decide +kernel)
theorem dX12_runFeast_233 : decode cX12_runFeast 233 = .ok (.goto 105, 3) := rd_chunk (k := 192) (i := 41) kmX12_runFeast_192_e2 (by decide +kernel)
theorem dX12_runFeast_236 : decode cX12_runFeast 236 = .ok (.aload_n 0, 1) := rd_chunk (k := 192) (i := 44) kmX12_runFeast_192_e2 (by decide +kernel)
theorem dX12_runFeast_237 : decode cX12_runFeast 237 = .ok (.getfield 110, 3) := rd_chunk (k := 192) (i := 45) kmX12_runFeast_192_e2 (by decide +kernel)
theorem dX12_runFeast_240 : decode cX12_runFeast 240 = .ok (.bipush 24, 2) := rd_chunk (k := 192) (i := 48) kmX12_runFeast_192_e2 (by decide +kernel)
theorem dX12_runFeast_242 : decode cX12_runFeast 242 = .ok (.iload 5, 2) := rd_chunk (k := 192) (i := 50) kmX12_runFeast_192_e2 (by decide +kernel)
theorem dX12_runFeast_244 : decode cX12_runFeast 244 = .ok (.imul, 1) := rd_chunk (k := 192) (i := 52) kmX12_runFeast_192_e2 (by decide +kernel)
theorem dX12_runFeast_245 : decode cX12_runFeast 245 = .ok (.aload_n 0, 1) := rd_chunk (k := 192) (i := 53) kmX12_runFeast_192_e2 (by decide +kernel)
theorem dX12_runFeast_246 : decode cX12_runFeast 246 = .ok (.getfield 116, 3) := rd_chunk (k := 192) (i := 54) kmX12_runFeast_192_e2 (by decide +kernel)
theorem dX12_runFeast_249 : decode cX12_runFeast 249 = .ok (.iload 5, 2) := rd_chunk (k := 192) (i := 57) kmX12_runFeast_192_e2 (by decide +kernel)
theorem dX12_runFeast_251 : decode cX12_runFeast 251 = .ok (.iaload, 1) := rd_chunk (k := 192) (i := 59) kmX12_runFeast_192_e2 (by decide +kernel)
theorem dX12_runFeast_252 : decode cX12_runFeast 252 = .ok (.iadd, 1) := rd_chunk (k := 192) (i := 60) kmX12_runFeast_192_e2 (by decide +kernel)
theorem dX12_runFeast_253 : decode cX12_runFeast 253 = .ok (.iaload, 1) := rd_chunk (k := 192) (i := 61) kmX12_runFeast_192_e2 (by decide +kernel)
theorem dX12_runFeast_254 : decode cX12_runFeast 254 = .ok (.istore 6, 2) := rd_chunk (k := 192) (i := 62) kmX12_runFeast_192_e2 (by decide +kernel)
abbrev mX12_runFeast_256_e2 : ByteArray := .mk #[0x15, 0x06, 0x2a, 0xb4, 0x00, 0x92, 0x04, 0x64, 0xa2, 0x00, 0x26, 0x2a, 0x15, 0x06, 0xb6, 0x01, 0x7d, 0x1b, 0xa1, 0x00, 0x1c, 0x2a, 0xb4, 0x00, 0x77, 0x15, 0x05, 0x5c, 0x2e, 0x04, 0x60, 0x4f, 0x2a, 0xb4, 0x00, 0x7a, 0x15, 0x06, 0x5c, 0x2e, 0x04, 0x60, 0x4f, 0xa7, 0x00, 0x27, 0x2a, 0xb4, 0x00, 0x74, 0x15, 0x05, 0x5c, 0x2e, 0x04, 0x60, 0x4f, 0x1c, 0x2a, 0xb4, 0x00, 0x74, 0x15, 0x05, 0x2e, 0x2a, 0xb4, 0x00, 0x71, 0x15, 0x05, 0x2e]
theorem kmX12_runFeast_256_e2 : CK cX12_runFeast 256 mX12_runFeast_256_e2 := ck_of (by decide +kernel)
theorem dX12_runFeast_256 : decode cX12_runFeast 256 = .ok (.iload 6, 2) := rd_chunk (k := 256) (i := 0) kmX12_runFeast_256_e2 (by decide +kernel)
theorem dX12_runFeast_258 : decode cX12_runFeast 258 = .ok (.aload_n 0, 1) := rd_chunk (k := 256) (i := 2) kmX12_runFeast_256_e2 (by decide +kernel)
theorem dX12_runFeast_259 : decode cX12_runFeast 259 = .ok (.getfield 146, 3) := rd_chunk (k := 256) (i := 3) kmX12_runFeast_256_e2 (by decide +kernel)
theorem dX12_runFeast_262 : decode cX12_runFeast 262 = .ok (.iconst 1, 1) := rd_chunk (k := 256) (i := 6) kmX12_runFeast_256_e2 (by decide +kernel)
theorem dX12_runFeast_263 : decode cX12_runFeast 263 = .ok (.isub, 1) := rd_chunk (k := 256) (i := 7) kmX12_runFeast_256_e2 (by decide +kernel)
theorem dX12_runFeast_264 : decode cX12_runFeast 264 = .ok (.if_icmp .ge 38, 3) := rd_chunk (k := 256) (i := 8) kmX12_runFeast_256_e2 (by decide +kernel)
theorem dX12_runFeast_267 : decode cX12_runFeast 267 = .ok (.aload_n 0, 1) := rd_chunk (k := 256) (i := 11) kmX12_runFeast_256_e2 (by decide +kernel)
theorem dX12_runFeast_268 : decode cX12_runFeast 268 = .ok (.iload 6, 2) := rd_chunk (k := 256) (i := 12) kmX12_runFeast_256_e2 (by decide +kernel)
theorem dX12_runFeast_270 : decode cX12_runFeast 270 = .ok (.invokevirtual 381, 3) := rd_chunk (k := 256) (i := 14) kmX12_runFeast_256_e2 (by decide +kernel)
theorem dX12_runFeast_273 : decode cX12_runFeast 273 = .ok (.iload_n 1, 1) := rd_chunk (k := 256) (i := 17) kmX12_runFeast_256_e2 (by decide +kernel)
theorem dX12_runFeast_274 : decode cX12_runFeast 274 = .ok (.if_icmp .lt 28, 3) := rd_chunk (k := 256) (i := 18) kmX12_runFeast_256_e2 (by decide +kernel)
theorem dX12_runFeast_277 : decode cX12_runFeast 277 = .ok (.aload_n 0, 1) := rd_chunk (k := 256) (i := 21) kmX12_runFeast_256_e2 (by decide +kernel)
theorem dX12_runFeast_278 : decode cX12_runFeast 278 = .ok (.getfield 119, 3) := rd_chunk (k := 256) (i := 22) kmX12_runFeast_256_e2 (by decide +kernel)
theorem dX12_runFeast_281 : decode cX12_runFeast 281 = .ok (.iload 5, 2) := rd_chunk (k := 256) (i := 25) kmX12_runFeast_256_e2 (by decide +kernel)
theorem dX12_runFeast_283 : decode cX12_runFeast 283 = .ok (.dup2, 1) := rd_chunk (k := 256) (i := 27) kmX12_runFeast_256_e2 (by decide +kernel)
theorem dX12_runFeast_284 : decode cX12_runFeast 284 = .ok (.iaload, 1) := rd_chunk (k := 256) (i := 28) kmX12_runFeast_256_e2 (by decide +kernel)
theorem dX12_runFeast_285 : decode cX12_runFeast 285 = .ok (.iconst 1, 1) := rd_chunk (k := 256) (i := 29) kmX12_runFeast_256_e2 (by decide +kernel)
theorem dX12_runFeast_286 : decode cX12_runFeast 286 = .ok (.iadd, 1) := rd_chunk (k := 256) (i := 30) kmX12_runFeast_256_e2 (by decide +kernel)
theorem dX12_runFeast_287 : decode cX12_runFeast 287 = .ok (.iastore, 1) := rd_chunk (k := 256) (i := 31) kmX12_runFeast_256_e2 (by decide +kernel)
theorem dX12_runFeast_288 : decode cX12_runFeast 288 = .ok (.aload_n 0, 1) := rd_chunk (k := 256) (i := 32) kmX12_runFeast_256_e2 (by decide +kernel)
theorem dX12_runFeast_289 : decode cX12_runFeast 289 = .ok (.getfield 122, 3) := rd_chunk (k := 256) (i := 33) kmX12_runFeast_256_e2 (by decide +kernel)
theorem dX12_runFeast_292 : decode cX12_runFeast 292 = .ok (.iload 6, 2) := rd_chunk (k := 256) (i := 36) kmX12_runFeast_256_e2 (by decide +kernel)
theorem dX12_runFeast_294 : decode cX12_runFeast 294 = .ok (.dup2, 1) := rd_chunk (k := 256) (i := 38) kmX12_runFeast_256_e2 (by decide +kernel)
theorem dX12_runFeast_295 : decode cX12_runFeast 295 = .ok (.iaload, 1) := rd_chunk (k := 256) (i := 39) kmX12_runFeast_256_e2 (by decide +kernel)
theorem dX12_runFeast_296 : decode cX12_runFeast 296 = .ok (.iconst 1, 1) := rd_chunk (k := 256) (i := 40) kmX12_runFeast_256_e2 (by decide +kernel)
theorem dX12_runFeast_297 : decode cX12_runFeast 297 = .ok (.iadd, 1) := rd_chunk (k := 256) (i := 41) kmX12_runFeast_256_e2 (by decide +kernel)
theorem dX12_runFeast_298 : decode cX12_runFeast 298 = .ok (.iastore, 1) := rd_chunk (k := 256) (i := 42) kmX12_runFeast_256_e2 (by decide +kernel)
theorem dX12_runFeast_299 : decode cX12_runFeast 299 = .ok (.goto 39, 3) := rd_chunk (k := 256) (i := 43) kmX12_runFeast_256_e2 (by decide +kernel)
theorem dX12_runFeast_302 : decode cX12_runFeast 302 = .ok (.aload_n 0, 1) := rd_chunk (k := 256) (i := 46) kmX12_runFeast_256_e2 (by decide +kernel)
theorem dX12_runFeast_303 : decode cX12_runFeast 303 = .ok (.getfield 116, 3) := rd_chunk (k := 256) (i := 47) kmX12_runFeast_256_e2 (by decide +kernel)
theorem dX12_runFeast_306 : decode cX12_runFeast 306 = .ok (.iload 5, 2) := rd_chunk (k := 256) (i := 50) kmX12_runFeast_256_e2 (by decide +kernel)
theorem dX12_runFeast_308 : decode cX12_runFeast 308 = .ok (.dup2, 1) := rd_chunk (k := 256) (i := 52) kmX12_runFeast_256_e2 (by decide +kernel)
theorem dX12_runFeast_309 : decode cX12_runFeast 309 = .ok (.iaload, 1) := rd_chunk (k := 256) (i := 53) kmX12_runFeast_256_e2 (by decide +kernel)
theorem dX12_runFeast_310 : decode cX12_runFeast 310 = .ok (.iconst 1, 1) := rd_chunk (k := 256) (i := 54) kmX12_runFeast_256_e2 (by decide +kernel)
theorem dX12_runFeast_311 : decode cX12_runFeast 311 = .ok (.iadd, 1) := rd_chunk (k := 256) (i := 55) kmX12_runFeast_256_e2 (by decide +kernel)
theorem dX12_runFeast_312 : decode cX12_runFeast 312 = .ok (.iastore, 1) := rd_chunk (k := 256) (i := 56) kmX12_runFeast_256_e2 (by decide +kernel)
theorem dX12_runFeast_313 : decode cX12_runFeast 313 = .ok (.iload_n 2, 1) := rd_chunk (k := 256) (i := 57) kmX12_runFeast_256_e2 (by decide +kernel)
theorem dX12_runFeast_314 : decode cX12_runFeast 314 = .ok (.aload_n 0, 1) := rd_chunk (k := 256) (i := 58) kmX12_runFeast_256_e2 (by decide +kernel)
theorem dX12_runFeast_315 : decode cX12_runFeast 315 = .ok (.getfield 116, 3) := rd_chunk (k := 256) (i := 59) kmX12_runFeast_256_e2 (by decide +kernel)
theorem dX12_runFeast_318 : decode cX12_runFeast 318 = .ok (.iload 5, 2) := rd_chunk (k := 256) (i := 62) kmX12_runFeast_256_e2 (by decide +kernel)
abbrev mX12_runFeast_320_e2 : ByteArray := .mk #[0x2e, 0x2a, 0xb4, 0x00, 0x71, 0x15, 0x05, 0x2e, 0xa0, 0x00, 0x07, 0x04, 0xa7, 0x00, 0x04, 0x03, 0x64, 0x3d, 0x84, 0x05, 0x01, 0xa7, 0xff, 0x7f, 0x84, 0x04, 0xff, 0xa7, 0xff, 0x70, 0x03, 0x36, 0x04, 0x15, 0x04, 0x2a, 0xb4, 0x00, 0x92, 0x04, 0x64, 0xa2, 0x00, 0x1a, 0x2a, 0x2a, 0xb4, 0x01, 0x7a, 0x2a, 0x15, 0x04, 0xb6, 0x01, 0x7d, 0xb8, 0x00, 0xf6, 0xb5, 0x01, 0x7a, 0x84, 0x04, 0x01, 0xa7, 0xff, 0xe1, 0x84, 0x03, 0x01, 0xa7, 0xff]
theorem kmX12_runFeast_320_e2 : CK cX12_runFeast 320 mX12_runFeast_320_e2 := ck_of (by decide +kernel)
theorem dX12_runFeast_320 : decode cX12_runFeast 320 = .ok (.iaload, 1) := rd_chunk (k := 320) (i := 0) kmX12_runFeast_320_e2 (by decide +kernel)
theorem dX12_runFeast_321 : decode cX12_runFeast 321 = .ok (.aload_n 0, 1) := rd_chunk (k := 320) (i := 1) kmX12_runFeast_320_e2 (by decide +kernel)
theorem dX12_runFeast_322 : decode cX12_runFeast 322 = .ok (.getfield 113, 3) := rd_chunk (k := 320) (i := 2) kmX12_runFeast_320_e2 (by decide +kernel)
theorem dX12_runFeast_325 : decode cX12_runFeast 325 = .ok (.iload 5, 2) := rd_chunk (k := 320) (i := 5) kmX12_runFeast_320_e2 (by decide +kernel)
theorem dX12_runFeast_327 : decode cX12_runFeast 327 = .ok (.iaload, 1) := rd_chunk (k := 320) (i := 7) kmX12_runFeast_320_e2 (by decide +kernel)
theorem dX12_runFeast_328 : decode cX12_runFeast 328 = .ok (.if_icmp .ne 7, 3) := rd_chunk (k := 320) (i := 8) kmX12_runFeast_320_e2 (by decide +kernel)
theorem dX12_runFeast_331 : decode cX12_runFeast 331 = .ok (.iconst 1, 1) := rd_chunk (k := 320) (i := 11) kmX12_runFeast_320_e2 (by decide +kernel)
theorem dX12_runFeast_332 : decode cX12_runFeast 332 = .ok (.goto 4, 3) := rd_chunk (k := 320) (i := 12) kmX12_runFeast_320_e2 (by decide +kernel)
theorem dX12_runFeast_335 : decode cX12_runFeast 335 = .ok (.iconst 0, 1) := rd_chunk (k := 320) (i := 15) kmX12_runFeast_320_e2 (by decide +kernel)
theorem dX12_runFeast_336 : decode cX12_runFeast 336 = .ok (.isub, 1) := rd_chunk (k := 320) (i := 16) kmX12_runFeast_320_e2 (by decide +kernel)
theorem dX12_runFeast_337 : decode cX12_runFeast 337 = .ok (.istore_n 2, 1) := rd_chunk (k := 320) (i := 17) kmX12_runFeast_320_e2 (by decide +kernel)
theorem dX12_runFeast_338 : decode cX12_runFeast 338 = .ok (.iinc 5 1, 3) := rd_chunk (k := 320) (i := 18) kmX12_runFeast_320_e2 (by decide +kernel)
theorem dX12_runFeast_341 : decode cX12_runFeast 341 = .ok (.goto (-129), 3) := rd_chunk (k := 320) (i := 21) kmX12_runFeast_320_e2 (by decide +kernel)
theorem dX12_runFeast_344 : decode cX12_runFeast 344 = .ok (.iinc 4 (-1), 3) := rd_chunk (k := 320) (i := 24) kmX12_runFeast_320_e2 (by decide +kernel)
theorem dX12_runFeast_347 : decode cX12_runFeast 347 = .ok (.goto (-144), 3) := rd_chunk (k := 320) (i := 27) kmX12_runFeast_320_e2 (by decide +kernel)
theorem dX12_runFeast_350 : decode cX12_runFeast 350 = .ok (.iconst 0, 1) := rd_chunk (k := 320) (i := 30) kmX12_runFeast_320_e2 (by decide +kernel)
theorem dX12_runFeast_351 : decode cX12_runFeast 351 = .ok (.istore 4, 2) := rd_chunk (k := 320) (i := 31) kmX12_runFeast_320_e2 (by decide +kernel)
theorem dX12_runFeast_353 : decode cX12_runFeast 353 = .ok (.iload 4, 2) := rd_chunk (k := 320) (i := 33) kmX12_runFeast_320_e2 (by decide +kernel)
theorem dX12_runFeast_355 : decode cX12_runFeast 355 = .ok (.aload_n 0, 1) := rd_chunk (k := 320) (i := 35) kmX12_runFeast_320_e2 (by decide +kernel)
theorem dX12_runFeast_356 : decode cX12_runFeast 356 = .ok (.getfield 146, 3) := rd_chunk (k := 320) (i := 36) kmX12_runFeast_320_e2 (by decide +kernel)
theorem dX12_runFeast_359 : decode cX12_runFeast 359 = .ok (.iconst 1, 1) := rd_chunk (k := 320) (i := 39) kmX12_runFeast_320_e2 (by decide +kernel)
theorem dX12_runFeast_360 : decode cX12_runFeast 360 = .ok (.isub, 1) := rd_chunk (k := 320) (i := 40) kmX12_runFeast_320_e2 (by decide +kernel)
theorem dX12_runFeast_361 : decode cX12_runFeast 361 = .ok (.if_icmp .ge 26, 3) := rd_chunk (k := 320) (i := 41) kmX12_runFeast_320_e2 (by decide +kernel)
theorem dX12_runFeast_364 : decode cX12_runFeast 364 = .ok (.aload_n 0, 1) := rd_chunk (k := 320) (i := 44) kmX12_runFeast_320_e2 (by decide +kernel)
theorem dX12_runFeast_365 : decode cX12_runFeast 365 = .ok (.aload_n 0, 1) := rd_chunk (k := 320) (i := 45) kmX12_runFeast_320_e2 (by decide +kernel)
theorem dX12_runFeast_366 : decode cX12_runFeast 366 = .ok (.getfield 378, 3) := rd_chunk (k := 320) (i := 46) kmX12_runFeast_320_e2 (by decide +kernel)
theorem dX12_runFeast_369 : decode cX12_runFeast 369 = .ok (.aload_n 0, 1) := rd_chunk (k := 320) (i := 49) kmX12_runFeast_320_e2 (by decide +kernel)
theorem dX12_runFeast_370 : decode cX12_runFeast 370 = .ok (.iload 4, 2) := rd_chunk (k := 320) (i := 50) kmX12_runFeast_320_e2 (by decide +kernel)
theorem dX12_runFeast_372 : decode cX12_runFeast 372 = .ok (.invokevirtual 381, 3) := rd_chunk (k := 320) (i := 52) kmX12_runFeast_320_e2 (by decide +kernel)
theorem dX12_runFeast_375 : decode cX12_runFeast 375 = .ok (.invokestatic 246, 3) := rd_chunk (k := 320) (i := 55) kmX12_runFeast_320_e2 (by decide +kernel)
theorem dX12_runFeast_378 : decode cX12_runFeast 378 = .ok (.putfield 378, 3) := rd_chunk (k := 320) (i := 58) kmX12_runFeast_320_e2 (by decide +kernel)
theorem dX12_runFeast_381 : decode cX12_runFeast 381 = .ok (.iinc 4 1, 3) := rd_chunk (k := 320) (i := 61) kmX12_runFeast_320_e2 (by decide +kernel)
abbrev mX12_runFeast_384_e2 : ByteArray := .mk #[0xa7, 0xff, 0xe1, 0x84, 0x03, 0x01, 0xa7, 0xff, 0x04, 0x1d, 0xac]
theorem kmX12_runFeast_384_e2 : CK cX12_runFeast 384 mX12_runFeast_384_e2 := ck_of (by decide +kernel)
theorem dX12_runFeast_384 : decode cX12_runFeast 384 = .ok (.goto (-31), 3) := rd_chunk (k := 384) (i := 0) kmX12_runFeast_384_e2 (by decide +kernel)
theorem dX12_runFeast_387 : decode cX12_runFeast 387 = .ok (.iinc 3 1, 3) := rd_chunk (k := 384) (i := 3) kmX12_runFeast_384_e2 (by decide +kernel)
theorem dX12_runFeast_390 : decode cX12_runFeast 390 = .ok (.goto (-252), 3) := rd_chunk (k := 384) (i := 6) kmX12_runFeast_384_e2 (by decide +kernel)
theorem dX12_runFeast_393 : decode cX12_runFeast 393 = .ok (.iload_n 3, 1) := rd_chunk (k := 384) (i := 9) kmX12_runFeast_384_e2 (by decide +kernel)
theorem dX12_runFeast_394 : decode cX12_runFeast 394 = .ok (.ireturn, 1) := rd_chunk (k := 384) (i := 10) kmX12_runFeast_384_e2 (by decide +kernel)
abbrev mX12_feast_0_e2 : ByteArray := .mk #[0x2a, 0x03, 0xb5, 0x00, 0x8c, 0x2a, 0xb4, 0x00, 0x92, 0x99, 0x00, 0x0d, 0x1b, 0x04, 0x10, 0x06, 0xb8, 0x00, 0x95, 0x9a, 0x00, 0x05, 0x02, 0xac, 0x2a, 0x1b, 0xb6, 0x01, 0x80, 0x3d, 0x03, 0x3e, 0x02, 0x36, 0x04, 0x03, 0x36, 0x05, 0x15, 0x05, 0x2a, 0xb4, 0x00, 0x99, 0xa2, 0x00, 0x23, 0x2a, 0xb4, 0x00, 0x77, 0x15, 0x05, 0x2e, 0x1d, 0xa3, 0x00, 0x06, 0xa7, 0x00, 0x0f, 0x2a, 0xb4, 0x00, 0x77, 0x15, 0x05, 0x2e, 0x3e, 0x15, 0x05, 0x36]
theorem kmX12_feast_0_e2 : CK cX12_feast 0 mX12_feast_0_e2 := ck_of (by decide +kernel)
theorem dX12_feast_0 : decode cX12_feast 0 = .ok (.aload_n 0, 1) := rd_chunk (k := 0) (i := 0) kmX12_feast_0_e2 (by decide +kernel)
theorem dX12_feast_1 : decode cX12_feast 1 = .ok (.iconst 0, 1) := rd_chunk (k := 0) (i := 1) kmX12_feast_0_e2 (by decide +kernel)
theorem dX12_feast_2 : decode cX12_feast 2 = .ok (.putfield 140, 3) := rd_chunk (k := 0) (i := 2) kmX12_feast_0_e2 (by decide +kernel)
theorem dX12_feast_5 : decode cX12_feast 5 = .ok (.aload_n 0, 1) := rd_chunk (k := 0) (i := 5) kmX12_feast_0_e2 (by decide +kernel)
theorem dX12_feast_6 : decode cX12_feast 6 = .ok (.getfield 146, 3) := rd_chunk (k := 0) (i := 6) kmX12_feast_0_e2 (by decide +kernel)
theorem dX12_feast_9 : decode cX12_feast 9 = .ok (.ifCond .eq 13, 3) := rd_chunk (k := 0) (i := 9) kmX12_feast_0_e2 (by decide +kernel)
theorem dX12_feast_12 : decode cX12_feast 12 = .ok (.iload_n 1, 1) := rd_chunk (k := 0) (i := 12) kmX12_feast_0_e2 (by decide +kernel)
theorem dX12_feast_13 : decode cX12_feast 13 = .ok (.iconst 1, 1) := rd_chunk (k := 0) (i := 13) kmX12_feast_0_e2 (by decide +kernel)
theorem dX12_feast_14 : decode cX12_feast 14 = .ok (.bipush 6, 2) := rd_chunk (k := 0) (i := 14) kmX12_feast_0_e2 (by decide +kernel)
theorem dX12_feast_16 : decode cX12_feast 16 = .ok (.invokestatic 149, 3) := rd_chunk (k := 0) (i := 16) kmX12_feast_0_e2 (by decide +kernel)
theorem dX12_feast_19 : decode cX12_feast 19 = .ok (.ifCond .ne 5, 3) := rd_chunk (k := 0) (i := 19) kmX12_feast_0_e2 (by decide +kernel)
theorem dX12_feast_22 : decode cX12_feast 22 = .ok (.iconst (-1), 1) := rd_chunk (k := 0) (i := 22) kmX12_feast_0_e2 (by decide +kernel)
theorem dX12_feast_23 : decode cX12_feast 23 = .ok (.ireturn, 1) := rd_chunk (k := 0) (i := 23) kmX12_feast_0_e2 (by decide +kernel)
theorem dX12_feast_24 : decode cX12_feast 24 = .ok (.aload_n 0, 1) := rd_chunk (k := 0) (i := 24) kmX12_feast_0_e2 (by decide +kernel)
theorem dX12_feast_25 : decode cX12_feast 25 = .ok (.iload_n 1, 1) := rd_chunk (k := 0) (i := 25) kmX12_feast_0_e2 (by decide +kernel)
theorem dX12_feast_26 : decode cX12_feast 26 = .ok (.invokevirtual 384, 3) := rd_chunk (k := 0) (i := 26) kmX12_feast_0_e2 (by decide +kernel)
theorem dX12_feast_29 : decode cX12_feast 29 = .ok (.istore_n 2, 1) := rd_chunk (k := 0) (i := 29) kmX12_feast_0_e2 (by decide +kernel)
theorem dX12_feast_30 : decode cX12_feast 30 = .ok (.iconst 0, 1) := rd_chunk (k := 0) (i := 30) kmX12_feast_0_e2 (by decide +kernel)
theorem dX12_feast_31 : decode cX12_feast 31 = .ok (.istore_n 3, 1) := rd_chunk (k := 0) (i := 31) kmX12_feast_0_e2 (by decide +kernel)
theorem dX12_feast_32 : decode cX12_feast 32 = .ok (.iconst (-1), 1) := rd_chunk (k := 0) (i := 32) kmX12_feast_0_e2 (by decide +kernel)
theorem dX12_feast_33 : decode cX12_feast 33 = .ok (.istore 4, 2) := rd_chunk (k := 0) (i := 33) kmX12_feast_0_e2 (by decide +kernel)
theorem dX12_feast_35 : decode cX12_feast 35 = .ok (.iconst 0, 1) := rd_chunk (k := 0) (i := 35) kmX12_feast_0_e2 (by decide +kernel)
theorem dX12_feast_36 : decode cX12_feast 36 = .ok (.istore 5, 2) := rd_chunk (k := 0) (i := 36) kmX12_feast_0_e2 (by decide +kernel)
theorem dX12_feast_38 : decode cX12_feast 38 = .ok (.iload 5, 2) := rd_chunk (k := 0) (i := 38) kmX12_feast_0_e2 (by decide +kernel)
theorem dX12_feast_40 : decode cX12_feast 40 = .ok (.aload_n 0, 1) := rd_chunk (k := 0) (i := 40) kmX12_feast_0_e2 (by decide +kernel)
theorem dX12_feast_41 : decode cX12_feast 41 = .ok (.getfield 153, 3) := rd_chunk (k := 0) (i := 41) kmX12_feast_0_e2 (by decide +kernel)
theorem dX12_feast_44 : decode cX12_feast 44 = .ok (.if_icmp .ge 35, 3) := rd_chunk (k := 0) (i := 44) kmX12_feast_0_e2 (by decide +kernel)
theorem dX12_feast_47 : decode cX12_feast 47 = .ok (.aload_n 0, 1) := rd_chunk (k := 0) (i := 47) kmX12_feast_0_e2 (by decide +kernel)
theorem dX12_feast_48 : decode cX12_feast 48 = .ok (.getfield 119, 3) := rd_chunk (k := 0) (i := 48) kmX12_feast_0_e2 (by decide +kernel)
theorem dX12_feast_51 : decode cX12_feast 51 = .ok (.iload 5, 2) := rd_chunk (k := 0) (i := 51) kmX12_feast_0_e2 (by decide +kernel)
theorem dX12_feast_53 : decode cX12_feast 53 = .ok (.iaload, 1) := rd_chunk (k := 0) (i := 53) kmX12_feast_0_e2 (by decide +kernel)
theorem dX12_feast_54 : decode cX12_feast 54 = .ok (.iload_n 3, 1) := rd_chunk (k := 0) (i := 54) kmX12_feast_0_e2 (by decide +kernel)
theorem dX12_feast_55 : decode cX12_feast 55 = .ok (.if_icmp .gt 6, 3) := rd_chunk (k := 0) (i := 55) kmX12_feast_0_e2 (by decide +kernel)
theorem dX12_feast_58 : decode cX12_feast 58 = .ok (.goto 15, 3) := rd_chunk (k := 0) (i := 58) kmX12_feast_0_e2 (by decide +kernel)
theorem dX12_feast_61 : decode cX12_feast 61 = .ok (.aload_n 0, 1) := rd_chunk (k := 0) (i := 61) kmX12_feast_0_e2 (by decide +kernel)
theorem dX12_feast_62 : decode cX12_feast 62 = .ok (.getfield 119, 3) := rd_chunk (k := 0) (i := 62) kmX12_feast_0_e2 (by decide +kernel)
abbrev mX12_feast_64_e2 : ByteArray := .mk #[0x77, 0x15, 0x05, 0x2e, 0x3e, 0x15, 0x05, 0x36, 0x04, 0x84, 0x05, 0x01, 0xa7, 0xff, 0xda, 0x2a, 0x03, 0xb5, 0x00, 0x8f, 0x2a, 0x1d, 0x85, 0xb6, 0x01, 0x14, 0x2a, 0x15, 0x04, 0x85, 0xb6, 0x01, 0x14, 0x2a, 0x2a, 0xb4, 0x01, 0x7a, 0x85, 0xb6, 0x01, 0x14, 0x1c, 0xac]
theorem kmX12_feast_64_e2 : CK cX12_feast 64 mX12_feast_64_e2 := ck_of (by decide +kernel)
theorem dX12_feast_65 : decode cX12_feast 65 = .ok (.iload 5, 2) := rd_chunk (k := 64) (i := 1) kmX12_feast_64_e2 (by decide +kernel)
theorem dX12_feast_67 : decode cX12_feast 67 = .ok (.iaload, 1) := rd_chunk (k := 64) (i := 3) kmX12_feast_64_e2 (by decide +kernel)
theorem dX12_feast_68 : decode cX12_feast 68 = .ok (.istore_n 3, 1) := rd_chunk (k := 64) (i := 4) kmX12_feast_64_e2 (by decide +kernel)
theorem dX12_feast_69 : decode cX12_feast 69 = .ok (.iload 5, 2) := rd_chunk (k := 64) (i := 5) kmX12_feast_64_e2 (by decide +kernel)
theorem dX12_feast_71 : decode cX12_feast 71 = .ok (.istore 4, 2) := rd_chunk (k := 64) (i := 7) kmX12_feast_64_e2 (by decide +kernel)
theorem dX12_feast_73 : decode cX12_feast 73 = .ok (.iinc 5 1, 3) := rd_chunk (k := 64) (i := 9) kmX12_feast_64_e2 (by decide +kernel)
theorem dX12_feast_76 : decode cX12_feast 76 = .ok (.goto (-38), 3) := rd_chunk (k := 64) (i := 12) kmX12_feast_64_e2 (by decide +kernel)
theorem dX12_feast_79 : decode cX12_feast 79 = .ok (.aload_n 0, 1) := rd_chunk (k := 64) (i := 15) kmX12_feast_64_e2 (by decide +kernel)
theorem dX12_feast_80 : decode cX12_feast 80 = .ok (.iconst 0, 1) := rd_chunk (k := 64) (i := 16) kmX12_feast_64_e2 (by decide +kernel)
theorem dX12_feast_81 : decode cX12_feast 81 = .ok (.putfield 143, 3) := rd_chunk (k := 64) (i := 17) kmX12_feast_64_e2 (by decide +kernel)
theorem dX12_feast_84 : decode cX12_feast 84 = .ok (.aload_n 0, 1) := rd_chunk (k := 64) (i := 20) kmX12_feast_64_e2 (by decide +kernel)
theorem dX12_feast_85 : decode cX12_feast 85 = .ok (.iload_n 3, 1) := rd_chunk (k := 64) (i := 21) kmX12_feast_64_e2 (by decide +kernel)
theorem dX12_feast_86 : decode cX12_feast 86 = .ok (.i2l, 1) := rd_chunk (k := 64) (i := 22) kmX12_feast_64_e2 (by decide +kernel)
theorem dX12_feast_87 : decode cX12_feast 87 = .ok (.invokevirtual 276, 3) := rd_chunk (k := 64) (i := 23) kmX12_feast_64_e2 (by decide +kernel)
theorem dX12_feast_90 : decode cX12_feast 90 = .ok (.aload_n 0, 1) := rd_chunk (k := 64) (i := 26) kmX12_feast_64_e2 (by decide +kernel)
theorem dX12_feast_91 : decode cX12_feast 91 = .ok (.iload 4, 2) := rd_chunk (k := 64) (i := 27) kmX12_feast_64_e2 (by decide +kernel)
theorem dX12_feast_93 : decode cX12_feast 93 = .ok (.i2l, 1) := rd_chunk (k := 64) (i := 29) kmX12_feast_64_e2 (by decide +kernel)
theorem dX12_feast_94 : decode cX12_feast 94 = .ok (.invokevirtual 276, 3) := rd_chunk (k := 64) (i := 30) kmX12_feast_64_e2 (by decide +kernel)
theorem dX12_feast_97 : decode cX12_feast 97 = .ok (.aload_n 0, 1) := rd_chunk (k := 64) (i := 33) kmX12_feast_64_e2 (by decide +kernel)
theorem dX12_feast_98 : decode cX12_feast 98 = .ok (.aload_n 0, 1) := rd_chunk (k := 64) (i := 34) kmX12_feast_64_e2 (by decide +kernel)
theorem dX12_feast_99 : decode cX12_feast 99 = .ok (.getfield 378, 3) := rd_chunk (k := 64) (i := 35) kmX12_feast_64_e2 (by decide +kernel)
theorem dX12_feast_102 : decode cX12_feast 102 = .ok (.i2l, 1) := rd_chunk (k := 64) (i := 38) kmX12_feast_64_e2 (by decide +kernel)
theorem dX12_feast_103 : decode cX12_feast 103 = .ok (.invokevirtual 276, 3) := rd_chunk (k := 64) (i := 39) kmX12_feast_64_e2 (by decide +kernel)
theorem dX12_feast_106 : decode cX12_feast 106 = .ok (.iload_n 2, 1) := rd_chunk (k := 64) (i := 42) kmX12_feast_64_e2 (by decide +kernel)
theorem dX12_feast_107 : decode cX12_feast 107 = .ok (.ireturn, 1) := rd_chunk (k := 64) (i := 43) kmX12_feast_64_e2 (by decide +kernel)
theorem dX12_jam_0 : decode cX12_jam 0 = .ok (.aload_n 0, 1) := by decide +kernel
theorem dX12_jam_1 : decode cX12_jam 1 = .ok (.iconst 0, 1) := by decide +kernel
theorem dX12_jam_2 : decode cX12_jam 2 = .ok (.putfield 140, 3) := by decide +kernel
theorem dX12_jam_5 : decode cX12_jam 5 = .ok (.aload_n 0, 1) := by decide +kernel
theorem dX12_jam_6 : decode cX12_jam 6 = .ok (.getfield 146, 3) := by decide +kernel
theorem dX12_jam_9 : decode cX12_jam 9 = .ok (.ifCond .ne 6, 3) := by decide +kernel
theorem dX12_jam_12 : decode cX12_jam 12 = .ok (.bipush (-2), 2) := by decide +kernel
theorem dX12_jam_14 : decode cX12_jam 14 = .ok (.ireturn, 1) := by decide +kernel
theorem dX12_jam_15 : decode cX12_jam 15 = .ok (.aload_n 0, 1) := by decide +kernel
theorem dX12_jam_16 : decode cX12_jam 16 = .ok (.iconst 1, 1) := by decide +kernel
theorem dX12_jam_17 : decode cX12_jam 17 = .ok (.invokevirtual 384, 3) := by decide +kernel
theorem dX12_jam_20 : decode cX12_jam 20 = .ok (.pop, 1) := by decide +kernel
theorem dX12_jam_21 : decode cX12_jam 21 = .ok (.bipush (-2), 2) := by decide +kernel
theorem dX12_jam_23 : decode cX12_jam 23 = .ok (.istore_n 1, 1) := by decide +kernel
theorem dX12_jam_24 : decode cX12_jam 24 = .ok (.iconst 0, 1) := by decide +kernel
theorem dX12_jam_25 : decode cX12_jam 25 = .ok (.istore_n 2, 1) := by decide +kernel
theorem dX12_jam_26 : decode cX12_jam 26 = .ok (.iload_n 2, 1) := by decide +kernel
theorem dX12_jam_27 : decode cX12_jam 27 = .ok (.aload_n 0, 1) := by decide +kernel
theorem dX12_jam_28 : decode cX12_jam 28 = .ok (.getfield 146, 3) := by decide +kernel
theorem dX12_jam_31 : decode cX12_jam 31 = .ok (.if_icmp .ge 34, 3) := by decide +kernel
theorem dX12_jam_34 : decode cX12_jam 34 = .ok (.aload_n 0, 1) := by decide +kernel
theorem dX12_jam_35 : decode cX12_jam 35 = .ok (.getfield 122, 3) := by decide +kernel
theorem dX12_jam_38 : decode cX12_jam 38 = .ok (.iload_n 2, 1) := by decide +kernel
theorem dX12_jam_39 : decode cX12_jam 39 = .ok (.iaload, 1) := by decide +kernel
theorem dX12_jam_40 : decode cX12_jam 40 = .ok (.iload_n 1, 1) := by decide +kernel
theorem dX12_jam_41 : decode cX12_jam 41 = .ok (.ifCond .ge 7, 3) := by decide +kernel
theorem dX12_jam_44 : decode cX12_jam 44 = .ok (.iconst 0, 1) := by decide +kernel
theorem dX12_jam_45 : decode cX12_jam 45 = .ok (.goto 9, 3) := by decide +kernel
theorem dX12_jam_48 : decode cX12_jam 48 = .ok (.aload_n 0, 1) := by decide +kernel
theorem dX12_jam_49 : decode cX12_jam 49 = .ok (.getfield 122, 3) := by decide +kernel
theorem dX12_jam_52 : decode cX12_jam 52 = .ok (.iload_n 1, 1) := by decide +kernel
theorem dX12_jam_53 : decode cX12_jam 53 = .ok (.iaload, 1) := by decide +kernel
theorem dX12_jam_54 : decode cX12_jam 54 = .ok (.if_icmp .le 5, 3) := by decide +kernel
theorem dX12_jam_57 : decode cX12_jam 57 = .ok (.iload_n 2, 1) := by decide +kernel
theorem dX12_jam_58 : decode cX12_jam 58 = .ok (.istore_n 1, 1) := by decide +kernel
theorem dX12_jam_59 : decode cX12_jam 59 = .ok (.iinc 2 1, 3) := by decide +kernel
theorem dX12_jam_62 : decode cX12_jam 62 = .ok (.goto (-36), 3) := by decide +kernel
theorem dX12_jam_65 : decode cX12_jam 65 = .ok (.iload_n 1, 1) := by decide +kernel
theorem dX12_jam_66 : decode cX12_jam 66 = .ok (.ifCond .ge 6, 3) := by decide +kernel
theorem dX12_jam_69 : decode cX12_jam 69 = .ok (.bipush (-2), 2) := by decide +kernel
theorem dX12_jam_71 : decode cX12_jam 71 = .ok (.ireturn, 1) := by decide +kernel
theorem dX12_jam_72 : decode cX12_jam 72 = .ok (.aload_n 0, 1) := by decide +kernel
theorem dX12_jam_73 : decode cX12_jam 73 = .ok (.iconst 0, 1) := by decide +kernel
theorem dX12_jam_74 : decode cX12_jam 74 = .ok (.putfield 143, 3) := by decide +kernel
theorem dX12_jam_77 : decode cX12_jam 77 = .ok (.aload_n 0, 1) := by decide +kernel
theorem dX12_jam_78 : decode cX12_jam 78 = .ok (.aload_n 0, 1) := by decide +kernel
theorem dX12_jam_79 : decode cX12_jam 79 = .ok (.getfield 122, 3) := by decide +kernel
theorem dX12_jam_82 : decode cX12_jam 82 = .ok (.iload_n 1, 1) := by decide +kernel
theorem dX12_jam_83 : decode cX12_jam 83 = .ok (.iaload, 1) := by decide +kernel
theorem dX12_jam_84 : decode cX12_jam 84 = .ok (.i2l, 1) := by decide +kernel
theorem dX12_jam_85 : decode cX12_jam 85 = .ok (.invokevirtual 276, 3) := by decide +kernel
theorem dX12_jam_88 : decode cX12_jam 88 = .ok (.iload_n 1, 1) := by decide +kernel
theorem dX12_jam_89 : decode cX12_jam 89 = .ok (.ireturn, 1) := by decide +kernel
theorem dX12_put_0 : decode cX12_put 0 = .ok (.aload_n 0, 1) := by decide +kernel
theorem dX12_put_1 : decode cX12_put 1 = .ok (.getfield 128, 3) := by decide +kernel
theorem dX12_put_4 : decode cX12_put 4 = .ok (.aload_n 0, 1) := by decide +kernel
theorem dX12_put_5 : decode cX12_put 5 = .ok (.getfield 387, 3) := by decide +kernel
theorem dX12_put_8 : decode cX12_put 8 = .ok (.iload_n 1, 1) := by decide +kernel
theorem dX12_put_9 : decode cX12_put 9 = .ok (.iastore, 1) := by decide +kernel
theorem dX12_put_10 : decode cX12_put 10 = .ok (.aload_n 0, 1) := by decide +kernel
theorem dX12_put_11 : decode cX12_put 11 = .ok (.dup, 1) := by decide +kernel
theorem dX12_put_12 : decode cX12_put 12 = .ok (.getfield 387, 3) := by decide +kernel
theorem dX12_put_15 : decode cX12_put 15 = .ok (.iconst 1, 1) := by decide +kernel
theorem dX12_put_16 : decode cX12_put 16 = .ok (.iadd, 1) := by decide +kernel
theorem dX12_put_17 : decode cX12_put 17 = .ok (.putfield 387, 3) := by decide +kernel
theorem dX12_put_20 : decode cX12_put 20 = .ok (.return_, 1) := by decide +kernel
theorem dX12_take_0 : decode cX12_take 0 = .ok (.aload_n 0, 1) := by decide +kernel
theorem dX12_take_1 : decode cX12_take 1 = .ok (.dup, 1) := by decide +kernel
theorem dX12_take_2 : decode cX12_take 2 = .ok (.getfield 387, 3) := by decide +kernel
theorem dX12_take_5 : decode cX12_take 5 = .ok (.iconst 1, 1) := by decide +kernel
theorem dX12_take_6 : decode cX12_take 6 = .ok (.iadd, 1) := by decide +kernel
theorem dX12_take_7 : decode cX12_take 7 = .ok (.putfield 387, 3) := by decide +kernel
theorem dX12_take_10 : decode cX12_take 10 = .ok (.aload_n 0, 1) := by decide +kernel
theorem dX12_take_11 : decode cX12_take 11 = .ok (.getfield 128, 3) := by decide +kernel
theorem dX12_take_14 : decode cX12_take 14 = .ok (.aload_n 0, 1) := by decide +kernel
theorem dX12_take_15 : decode cX12_take 15 = .ok (.getfield 387, 3) := by decide +kernel
theorem dX12_take_18 : decode cX12_take 18 = .ok (.iconst 1, 1) := by decide +kernel
theorem dX12_take_19 : decode cX12_take 19 = .ok (.isub, 1) := by decide +kernel
theorem dX12_take_20 : decode cX12_take 20 = .ok (.iaload, 1) := by decide +kernel
theorem dX12_take_21 : decode cX12_take 21 = .ok (.ireturn, 1) := by decide +kernel
abbrev mX12_keep_0_e2 : ByteArray := .mk #[0x2a, 0x03, 0xb5, 0x00, 0x8c, 0x1b, 0x03, 0x04, 0xb8, 0x00, 0x95, 0x9a, 0x00, 0x05, 0x03, 0xac, 0x2a, 0xb4, 0x00, 0x83, 0x1b, 0x04, 0x54, 0x2a, 0xb4, 0x00, 0x86, 0x1b, 0x2a, 0xb4, 0x00, 0xc6, 0x4f, 0x2a, 0xb4, 0x00, 0x89, 0x1b, 0x2a, 0xb4, 0x00, 0x99, 0x4f, 0x2a, 0x11, 0x01, 0x0a, 0x1b, 0x68, 0xb5, 0x01, 0x83, 0x03, 0x3d, 0x1c, 0x10, 0x18, 0xa2, 0x00, 0x1d, 0x2a, 0x2a, 0xb4, 0x00, 0x0d, 0x1c, 0x2e, 0xb6, 0x01, 0x86, 0x2a, 0x2a]
theorem kmX12_keep_0_e2 : CK cX12_keep 0 mX12_keep_0_e2 := ck_of (by decide +kernel)
theorem dX12_keep_0 : decode cX12_keep 0 = .ok (.aload_n 0, 1) := rd_chunk (k := 0) (i := 0) kmX12_keep_0_e2 (by decide +kernel)
theorem dX12_keep_1 : decode cX12_keep 1 = .ok (.iconst 0, 1) := rd_chunk (k := 0) (i := 1) kmX12_keep_0_e2 (by decide +kernel)
theorem dX12_keep_2 : decode cX12_keep 2 = .ok (.putfield 140, 3) := rd_chunk (k := 0) (i := 2) kmX12_keep_0_e2 (by decide +kernel)
theorem dX12_keep_5 : decode cX12_keep 5 = .ok (.iload_n 1, 1) := rd_chunk (k := 0) (i := 5) kmX12_keep_0_e2 (by decide +kernel)
theorem dX12_keep_6 : decode cX12_keep 6 = .ok (.iconst 0, 1) := rd_chunk (k := 0) (i := 6) kmX12_keep_0_e2 (by decide +kernel)
theorem dX12_keep_7 : decode cX12_keep 7 = .ok (.iconst 1, 1) := rd_chunk (k := 0) (i := 7) kmX12_keep_0_e2 (by decide +kernel)
theorem dX12_keep_8 : decode cX12_keep 8 = .ok (.invokestatic 149, 3) := rd_chunk (k := 0) (i := 8) kmX12_keep_0_e2 (by decide +kernel)
theorem dX12_keep_11 : decode cX12_keep 11 = .ok (.ifCond .ne 5, 3) := rd_chunk (k := 0) (i := 11) kmX12_keep_0_e2 (by decide +kernel)
theorem dX12_keep_14 : decode cX12_keep 14 = .ok (.iconst 0, 1) := rd_chunk (k := 0) (i := 14) kmX12_keep_0_e2 (by decide +kernel)
theorem dX12_keep_15 : decode cX12_keep 15 = .ok (.ireturn, 1) := rd_chunk (k := 0) (i := 15) kmX12_keep_0_e2 (by decide +kernel)
theorem dX12_keep_16 : decode cX12_keep 16 = .ok (.aload_n 0, 1) := rd_chunk (k := 0) (i := 16) kmX12_keep_0_e2 (by decide +kernel)
theorem dX12_keep_17 : decode cX12_keep 17 = .ok (.getfield 131, 3) := rd_chunk (k := 0) (i := 17) kmX12_keep_0_e2 (by decide +kernel)
theorem dX12_keep_20 : decode cX12_keep 20 = .ok (.iload_n 1, 1) := rd_chunk (k := 0) (i := 20) kmX12_keep_0_e2 (by decide +kernel)
theorem dX12_keep_21 : decode cX12_keep 21 = .ok (.iconst 1, 1) := rd_chunk (k := 0) (i := 21) kmX12_keep_0_e2 (by decide +kernel)
theorem dX12_keep_22 : decode cX12_keep 22 = .ok (.bastore, 1) := rd_chunk (k := 0) (i := 22) kmX12_keep_0_e2 (by decide +kernel)
theorem dX12_keep_23 : decode cX12_keep 23 = .ok (.aload_n 0, 1) := rd_chunk (k := 0) (i := 23) kmX12_keep_0_e2 (by decide +kernel)
theorem dX12_keep_24 : decode cX12_keep 24 = .ok (.getfield 134, 3) := rd_chunk (k := 0) (i := 24) kmX12_keep_0_e2 (by decide +kernel)
theorem dX12_keep_27 : decode cX12_keep 27 = .ok (.iload_n 1, 1) := rd_chunk (k := 0) (i := 27) kmX12_keep_0_e2 (by decide +kernel)
theorem dX12_keep_28 : decode cX12_keep 28 = .ok (.aload_n 0, 1) := rd_chunk (k := 0) (i := 28) kmX12_keep_0_e2 (by decide +kernel)
theorem dX12_keep_29 : decode cX12_keep 29 = .ok (.getfield 198, 3) := rd_chunk (k := 0) (i := 29) kmX12_keep_0_e2 (by decide +kernel)
theorem dX12_keep_32 : decode cX12_keep 32 = .ok (.iastore, 1) := rd_chunk (k := 0) (i := 32) kmX12_keep_0_e2 (by decide +kernel)
theorem dX12_keep_33 : decode cX12_keep 33 = .ok (.aload_n 0, 1) := rd_chunk (k := 0) (i := 33) kmX12_keep_0_e2 (by decide +kernel)
theorem dX12_keep_34 : decode cX12_keep 34 = .ok (.getfield 137, 3) := rd_chunk (k := 0) (i := 34) kmX12_keep_0_e2 (by decide +kernel)
theorem dX12_keep_37 : decode cX12_keep 37 = .ok (.iload_n 1, 1) := rd_chunk (k := 0) (i := 37) kmX12_keep_0_e2 (by decide +kernel)
theorem dX12_keep_38 : decode cX12_keep 38 = .ok (.aload_n 0, 1) := rd_chunk (k := 0) (i := 38) kmX12_keep_0_e2 (by decide +kernel)
theorem dX12_keep_39 : decode cX12_keep 39 = .ok (.getfield 153, 3) := rd_chunk (k := 0) (i := 39) kmX12_keep_0_e2 (by decide +kernel)
theorem dX12_keep_42 : decode cX12_keep 42 = .ok (.iastore, 1) := rd_chunk (k := 0) (i := 42) kmX12_keep_0_e2 (by decide +kernel)
theorem dX12_keep_43 : decode cX12_keep 43 = .ok (.aload_n 0, 1) := rd_chunk (k := 0) (i := 43) kmX12_keep_0_e2 (by decide +kernel)
theorem dX12_keep_44 : decode cX12_keep 44 = .ok (.sipush 266, 3) := rd_chunk (k := 0) (i := 44) kmX12_keep_0_e2 (by decide +kernel)
theorem dX12_keep_47 : decode cX12_keep 47 = .ok (.iload_n 1, 1) := rd_chunk (k := 0) (i := 47) kmX12_keep_0_e2 (by decide +kernel)
theorem dX12_keep_48 : decode cX12_keep 48 = .ok (.imul, 1) := rd_chunk (k := 0) (i := 48) kmX12_keep_0_e2 (by decide +kernel)
theorem dX12_keep_49 : decode cX12_keep 49 = .ok (.putfield 387, 3) := rd_chunk (k := 0) (i := 49) kmX12_keep_0_e2 (by decide +kernel)
theorem dX12_keep_52 : decode cX12_keep 52 = .ok (.iconst 0, 1) := rd_chunk (k := 0) (i := 52) kmX12_keep_0_e2 (by decide +kernel)
theorem dX12_keep_53 : decode cX12_keep 53 = .ok (.istore_n 2, 1) := rd_chunk (k := 0) (i := 53) kmX12_keep_0_e2 (by decide +kernel)
theorem dX12_keep_54 : decode cX12_keep 54 = .ok (.iload_n 2, 1) := rd_chunk (k := 0) (i := 54) kmX12_keep_0_e2 (by decide +kernel)
theorem dX12_keep_55 : decode cX12_keep 55 = .ok (.bipush 24, 2) := rd_chunk (k := 0) (i := 55) kmX12_keep_0_e2 (by decide +kernel)
theorem dX12_keep_57 : decode cX12_keep 57 = .ok (.if_icmp .ge 29, 3) := rd_chunk (k := 0) (i := 57) kmX12_keep_0_e2 (by decide +kernel)
theorem dX12_keep_60 : decode cX12_keep 60 = .ok (.aload_n 0, 1) := rd_chunk (k := 0) (i := 60) kmX12_keep_0_e2 (by decide +kernel)
theorem dX12_keep_61 : decode cX12_keep 61 = .ok (.aload_n 0, 1) := rd_chunk (k := 0) (i := 61) kmX12_keep_0_e2 (by decide +kernel)
theorem dX12_keep_62 : decode cX12_keep 62 = .ok (.getfield 13, 3) := rd_chunk (k := 0) (i := 62) kmX12_keep_0_e2 (by decide +kernel)
abbrev mX12_keep_64_e2 : ByteArray := .mk #[0x0d, 0x1c, 0x2e, 0xb6, 0x01, 0x86, 0x2a, 0x2a, 0xb4, 0x00, 0x10, 0x1c, 0x2e, 0xb6, 0x01, 0x86, 0x84, 0x02, 0x01, 0xa7, 0xff, 0xe3, 0x03, 0x3d, 0x1c, 0x11, 0x00, 0xc0, 0xa2, 0x00, 0x13, 0x2a, 0x2a, 0xb4, 0x00, 0x17, 0x1c, 0x2e, 0xb6, 0x01, 0x86, 0x84, 0x02, 0x01, 0xa7, 0xff, 0xec, 0x03, 0x3d, 0x1c, 0x10, 0x06, 0xa2, 0x00, 0x27, 0x2a, 0x2a, 0xb4, 0x00, 0x2c, 0x1c, 0x2e, 0xb6, 0x01, 0x86, 0x2a, 0x2a, 0xb4, 0x00, 0x2f, 0x1c, 0x2e]
theorem kmX12_keep_64_e2 : CK cX12_keep 64 mX12_keep_64_e2 := ck_of (by decide +kernel)
theorem dX12_keep_65 : decode cX12_keep 65 = .ok (.iload_n 2, 1) := rd_chunk (k := 64) (i := 1) kmX12_keep_64_e2 (by decide +kernel)
theorem dX12_keep_66 : decode cX12_keep 66 = .ok (.iaload, 1) := rd_chunk (k := 64) (i := 2) kmX12_keep_64_e2 (by decide +kernel)
theorem dX12_keep_67 : decode cX12_keep 67 = .ok (.invokevirtual 390, 3) := rd_chunk (k := 64) (i := 3) kmX12_keep_64_e2 (by decide +kernel)
theorem dX12_keep_70 : decode cX12_keep 70 = .ok (.aload_n 0, 1) := rd_chunk (k := 64) (i := 6) kmX12_keep_64_e2 (by decide +kernel)
theorem dX12_keep_71 : decode cX12_keep 71 = .ok (.aload_n 0, 1) := rd_chunk (k := 64) (i := 7) kmX12_keep_64_e2 (by decide +kernel)
theorem dX12_keep_72 : decode cX12_keep 72 = .ok (.getfield 16, 3) := rd_chunk (k := 64) (i := 8) kmX12_keep_64_e2 (by decide +kernel)
theorem dX12_keep_75 : decode cX12_keep 75 = .ok (.iload_n 2, 1) := rd_chunk (k := 64) (i := 11) kmX12_keep_64_e2 (by decide +kernel)
theorem dX12_keep_76 : decode cX12_keep 76 = .ok (.iaload, 1) := rd_chunk (k := 64) (i := 12) kmX12_keep_64_e2 (by decide +kernel)
theorem dX12_keep_77 : decode cX12_keep 77 = .ok (.invokevirtual 390, 3) := rd_chunk (k := 64) (i := 13) kmX12_keep_64_e2 (by decide +kernel)
theorem dX12_keep_80 : decode cX12_keep 80 = .ok (.iinc 2 1, 3) := rd_chunk (k := 64) (i := 16) kmX12_keep_64_e2 (by decide +kernel)
theorem dX12_keep_83 : decode cX12_keep 83 = .ok (.goto (-29), 3) := rd_chunk (k := 64) (i := 19) kmX12_keep_64_e2 (by decide +kernel)
theorem dX12_keep_86 : decode cX12_keep 86 = .ok (.iconst 0, 1) := rd_chunk (k := 64) (i := 22) kmX12_keep_64_e2 (by decide +kernel)
theorem dX12_keep_87 : decode cX12_keep 87 = .ok (.istore_n 2, 1) := rd_chunk (k := 64) (i := 23) kmX12_keep_64_e2 (by decide +kernel)
theorem dX12_keep_88 : decode cX12_keep 88 = .ok (.iload_n 2, 1) := rd_chunk (k := 64) (i := 24) kmX12_keep_64_e2 (by decide +kernel)
theorem dX12_keep_89 : decode cX12_keep 89 = .ok (.sipush 192, 3) := rd_chunk (k := 64) (i := 25) kmX12_keep_64_e2 (by decide +kernel)
theorem dX12_keep_92 : decode cX12_keep 92 = .ok (.if_icmp .ge 19, 3) := rd_chunk (k := 64) (i := 28) kmX12_keep_64_e2 (by decide +kernel)
theorem dX12_keep_95 : decode cX12_keep 95 = .ok (.aload_n 0, 1) := rd_chunk (k := 64) (i := 31) kmX12_keep_64_e2 (by decide +kernel)
theorem dX12_keep_96 : decode cX12_keep 96 = .ok (.aload_n 0, 1) := rd_chunk (k := 64) (i := 32) kmX12_keep_64_e2 (by decide +kernel)
theorem dX12_keep_97 : decode cX12_keep 97 = .ok (.getfield 23, 3) := rd_chunk (k := 64) (i := 33) kmX12_keep_64_e2 (by decide +kernel)
theorem dX12_keep_100 : decode cX12_keep 100 = .ok (.iload_n 2, 1) := rd_chunk (k := 64) (i := 36) kmX12_keep_64_e2 (by decide +kernel)
theorem dX12_keep_101 : decode cX12_keep 101 = .ok (.iaload, 1) := rd_chunk (k := 64) (i := 37) kmX12_keep_64_e2 (by decide +kernel)
theorem dX12_keep_102 : decode cX12_keep 102 = .ok (.invokevirtual 390, 3) := rd_chunk (k := 64) (i := 38) kmX12_keep_64_e2 (by decide +kernel)
theorem dX12_keep_105 : decode cX12_keep 105 = .ok (.iinc 2 1, 3) := rd_chunk (k := 64) (i := 41) kmX12_keep_64_e2 (by decide +kernel)
theorem dX12_keep_108 : decode cX12_keep 108 = .ok (.goto (-20), 3) := rd_chunk (k := 64) (i := 44) kmX12_keep_64_e2 (by decide +kernel)
theorem dX12_keep_111 : decode cX12_keep 111 = .ok (.iconst 0, 1) := rd_chunk (k := 64) (i := 47) kmX12_keep_64_e2 (by decide +kernel)
theorem dX12_keep_112 : decode cX12_keep 112 = .ok (.istore_n 2, 1) := rd_chunk (k := 64) (i := 48) kmX12_keep_64_e2 (by decide +kernel)
theorem dX12_keep_113 : decode cX12_keep 113 = .ok (.iload_n 2, 1) := rd_chunk (k := 64) (i := 49) kmX12_keep_64_e2 (by decide +kernel)
theorem dX12_keep_114 : decode cX12_keep 114 = .ok (.bipush 6, 2) := rd_chunk (k := 64) (i := 50) kmX12_keep_64_e2 (by decide +kernel)
theorem dX12_keep_116 : decode cX12_keep 116 = .ok (.if_icmp .ge 39, 3) := rd_chunk (k := 64) (i := 52) kmX12_keep_64_e2 (by decide +kernel)
theorem dX12_keep_119 : decode cX12_keep 119 = .ok (.aload_n 0, 1) := rd_chunk (k := 64) (i := 55) kmX12_keep_64_e2 (by decide +kernel)
theorem dX12_keep_120 : decode cX12_keep 120 = .ok (.aload_n 0, 1) := rd_chunk (k := 64) (i := 56) kmX12_keep_64_e2 (by decide +kernel)
theorem dX12_keep_121 : decode cX12_keep 121 = .ok (.getfield 44, 3) := rd_chunk (k := 64) (i := 57) kmX12_keep_64_e2 (by decide +kernel)
theorem dX12_keep_124 : decode cX12_keep 124 = .ok (.iload_n 2, 1) := rd_chunk (k := 64) (i := 60) kmX12_keep_64_e2 (by decide +kernel)
theorem dX12_keep_125 : decode cX12_keep 125 = .ok (.iaload, 1) := rd_chunk (k := 64) (i := 61) kmX12_keep_64_e2 (by decide +kernel)
theorem dX12_keep_126 : decode cX12_keep 126 = .ok (.invokevirtual 390, 3) := rd_chunk (k := 64) (i := 62) kmX12_keep_64_e2 (by decide +kernel)
abbrev mX12_keep_128_e2 : ByteArray := .mk #[0x86, 0x2a, 0x2a, 0xb4, 0x00, 0x2f, 0x1c, 0x2e, 0xb6, 0x01, 0x86, 0x2a, 0x2a, 0xb4, 0x00, 0x32, 0x1c, 0x2e, 0xb6, 0x01, 0x86, 0x84, 0x02, 0x01, 0xa7, 0xff, 0xd9, 0x03, 0x3d, 0x1c, 0x10, 0x08, 0xa2, 0x00, 0x13, 0x2a, 0x2a, 0xb4, 0x00, 0x35, 0x1c, 0x2e, 0xb6, 0x01, 0x86, 0x84, 0x02, 0x01, 0xa7, 0xff, 0xed, 0x04, 0xac]
theorem kmX12_keep_128_e2 : CK cX12_keep 128 mX12_keep_128_e2 := ck_of (by decide +kernel)
theorem dX12_keep_129 : decode cX12_keep 129 = .ok (.aload_n 0, 1) := rd_chunk (k := 128) (i := 1) kmX12_keep_128_e2 (by decide +kernel)
theorem dX12_keep_130 : decode cX12_keep 130 = .ok (.aload_n 0, 1) := rd_chunk (k := 128) (i := 2) kmX12_keep_128_e2 (by decide +kernel)
theorem dX12_keep_131 : decode cX12_keep 131 = .ok (.getfield 47, 3) := rd_chunk (k := 128) (i := 3) kmX12_keep_128_e2 (by decide +kernel)
theorem dX12_keep_134 : decode cX12_keep 134 = .ok (.iload_n 2, 1) := rd_chunk (k := 128) (i := 6) kmX12_keep_128_e2 (by decide +kernel)
theorem dX12_keep_135 : decode cX12_keep 135 = .ok (.iaload, 1) := rd_chunk (k := 128) (i := 7) kmX12_keep_128_e2 (by decide +kernel)
theorem dX12_keep_136 : decode cX12_keep 136 = .ok (.invokevirtual 390, 3) := rd_chunk (k := 128) (i := 8) kmX12_keep_128_e2 (by decide +kernel)
theorem dX12_keep_139 : decode cX12_keep 139 = .ok (.aload_n 0, 1) := rd_chunk (k := 128) (i := 11) kmX12_keep_128_e2 (by decide +kernel)
theorem dX12_keep_140 : decode cX12_keep 140 = .ok (.aload_n 0, 1) := rd_chunk (k := 128) (i := 12) kmX12_keep_128_e2 (by decide +kernel)
theorem dX12_keep_141 : decode cX12_keep 141 = .ok (.getfield 50, 3) := rd_chunk (k := 128) (i := 13) kmX12_keep_128_e2 (by decide +kernel)
theorem dX12_keep_144 : decode cX12_keep 144 = .ok (.iload_n 2, 1) := rd_chunk (k := 128) (i := 16) kmX12_keep_128_e2 (by decide +kernel)
theorem dX12_keep_145 : decode cX12_keep 145 = .ok (.iaload, 1) := rd_chunk (k := 128) (i := 17) kmX12_keep_128_e2 (by decide +kernel)
theorem dX12_keep_146 : decode cX12_keep 146 = .ok (.invokevirtual 390, 3) := rd_chunk (k := 128) (i := 18) kmX12_keep_128_e2 (by decide +kernel)
theorem dX12_keep_149 : decode cX12_keep 149 = .ok (.iinc 2 1, 3) := rd_chunk (k := 128) (i := 21) kmX12_keep_128_e2 (by decide +kernel)
theorem dX12_keep_152 : decode cX12_keep 152 = .ok (.goto (-39), 3) := rd_chunk (k := 128) (i := 24) kmX12_keep_128_e2 (by decide +kernel)
theorem dX12_keep_155 : decode cX12_keep 155 = .ok (.iconst 0, 1) := rd_chunk (k := 128) (i := 27) kmX12_keep_128_e2 (by decide +kernel)
theorem dX12_keep_156 : decode cX12_keep 156 = .ok (.istore_n 2, 1) := rd_chunk (k := 128) (i := 28) kmX12_keep_128_e2 (by decide +kernel)
theorem dX12_keep_157 : decode cX12_keep 157 = .ok (.iload_n 2, 1) := rd_chunk (k := 128) (i := 29) kmX12_keep_128_e2 (by decide +kernel)
theorem dX12_keep_158 : decode cX12_keep 158 = .ok (.bipush 8, 2) := rd_chunk (k := 128) (i := 30) kmX12_keep_128_e2 (by decide +kernel)
theorem dX12_keep_160 : decode cX12_keep 160 = .ok (.if_icmp .ge 19, 3) := rd_chunk (k := 128) (i := 32) kmX12_keep_128_e2 (by decide +kernel)
theorem dX12_keep_163 : decode cX12_keep 163 = .ok (.aload_n 0, 1) := rd_chunk (k := 128) (i := 35) kmX12_keep_128_e2 (by decide +kernel)
theorem dX12_keep_164 : decode cX12_keep 164 = .ok (.aload_n 0, 1) := rd_chunk (k := 128) (i := 36) kmX12_keep_128_e2 (by decide +kernel)
theorem dX12_keep_165 : decode cX12_keep 165 = .ok (.getfield 53, 3) := rd_chunk (k := 128) (i := 37) kmX12_keep_128_e2 (by decide +kernel)
theorem dX12_keep_168 : decode cX12_keep 168 = .ok (.iload_n 2, 1) := rd_chunk (k := 128) (i := 40) kmX12_keep_128_e2 (by decide +kernel)
theorem dX12_keep_169 : decode cX12_keep 169 = .ok (.iaload, 1) := rd_chunk (k := 128) (i := 41) kmX12_keep_128_e2 (by decide +kernel)
theorem dX12_keep_170 : decode cX12_keep 170 = .ok (.invokevirtual 390, 3) := rd_chunk (k := 128) (i := 42) kmX12_keep_128_e2 (by decide +kernel)
theorem dX12_keep_173 : decode cX12_keep 173 = .ok (.iinc 2 1, 3) := rd_chunk (k := 128) (i := 45) kmX12_keep_128_e2 (by decide +kernel)
theorem dX12_keep_176 : decode cX12_keep 176 = .ok (.goto (-19), 3) := rd_chunk (k := 128) (i := 48) kmX12_keep_128_e2 (by decide +kernel)
theorem dX12_keep_179 : decode cX12_keep 179 = .ok (.iconst 1, 1) := rd_chunk (k := 128) (i := 51) kmX12_keep_128_e2 (by decide +kernel)
theorem dX12_keep_180 : decode cX12_keep 180 = .ok (.ireturn, 1) := rd_chunk (k := 128) (i := 52) kmX12_keep_128_e2 (by decide +kernel)
abbrev mX12_again_0_e2 : ByteArray := .mk #[0x2a, 0x03, 0xb5, 0x00, 0x8c, 0x1b, 0x03, 0x04, 0xb8, 0x00, 0x95, 0x99, 0x00, 0x19, 0x2a, 0xb4, 0x00, 0x83, 0x1b, 0x33, 0x99, 0x00, 0x10, 0x2a, 0xb4, 0x00, 0x86, 0x1b, 0x2e, 0x2a, 0xb4, 0x00, 0xc6, 0x9f, 0x00, 0x05, 0x03, 0xac, 0x2a, 0x11, 0x01, 0x0a, 0x1b, 0x68, 0xb5, 0x01, 0x83, 0x03, 0x3d, 0x1c, 0x10, 0x18, 0xa2, 0x00, 0x1d, 0x2a, 0xb4, 0x00, 0x0d, 0x1c, 0x2a, 0xb6, 0x01, 0x89, 0x4f, 0x2a, 0xb4, 0x00, 0x10, 0x1c, 0x2a, 0xb6]
theorem kmX12_again_0_e2 : CK cX12_again 0 mX12_again_0_e2 := ck_of (by decide +kernel)
theorem dX12_again_0 : decode cX12_again 0 = .ok (.aload_n 0, 1) := rd_chunk (k := 0) (i := 0) kmX12_again_0_e2 (by decide +kernel)
theorem dX12_again_1 : decode cX12_again 1 = .ok (.iconst 0, 1) := rd_chunk (k := 0) (i := 1) kmX12_again_0_e2 (by decide +kernel)
theorem dX12_again_2 : decode cX12_again 2 = .ok (.putfield 140, 3) := rd_chunk (k := 0) (i := 2) kmX12_again_0_e2 (by decide +kernel)
theorem dX12_again_5 : decode cX12_again 5 = .ok (.iload_n 1, 1) := rd_chunk (k := 0) (i := 5) kmX12_again_0_e2 (by decide +kernel)
theorem dX12_again_6 : decode cX12_again 6 = .ok (.iconst 0, 1) := rd_chunk (k := 0) (i := 6) kmX12_again_0_e2 (by decide +kernel)
theorem dX12_again_7 : decode cX12_again 7 = .ok (.iconst 1, 1) := rd_chunk (k := 0) (i := 7) kmX12_again_0_e2 (by decide +kernel)
theorem dX12_again_8 : decode cX12_again 8 = .ok (.invokestatic 149, 3) := rd_chunk (k := 0) (i := 8) kmX12_again_0_e2 (by decide +kernel)
theorem dX12_again_11 : decode cX12_again 11 = .ok (.ifCond .eq 25, 3) := rd_chunk (k := 0) (i := 11) kmX12_again_0_e2 (by decide +kernel)
theorem dX12_again_14 : decode cX12_again 14 = .ok (.aload_n 0, 1) := rd_chunk (k := 0) (i := 14) kmX12_again_0_e2 (by decide +kernel)
theorem dX12_again_15 : decode cX12_again 15 = .ok (.getfield 131, 3) := rd_chunk (k := 0) (i := 15) kmX12_again_0_e2 (by decide +kernel)
theorem dX12_again_18 : decode cX12_again 18 = .ok (.iload_n 1, 1) := rd_chunk (k := 0) (i := 18) kmX12_again_0_e2 (by decide +kernel)
theorem dX12_again_19 : decode cX12_again 19 = .ok (.baload, 1) := rd_chunk (k := 0) (i := 19) kmX12_again_0_e2 (by decide +kernel)
theorem dX12_again_20 : decode cX12_again 20 = .ok (.ifCond .eq 16, 3) := rd_chunk (k := 0) (i := 20) kmX12_again_0_e2 (by decide +kernel)
theorem dX12_again_23 : decode cX12_again 23 = .ok (.aload_n 0, 1) := rd_chunk (k := 0) (i := 23) kmX12_again_0_e2 (by decide +kernel)
theorem dX12_again_24 : decode cX12_again 24 = .ok (.getfield 134, 3) := rd_chunk (k := 0) (i := 24) kmX12_again_0_e2 (by decide +kernel)
theorem dX12_again_27 : decode cX12_again 27 = .ok (.iload_n 1, 1) := rd_chunk (k := 0) (i := 27) kmX12_again_0_e2 (by decide +kernel)
theorem dX12_again_28 : decode cX12_again 28 = .ok (.iaload, 1) := rd_chunk (k := 0) (i := 28) kmX12_again_0_e2 (by decide +kernel)
theorem dX12_again_29 : decode cX12_again 29 = .ok (.aload_n 0, 1) := rd_chunk (k := 0) (i := 29) kmX12_again_0_e2 (by decide +kernel)
theorem dX12_again_30 : decode cX12_again 30 = .ok (.getfield 198, 3) := rd_chunk (k := 0) (i := 30) kmX12_again_0_e2 (by decide +kernel)
theorem dX12_again_33 : decode cX12_again 33 = .ok (.if_icmp .eq 5, 3) := rd_chunk (k := 0) (i := 33) kmX12_again_0_e2 (by decide +kernel)
theorem dX12_again_36 : decode cX12_again 36 = .ok (.iconst 0, 1) := rd_chunk (k := 0) (i := 36) kmX12_again_0_e2 (by decide +kernel)
theorem dX12_again_37 : decode cX12_again 37 = .ok (.ireturn, 1) := rd_chunk (k := 0) (i := 37) kmX12_again_0_e2 (by decide +kernel)
theorem dX12_again_38 : decode cX12_again 38 = .ok (.aload_n 0, 1) := rd_chunk (k := 0) (i := 38) kmX12_again_0_e2 (by decide +kernel)
theorem dX12_again_39 : decode cX12_again 39 = .ok (.sipush 266, 3) := rd_chunk (k := 0) (i := 39) kmX12_again_0_e2 (by decide +kernel)
theorem dX12_again_42 : decode cX12_again 42 = .ok (.iload_n 1, 1) := rd_chunk (k := 0) (i := 42) kmX12_again_0_e2 (by decide +kernel)
theorem dX12_again_43 : decode cX12_again 43 = .ok (.imul, 1) := rd_chunk (k := 0) (i := 43) kmX12_again_0_e2 (by decide +kernel)
theorem dX12_again_44 : decode cX12_again 44 = .ok (.putfield 387, 3) := rd_chunk (k := 0) (i := 44) kmX12_again_0_e2 (by decide +kernel)
theorem dX12_again_47 : decode cX12_again 47 = .ok (.iconst 0, 1) := rd_chunk (k := 0) (i := 47) kmX12_again_0_e2 (by decide +kernel)
theorem dX12_again_48 : decode cX12_again 48 = .ok (.istore_n 2, 1) := rd_chunk (k := 0) (i := 48) kmX12_again_0_e2 (by decide +kernel)
theorem dX12_again_49 : decode cX12_again 49 = .ok (.iload_n 2, 1) := rd_chunk (k := 0) (i := 49) kmX12_again_0_e2 (by decide +kernel)
theorem dX12_again_50 : decode cX12_again 50 = .ok (.bipush 24, 2) := rd_chunk (k := 0) (i := 50) kmX12_again_0_e2 (by decide +kernel)
theorem dX12_again_52 : decode cX12_again 52 = .ok (.if_icmp .ge 29, 3) := rd_chunk (k := 0) (i := 52) kmX12_again_0_e2 (by decide +kernel)
theorem dX12_again_55 : decode cX12_again 55 = .ok (.aload_n 0, 1) := rd_chunk (k := 0) (i := 55) kmX12_again_0_e2 (by decide +kernel)
theorem dX12_again_56 : decode cX12_again 56 = .ok (.getfield 13, 3) := rd_chunk (k := 0) (i := 56) kmX12_again_0_e2 (by decide +kernel)
theorem dX12_again_59 : decode cX12_again 59 = .ok (.iload_n 2, 1) := rd_chunk (k := 0) (i := 59) kmX12_again_0_e2 (by decide +kernel)
theorem dX12_again_60 : decode cX12_again 60 = .ok (.aload_n 0, 1) := rd_chunk (k := 0) (i := 60) kmX12_again_0_e2 (by decide +kernel)
theorem dX12_again_61 : decode cX12_again 61 = .ok (.invokevirtual 393, 3) := rd_chunk (k := 0) (i := 61) kmX12_again_0_e2 (by decide +kernel)
abbrev mX12_again_64_e2 : ByteArray := .mk #[0x4f, 0x2a, 0xb4, 0x00, 0x10, 0x1c, 0x2a, 0xb6, 0x01, 0x89, 0x4f, 0x84, 0x02, 0x01, 0xa7, 0xff, 0xe3, 0x03, 0x3d, 0x1c, 0x11, 0x00, 0xc0, 0xa2, 0x00, 0x13, 0x2a, 0xb4, 0x00, 0x17, 0x1c, 0x2a, 0xb6, 0x01, 0x89, 0x4f, 0x84, 0x02, 0x01, 0xa7, 0xff, 0xec, 0x03, 0x3d, 0x1c, 0x10, 0x06, 0xa2, 0x00, 0x3e, 0x2a, 0xb6, 0x01, 0x89, 0x3e, 0x2a, 0xb6, 0x01, 0x89, 0x36, 0x04, 0x2a, 0xb6, 0x01, 0x89, 0x36, 0x05, 0x1c, 0x2a, 0xb4, 0x00, 0x89]
theorem kmX12_again_64_e2 : CK cX12_again 64 mX12_again_64_e2 := ck_of (by decide +kernel)
theorem dX12_again_64 : decode cX12_again 64 = .ok (.iastore, 1) := rd_chunk (k := 64) (i := 0) kmX12_again_64_e2 (by decide +kernel)
theorem dX12_again_65 : decode cX12_again 65 = .ok (.aload_n 0, 1) := rd_chunk (k := 64) (i := 1) kmX12_again_64_e2 (by decide +kernel)
theorem dX12_again_66 : decode cX12_again 66 = .ok (.getfield 16, 3) := rd_chunk (k := 64) (i := 2) kmX12_again_64_e2 (by decide +kernel)
theorem dX12_again_69 : decode cX12_again 69 = .ok (.iload_n 2, 1) := rd_chunk (k := 64) (i := 5) kmX12_again_64_e2 (by decide +kernel)
theorem dX12_again_70 : decode cX12_again 70 = .ok (.aload_n 0, 1) := rd_chunk (k := 64) (i := 6) kmX12_again_64_e2 (by decide +kernel)
theorem dX12_again_71 : decode cX12_again 71 = .ok (.invokevirtual 393, 3) := rd_chunk (k := 64) (i := 7) kmX12_again_64_e2 (by decide +kernel)
theorem dX12_again_74 : decode cX12_again 74 = .ok (.iastore, 1) := rd_chunk (k := 64) (i := 10) kmX12_again_64_e2 (by decide +kernel)
theorem dX12_again_75 : decode cX12_again 75 = .ok (.iinc 2 1, 3) := rd_chunk (k := 64) (i := 11) kmX12_again_64_e2 (by decide +kernel)
theorem dX12_again_78 : decode cX12_again 78 = .ok (.goto (-29), 3) := rd_chunk (k := 64) (i := 14) kmX12_again_64_e2 (by decide +kernel)
theorem dX12_again_81 : decode cX12_again 81 = .ok (.iconst 0, 1) := rd_chunk (k := 64) (i := 17) kmX12_again_64_e2 (by decide +kernel)
theorem dX12_again_82 : decode cX12_again 82 = .ok (.istore_n 2, 1) := rd_chunk (k := 64) (i := 18) kmX12_again_64_e2 (by decide +kernel)
theorem dX12_again_83 : decode cX12_again 83 = .ok (.iload_n 2, 1) := rd_chunk (k := 64) (i := 19) kmX12_again_64_e2 (by decide +kernel)
theorem dX12_again_84 : decode cX12_again 84 = .ok (.sipush 192, 3) := rd_chunk (k := 64) (i := 20) kmX12_again_64_e2 (by decide +kernel)
theorem dX12_again_87 : decode cX12_again 87 = .ok (.if_icmp .ge 19, 3) := rd_chunk (k := 64) (i := 23) kmX12_again_64_e2 (by decide +kernel)
theorem dX12_again_90 : decode cX12_again 90 = .ok (.aload_n 0, 1) := rd_chunk (k := 64) (i := 26) kmX12_again_64_e2 (by decide +kernel)
theorem dX12_again_91 : decode cX12_again 91 = .ok (.getfield 23, 3) := rd_chunk (k := 64) (i := 27) kmX12_again_64_e2 (by decide +kernel)
theorem dX12_again_94 : decode cX12_again 94 = .ok (.iload_n 2, 1) := rd_chunk (k := 64) (i := 30) kmX12_again_64_e2 (by decide +kernel)
theorem dX12_again_95 : decode cX12_again 95 = .ok (.aload_n 0, 1) := rd_chunk (k := 64) (i := 31) kmX12_again_64_e2 (by decide +kernel)
theorem dX12_again_96 : decode cX12_again 96 = .ok (.invokevirtual 393, 3) := rd_chunk (k := 64) (i := 32) kmX12_again_64_e2 (by decide +kernel)
theorem dX12_again_99 : decode cX12_again 99 = .ok (.iastore, 1) := rd_chunk (k := 64) (i := 35) kmX12_again_64_e2 (by decide +kernel)
theorem dX12_again_100 : decode cX12_again 100 = .ok (.iinc 2 1, 3) := rd_chunk (k := 64) (i := 36) kmX12_again_64_e2 (by decide +kernel)
theorem dX12_again_103 : decode cX12_again 103 = .ok (.goto (-20), 3) := rd_chunk (k := 64) (i := 39) kmX12_again_64_e2 (by decide +kernel)
theorem dX12_again_106 : decode cX12_again 106 = .ok (.iconst 0, 1) := rd_chunk (k := 64) (i := 42) kmX12_again_64_e2 (by decide +kernel)
theorem dX12_again_107 : decode cX12_again 107 = .ok (.istore_n 2, 1) := rd_chunk (k := 64) (i := 43) kmX12_again_64_e2 (by decide +kernel)
theorem dX12_again_108 : decode cX12_again 108 = .ok (.iload_n 2, 1) := rd_chunk (k := 64) (i := 44) kmX12_again_64_e2 (by decide +kernel)
theorem dX12_again_109 : decode cX12_again 109 = .ok (.bipush 6, 2) := rd_chunk (k := 64) (i := 45) kmX12_again_64_e2 (by decide +kernel)
theorem dX12_again_111 : decode cX12_again 111 = .ok (.if_icmp .ge 62, 3) := rd_chunk (k := 64) (i := 47) kmX12_again_64_e2 (by decide +kernel)
theorem dX12_again_114 : decode cX12_again 114 = .ok (.aload_n 0, 1) := rd_chunk (k := 64) (i := 50) kmX12_again_64_e2 (by decide +kernel)
theorem dX12_again_115 : decode cX12_again 115 = .ok (.invokevirtual 393, 3) := rd_chunk (k := 64) (i := 51) kmX12_again_64_e2 (by decide +kernel)
theorem dX12_again_118 : decode cX12_again 118 = .ok (.istore_n 3, 1) := rd_chunk (k := 64) (i := 54) kmX12_again_64_e2 (by decide +kernel)
theorem dX12_again_119 : decode cX12_again 119 = .ok (.aload_n 0, 1) := rd_chunk (k := 64) (i := 55) kmX12_again_64_e2 (by decide +kernel)
theorem dX12_again_120 : decode cX12_again 120 = .ok (.invokevirtual 393, 3) := rd_chunk (k := 64) (i := 56) kmX12_again_64_e2 (by decide +kernel)
theorem dX12_again_123 : decode cX12_again 123 = .ok (.istore 4, 2) := rd_chunk (k := 64) (i := 59) kmX12_again_64_e2 (by decide +kernel)
theorem dX12_again_125 : decode cX12_again 125 = .ok (.aload_n 0, 1) := rd_chunk (k := 64) (i := 61) kmX12_again_64_e2 (by decide +kernel)
theorem dX12_again_126 : decode cX12_again 126 = .ok (.invokevirtual 393, 3) := rd_chunk (k := 64) (i := 62) kmX12_again_64_e2 (by decide +kernel)
abbrev mX12_again_128_e2 : ByteArray := .mk #[0x89, 0x36, 0x05, 0x1c, 0x2a, 0xb4, 0x00, 0x89, 0x1b, 0x2e, 0xa1, 0x00, 0x06, 0xa7, 0x00, 0x1a, 0x2a, 0xb4, 0x00, 0x2c, 0x1c, 0x1d, 0x4f, 0x2a, 0xb4, 0x00, 0x2f, 0x1c, 0x15, 0x04, 0x4f, 0x2a, 0xb4, 0x00, 0x32, 0x1c, 0x15, 0x05, 0x4f, 0x84, 0x02, 0x01, 0xa7, 0xff, 0xc2, 0x03, 0x3d, 0x1c, 0x10, 0x08, 0xa2, 0x00, 0x13, 0x2a, 0xb4, 0x00, 0x35, 0x1c, 0x2a, 0xb6, 0x01, 0x89, 0x4f, 0x84, 0x02, 0x01, 0xa7, 0xff, 0xed, 0x2a, 0x03, 0xb5]
theorem kmX12_again_128_e2 : CK cX12_again 128 mX12_again_128_e2 := ck_of (by decide +kernel)
theorem dX12_again_129 : decode cX12_again 129 = .ok (.istore 5, 2) := rd_chunk (k := 128) (i := 1) kmX12_again_128_e2 (by decide +kernel)
theorem dX12_again_131 : decode cX12_again 131 = .ok (.iload_n 2, 1) := rd_chunk (k := 128) (i := 3) kmX12_again_128_e2 (by decide +kernel)
theorem dX12_again_132 : decode cX12_again 132 = .ok (.aload_n 0, 1) := rd_chunk (k := 128) (i := 4) kmX12_again_128_e2 (by decide +kernel)
theorem dX12_again_133 : decode cX12_again 133 = .ok (.getfield 137, 3) := rd_chunk (k := 128) (i := 5) kmX12_again_128_e2 (by decide +kernel)
theorem dX12_again_136 : decode cX12_again 136 = .ok (.iload_n 1, 1) := rd_chunk (k := 128) (i := 8) kmX12_again_128_e2 (by decide +kernel)
theorem dX12_again_137 : decode cX12_again 137 = .ok (.iaload, 1) := rd_chunk (k := 128) (i := 9) kmX12_again_128_e2 (by decide +kernel)
theorem dX12_again_138 : decode cX12_again 138 = .ok (.if_icmp .lt 6, 3) := rd_chunk (k := 128) (i := 10) kmX12_again_128_e2 (by decide +kernel)
theorem dX12_again_141 : decode cX12_again 141 = .ok (.goto 26, 3) := rd_chunk (k := 128) (i := 13) kmX12_again_128_e2 (by decide +kernel)
theorem dX12_again_144 : decode cX12_again 144 = .ok (.aload_n 0, 1) := rd_chunk (k := 128) (i := 16) kmX12_again_128_e2 (by decide +kernel)
theorem dX12_again_145 : decode cX12_again 145 = .ok (.getfield 44, 3) := rd_chunk (k := 128) (i := 17) kmX12_again_128_e2 (by decide +kernel)
theorem dX12_again_148 : decode cX12_again 148 = .ok (.iload_n 2, 1) := rd_chunk (k := 128) (i := 20) kmX12_again_128_e2 (by decide +kernel)
theorem dX12_again_149 : decode cX12_again 149 = .ok (.iload_n 3, 1) := rd_chunk (k := 128) (i := 21) kmX12_again_128_e2 (by decide +kernel)
theorem dX12_again_150 : decode cX12_again 150 = .ok (.iastore, 1) := rd_chunk (k := 128) (i := 22) kmX12_again_128_e2 (by decide +kernel)
theorem dX12_again_151 : decode cX12_again 151 = .ok (.aload_n 0, 1) := rd_chunk (k := 128) (i := 23) kmX12_again_128_e2 (by decide +kernel)
theorem dX12_again_152 : decode cX12_again 152 = .ok (.getfield 47, 3) := rd_chunk (k := 128) (i := 24) kmX12_again_128_e2 (by decide +kernel)
theorem dX12_again_155 : decode cX12_again 155 = .ok (.iload_n 2, 1) := rd_chunk (k := 128) (i := 27) kmX12_again_128_e2 (by decide +kernel)
theorem dX12_again_156 : decode cX12_again 156 = .ok (.iload 4, 2) := rd_chunk (k := 128) (i := 28) kmX12_again_128_e2 (by decide +kernel)
theorem dX12_again_158 : decode cX12_again 158 = .ok (.iastore, 1) := rd_chunk (k := 128) (i := 30) kmX12_again_128_e2 (by decide +kernel)
theorem dX12_again_159 : decode cX12_again 159 = .ok (.aload_n 0, 1) := rd_chunk (k := 128) (i := 31) kmX12_again_128_e2 (by decide +kernel)
theorem dX12_again_160 : decode cX12_again 160 = .ok (.getfield 50, 3) := rd_chunk (k := 128) (i := 32) kmX12_again_128_e2 (by decide +kernel)
theorem dX12_again_163 : decode cX12_again 163 = .ok (.iload_n 2, 1) := rd_chunk (k := 128) (i := 35) kmX12_again_128_e2 (by decide +kernel)
theorem dX12_again_164 : decode cX12_again 164 = .ok (.iload 5, 2) := rd_chunk (k := 128) (i := 36) kmX12_again_128_e2 (by decide +kernel)
theorem dX12_again_166 : decode cX12_again 166 = .ok (.iastore, 1) := rd_chunk (k := 128) (i := 38) kmX12_again_128_e2 (by decide +kernel)
theorem dX12_again_167 : decode cX12_again 167 = .ok (.iinc 2 1, 3) := rd_chunk (k := 128) (i := 39) kmX12_again_128_e2 (by decide +kernel)
theorem dX12_again_170 : decode cX12_again 170 = .ok (.goto (-62), 3) := rd_chunk (k := 128) (i := 42) kmX12_again_128_e2 (by decide +kernel)
theorem dX12_again_173 : decode cX12_again 173 = .ok (.iconst 0, 1) := rd_chunk (k := 128) (i := 45) kmX12_again_128_e2 (by decide +kernel)
theorem dX12_again_174 : decode cX12_again 174 = .ok (.istore_n 2, 1) := rd_chunk (k := 128) (i := 46) kmX12_again_128_e2 (by decide +kernel)
theorem dX12_again_175 : decode cX12_again 175 = .ok (.iload_n 2, 1) := rd_chunk (k := 128) (i := 47) kmX12_again_128_e2 (by decide +kernel)
theorem dX12_again_176 : decode cX12_again 176 = .ok (.bipush 8, 2) := rd_chunk (k := 128) (i := 48) kmX12_again_128_e2 (by decide +kernel)
theorem dX12_again_178 : decode cX12_again 178 = .ok (.if_icmp .ge 19, 3) := rd_chunk (k := 128) (i := 50) kmX12_again_128_e2 (by decide +kernel)
theorem dX12_again_181 : decode cX12_again 181 = .ok (.aload_n 0, 1) := rd_chunk (k := 128) (i := 53) kmX12_again_128_e2 (by decide +kernel)
theorem dX12_again_182 : decode cX12_again 182 = .ok (.getfield 53, 3) := rd_chunk (k := 128) (i := 54) kmX12_again_128_e2 (by decide +kernel)
theorem dX12_again_185 : decode cX12_again 185 = .ok (.iload_n 2, 1) := rd_chunk (k := 128) (i := 57) kmX12_again_128_e2 (by decide +kernel)
theorem dX12_again_186 : decode cX12_again 186 = .ok (.aload_n 0, 1) := rd_chunk (k := 128) (i := 58) kmX12_again_128_e2 (by decide +kernel)
theorem dX12_again_187 : decode cX12_again 187 = .ok (.invokevirtual 393, 3) := rd_chunk (k := 128) (i := 59) kmX12_again_128_e2 (by decide +kernel)
theorem dX12_again_190 : decode cX12_again 190 = .ok (.iastore, 1) := rd_chunk (k := 128) (i := 62) kmX12_again_128_e2 (by decide +kernel)
theorem dX12_again_191 : decode cX12_again 191 = .ok (.iinc 2 1, 3) := rd_chunk (k := 128) (i := 63) kmX12_again_128_e2 (by decide +kernel)
abbrev mX12_again_192_e2 : ByteArray := .mk #[0x02, 0x01, 0xa7, 0xff, 0xed, 0x2a, 0x03, 0xb5, 0x00, 0xc9, 0x04, 0xac]
theorem kmX12_again_192_e2 : CK cX12_again 192 mX12_again_192_e2 := ck_of (by decide +kernel)
theorem dX12_again_194 : decode cX12_again 194 = .ok (.goto (-19), 3) := rd_chunk (k := 192) (i := 2) kmX12_again_192_e2 (by decide +kernel)
theorem dX12_again_197 : decode cX12_again 197 = .ok (.aload_n 0, 1) := rd_chunk (k := 192) (i := 5) kmX12_again_192_e2 (by decide +kernel)
theorem dX12_again_198 : decode cX12_again 198 = .ok (.iconst 0, 1) := rd_chunk (k := 192) (i := 6) kmX12_again_192_e2 (by decide +kernel)
theorem dX12_again_199 : decode cX12_again 199 = .ok (.putfield 201, 3) := rd_chunk (k := 192) (i := 7) kmX12_again_192_e2 (by decide +kernel)
theorem dX12_again_202 : decode cX12_again 202 = .ok (.iconst 1, 1) := rd_chunk (k := 192) (i := 10) kmX12_again_192_e2 (by decide +kernel)
theorem dX12_again_203 : decode cX12_again 203 = .ok (.ireturn, 1) := rd_chunk (k := 192) (i := 11) kmX12_again_192_e2 (by decide +kernel)
abbrev mX12_count_0_e2 : ByteArray := .mk #[0x2a, 0x03, 0xb5, 0x00, 0x8c, 0x03, 0x3d, 0x1b, 0xaa, 0x00, 0x00, 0x00, 0x00, 0x00, 0x00, 0xb6, 0x00, 0x00, 0x00, 0x00, 0x00, 0x00, 0x00, 0x07, 0x00, 0x00, 0x00, 0x30, 0x00, 0x00, 0x00, 0x35, 0x00, 0x00, 0x00, 0x3a, 0x00, 0x00, 0x00, 0x58, 0x00, 0x00, 0x00, 0x5d, 0x00, 0x00, 0x00, 0x76, 0x00, 0x00, 0x00, 0xac, 0x00, 0x00, 0x00, 0xb1, 0x2a, 0xb4, 0x00, 0x92, 0xac, 0x2a, 0xb4, 0x00, 0x99, 0xac, 0x2a, 0xb4, 0x00, 0x48, 0x03, 0x2e]
theorem kmX12_count_0_e2 : CK cX12_count 0 mX12_count_0_e2 := ck_of (by decide +kernel)
theorem dX12_count_0 : decode cX12_count 0 = .ok (.aload_n 0, 1) := rd_chunk (k := 0) (i := 0) kmX12_count_0_e2 (by decide +kernel)
theorem dX12_count_1 : decode cX12_count 1 = .ok (.iconst 0, 1) := rd_chunk (k := 0) (i := 1) kmX12_count_0_e2 (by decide +kernel)
theorem dX12_count_2 : decode cX12_count 2 = .ok (.putfield 140, 3) := rd_chunk (k := 0) (i := 2) kmX12_count_0_e2 (by decide +kernel)
theorem dX12_count_5 : decode cX12_count 5 = .ok (.iconst 0, 1) := rd_chunk (k := 0) (i := 5) kmX12_count_0_e2 (by decide +kernel)
theorem dX12_count_6 : decode cX12_count 6 = .ok (.istore_n 2, 1) := rd_chunk (k := 0) (i := 6) kmX12_count_0_e2 (by decide +kernel)
theorem dX12_count_7 : decode cX12_count 7 = .ok (.iload_n 1, 1) := rd_chunk (k := 0) (i := 7) kmX12_count_0_e2 (by decide +kernel)
theorem dX12_count_8 : decode cX12_count 8 = .ok (.tableswitch 182 0 7 #[48, 53, 58, 88, 93, 118, 172, 177], 48) := by decide +kernel
theorem dX12_count_56 : decode cX12_count 56 = .ok (.aload_n 0, 1) := rd_chunk (k := 0) (i := 56) kmX12_count_0_e2 (by decide +kernel)
theorem dX12_count_57 : decode cX12_count 57 = .ok (.getfield 146, 3) := rd_chunk (k := 0) (i := 57) kmX12_count_0_e2 (by decide +kernel)
theorem dX12_count_60 : decode cX12_count 60 = .ok (.ireturn, 1) := rd_chunk (k := 0) (i := 60) kmX12_count_0_e2 (by decide +kernel)
theorem dX12_count_61 : decode cX12_count 61 = .ok (.aload_n 0, 1) := rd_chunk (k := 0) (i := 61) kmX12_count_0_e2 (by decide +kernel)
theorem dX12_count_62 : decode cX12_count 62 = .ok (.getfield 153, 3) := rd_chunk (k := 0) (i := 62) kmX12_count_0_e2 (by decide +kernel)
abbrev mX12_count_64_e2 : ByteArray := .mk #[0x99, 0xac, 0x2a, 0xb4, 0x00, 0x48, 0x03, 0x2e, 0x9e, 0x00, 0x07, 0x04, 0xa7, 0x00, 0x04, 0x03, 0x2a, 0xb4, 0x00, 0x48, 0x04, 0x2e, 0x9e, 0x00, 0x07, 0x05, 0xa7, 0x00, 0x04, 0x03, 0x60, 0xac, 0x2a, 0xb4, 0x00, 0xc9, 0xac, 0x03, 0x3e, 0x1d, 0x10, 0x08, 0xa2, 0x00, 0x12, 0x1c, 0x2a, 0xb4, 0x00, 0x35, 0x1d, 0x2e, 0x60, 0x3d, 0x84, 0x03, 0x01, 0xa7, 0xff, 0xee, 0x1c, 0xac, 0x03, 0x3e, 0x1d, 0x10, 0x08, 0xa2, 0x00, 0x2f, 0x03, 0x36]
theorem kmX12_count_64_e2 : CK cX12_count 64 mX12_count_64_e2 := ck_of (by decide +kernel)
theorem dX12_count_65 : decode cX12_count 65 = .ok (.ireturn, 1) := rd_chunk (k := 64) (i := 1) kmX12_count_64_e2 (by decide +kernel)
theorem dX12_count_66 : decode cX12_count 66 = .ok (.aload_n 0, 1) := rd_chunk (k := 64) (i := 2) kmX12_count_64_e2 (by decide +kernel)
theorem dX12_count_67 : decode cX12_count 67 = .ok (.getfield 72, 3) := rd_chunk (k := 64) (i := 3) kmX12_count_64_e2 (by decide +kernel)
theorem dX12_count_70 : decode cX12_count 70 = .ok (.iconst 0, 1) := rd_chunk (k := 64) (i := 6) kmX12_count_64_e2 (by decide +kernel)
theorem dX12_count_71 : decode cX12_count 71 = .ok (.iaload, 1) := rd_chunk (k := 64) (i := 7) kmX12_count_64_e2 (by decide +kernel)
theorem dX12_count_72 : decode cX12_count 72 = .ok (.ifCond .le 7, 3) := rd_chunk (k := 64) (i := 8) kmX12_count_64_e2 (by decide +kernel)
theorem dX12_count_75 : decode cX12_count 75 = .ok (.iconst 1, 1) := rd_chunk (k := 64) (i := 11) kmX12_count_64_e2 (by decide +kernel)
theorem dX12_count_76 : decode cX12_count 76 = .ok (.goto 4, 3) := rd_chunk (k := 64) (i := 12) kmX12_count_64_e2 (by decide +kernel)
theorem dX12_count_79 : decode cX12_count 79 = .ok (.iconst 0, 1) := rd_chunk (k := 64) (i := 15) kmX12_count_64_e2 (by decide +kernel)
theorem dX12_count_80 : decode cX12_count 80 = .ok (.aload_n 0, 1) := rd_chunk (k := 64) (i := 16) kmX12_count_64_e2 (by decide +kernel)
theorem dX12_count_81 : decode cX12_count 81 = .ok (.getfield 72, 3) := rd_chunk (k := 64) (i := 17) kmX12_count_64_e2 (by decide +kernel)
theorem dX12_count_84 : decode cX12_count 84 = .ok (.iconst 1, 1) := rd_chunk (k := 64) (i := 20) kmX12_count_64_e2 (by decide +kernel)
theorem dX12_count_85 : decode cX12_count 85 = .ok (.iaload, 1) := rd_chunk (k := 64) (i := 21) kmX12_count_64_e2 (by decide +kernel)
theorem dX12_count_86 : decode cX12_count 86 = .ok (.ifCond .le 7, 3) := rd_chunk (k := 64) (i := 22) kmX12_count_64_e2 (by decide +kernel)
theorem dX12_count_89 : decode cX12_count 89 = .ok (.iconst 2, 1) := rd_chunk (k := 64) (i := 25) kmX12_count_64_e2 (by decide +kernel)
theorem dX12_count_90 : decode cX12_count 90 = .ok (.goto 4, 3) := rd_chunk (k := 64) (i := 26) kmX12_count_64_e2 (by decide +kernel)
theorem dX12_count_93 : decode cX12_count 93 = .ok (.iconst 0, 1) := rd_chunk (k := 64) (i := 29) kmX12_count_64_e2 (by decide +kernel)
theorem dX12_count_94 : decode cX12_count 94 = .ok (.iadd, 1) := rd_chunk (k := 64) (i := 30) kmX12_count_64_e2 (by decide +kernel)
theorem dX12_count_95 : decode cX12_count 95 = .ok (.ireturn, 1) := rd_chunk (k := 64) (i := 31) kmX12_count_64_e2 (by decide +kernel)
theorem dX12_count_96 : decode cX12_count 96 = .ok (.aload_n 0, 1) := rd_chunk (k := 64) (i := 32) kmX12_count_64_e2 (by decide +kernel)
theorem dX12_count_97 : decode cX12_count 97 = .ok (.getfield 201, 3) := rd_chunk (k := 64) (i := 33) kmX12_count_64_e2 (by decide +kernel)
theorem dX12_count_100 : decode cX12_count 100 = .ok (.ireturn, 1) := rd_chunk (k := 64) (i := 36) kmX12_count_64_e2 (by decide +kernel)
theorem dX12_count_101 : decode cX12_count 101 = .ok (.iconst 0, 1) := rd_chunk (k := 64) (i := 37) kmX12_count_64_e2 (by decide +kernel)
theorem dX12_count_102 : decode cX12_count 102 = .ok (.istore_n 3, 1) := rd_chunk (k := 64) (i := 38) kmX12_count_64_e2 (by decide +kernel)
theorem dX12_count_103 : decode cX12_count 103 = .ok (.iload_n 3, 1) := rd_chunk (k := 64) (i := 39) kmX12_count_64_e2 (by decide +kernel)
theorem dX12_count_104 : decode cX12_count 104 = .ok (.bipush 8, 2) := rd_chunk (k := 64) (i := 40) kmX12_count_64_e2 (by decide +kernel)
theorem dX12_count_106 : decode cX12_count 106 = .ok (.if_icmp .ge 18, 3) := rd_chunk (k := 64) (i := 42) kmX12_count_64_e2 (by decide +kernel)
theorem dX12_count_109 : decode cX12_count 109 = .ok (.iload_n 2, 1) := rd_chunk (k := 64) (i := 45) kmX12_count_64_e2 (by decide +kernel)
theorem dX12_count_110 : decode cX12_count 110 = .ok (.aload_n 0, 1) := rd_chunk (k := 64) (i := 46) kmX12_count_64_e2 (by decide +kernel)
theorem dX12_count_111 : decode cX12_count 111 = .ok (.getfield 53, 3) := rd_chunk (k := 64) (i := 47) kmX12_count_64_e2 (by decide +kernel)
theorem dX12_count_114 : decode cX12_count 114 = .ok (.iload_n 3, 1) := rd_chunk (k := 64) (i := 50) kmX12_count_64_e2 (by decide +kernel)
theorem dX12_count_115 : decode cX12_count 115 = .ok (.iaload, 1) := rd_chunk (k := 64) (i := 51) kmX12_count_64_e2 (by decide +kernel)
theorem dX12_count_116 : decode cX12_count 116 = .ok (.iadd, 1) := rd_chunk (k := 64) (i := 52) kmX12_count_64_e2 (by decide +kernel)
theorem dX12_count_117 : decode cX12_count 117 = .ok (.istore_n 2, 1) := rd_chunk (k := 64) (i := 53) kmX12_count_64_e2 (by decide +kernel)
theorem dX12_count_118 : decode cX12_count 118 = .ok (.iinc 3 1, 3) := rd_chunk (k := 64) (i := 54) kmX12_count_64_e2 (by decide +kernel)
theorem dX12_count_121 : decode cX12_count 121 = .ok (.goto (-18), 3) := rd_chunk (k := 64) (i := 57) kmX12_count_64_e2 (by decide +kernel)
theorem dX12_count_124 : decode cX12_count 124 = .ok (.iload_n 2, 1) := rd_chunk (k := 64) (i := 60) kmX12_count_64_e2 (by decide +kernel)
theorem dX12_count_125 : decode cX12_count 125 = .ok (.ireturn, 1) := rd_chunk (k := 64) (i := 61) kmX12_count_64_e2 (by decide +kernel)
theorem dX12_count_126 : decode cX12_count 126 = .ok (.iconst 0, 1) := rd_chunk (k := 64) (i := 62) kmX12_count_64_e2 (by decide +kernel)
theorem dX12_count_127 : decode cX12_count 127 = .ok (.istore_n 3, 1) := rd_chunk (k := 64) (i := 63) kmX12_count_64_e2 (by decide +kernel)
abbrev mX12_count_128_e2 : ByteArray := .mk #[0x1d, 0x10, 0x08, 0xa2, 0x00, 0x2f, 0x03, 0x36, 0x04, 0x15, 0x04, 0x1d, 0xa2, 0x00, 0x20, 0x1c, 0x2a, 0xb4, 0x00, 0x1a, 0x10, 0x08, 0x1d, 0x68, 0x15, 0x04, 0x60, 0x33, 0x99, 0x00, 0x07, 0x04, 0xa7, 0x00, 0x04, 0x03, 0x60, 0x3d, 0x84, 0x04, 0x01, 0xa7, 0xff, 0xe0, 0x84, 0x03, 0x01, 0xa7, 0xff, 0xd1, 0x1c, 0xac, 0x2a, 0xb4, 0x00, 0x8f, 0xac, 0x2a, 0xb4, 0x00, 0x9c, 0xac, 0x02, 0xac]
theorem kmX12_count_128_e2 : CK cX12_count 128 mX12_count_128_e2 := ck_of (by decide +kernel)
theorem dX12_count_128 : decode cX12_count 128 = .ok (.iload_n 3, 1) := rd_chunk (k := 128) (i := 0) kmX12_count_128_e2 (by decide +kernel)
theorem dX12_count_129 : decode cX12_count 129 = .ok (.bipush 8, 2) := rd_chunk (k := 128) (i := 1) kmX12_count_128_e2 (by decide +kernel)
theorem dX12_count_131 : decode cX12_count 131 = .ok (.if_icmp .ge 47, 3) := rd_chunk (k := 128) (i := 3) kmX12_count_128_e2 (by decide +kernel)
theorem dX12_count_134 : decode cX12_count 134 = .ok (.iconst 0, 1) := rd_chunk (k := 128) (i := 6) kmX12_count_128_e2 (by decide +kernel)
theorem dX12_count_135 : decode cX12_count 135 = .ok (.istore 4, 2) := rd_chunk (k := 128) (i := 7) kmX12_count_128_e2 (by decide +kernel)
theorem dX12_count_137 : decode cX12_count 137 = .ok (.iload 4, 2) := rd_chunk (k := 128) (i := 9) kmX12_count_128_e2 (by decide +kernel)
theorem dX12_count_139 : decode cX12_count 139 = .ok (.iload_n 3, 1) := rd_chunk (k := 128) (i := 11) kmX12_count_128_e2 (by decide +kernel)
theorem dX12_count_140 : decode cX12_count 140 = .ok (.if_icmp .ge 32, 3) := rd_chunk (k := 128) (i := 12) kmX12_count_128_e2 (by decide +kernel)
theorem dX12_count_143 : decode cX12_count 143 = .ok (.iload_n 2, 1) := rd_chunk (k := 128) (i := 15) kmX12_count_128_e2 (by decide +kernel)
theorem dX12_count_144 : decode cX12_count 144 = .ok (.aload_n 0, 1) := rd_chunk (k := 128) (i := 16) kmX12_count_128_e2 (by decide +kernel)
theorem dX12_count_145 : decode cX12_count 145 = .ok (.getfield 26, 3) := rd_chunk (k := 128) (i := 17) kmX12_count_128_e2 (by decide +kernel)
theorem dX12_count_148 : decode cX12_count 148 = .ok (.bipush 8, 2) := rd_chunk (k := 128) (i := 20) kmX12_count_128_e2 (by decide +kernel)
theorem dX12_count_150 : decode cX12_count 150 = .ok (.iload_n 3, 1) := rd_chunk (k := 128) (i := 22) kmX12_count_128_e2 (by decide +kernel)
theorem dX12_count_151 : decode cX12_count 151 = .ok (.imul, 1) := rd_chunk (k := 128) (i := 23) kmX12_count_128_e2 (by decide +kernel)
theorem dX12_count_152 : decode cX12_count 152 = .ok (.iload 4, 2) := rd_chunk (k := 128) (i := 24) kmX12_count_128_e2 (by decide +kernel)
theorem dX12_count_154 : decode cX12_count 154 = .ok (.iadd, 1) := rd_chunk (k := 128) (i := 26) kmX12_count_128_e2 (by decide +kernel)
theorem dX12_count_155 : decode cX12_count 155 = .ok (.baload, 1) := rd_chunk (k := 128) (i := 27) kmX12_count_128_e2 (by decide +kernel)
theorem dX12_count_156 : decode cX12_count 156 = .ok (.ifCond .eq 7, 3) := rd_chunk (k := 128) (i := 28) kmX12_count_128_e2 (by decide +kernel)
theorem dX12_count_159 : decode cX12_count 159 = .ok (.iconst 1, 1) := rd_chunk (k := 128) (i := 31) kmX12_count_128_e2 (by decide +kernel)
theorem dX12_count_160 : decode cX12_count 160 = .ok (.goto 4, 3) := rd_chunk (k := 128) (i := 32) kmX12_count_128_e2 (by decide +kernel)
theorem dX12_count_163 : decode cX12_count 163 = .ok (.iconst 0, 1) := rd_chunk (k := 128) (i := 35) kmX12_count_128_e2 (by decide +kernel)
theorem dX12_count_164 : decode cX12_count 164 = .ok (.iadd, 1) := rd_chunk (k := 128) (i := 36) kmX12_count_128_e2 (by decide +kernel)
theorem dX12_count_165 : decode cX12_count 165 = .ok (.istore_n 2, 1) := rd_chunk (k := 128) (i := 37) kmX12_count_128_e2 (by decide +kernel)
theorem dX12_count_166 : decode cX12_count 166 = .ok (.iinc 4 1, 3) := rd_chunk (k := 128) (i := 38) kmX12_count_128_e2 (by decide +kernel)
theorem dX12_count_169 : decode cX12_count 169 = .ok (.goto (-32), 3) := rd_chunk (k := 128) (i := 41) kmX12_count_128_e2 (by decide +kernel)
theorem dX12_count_172 : decode cX12_count 172 = .ok (.iinc 3 1, 3) := rd_chunk (k := 128) (i := 44) kmX12_count_128_e2 (by decide +kernel)
theorem dX12_count_175 : decode cX12_count 175 = .ok (.goto (-47), 3) := rd_chunk (k := 128) (i := 47) kmX12_count_128_e2 (by decide +kernel)
theorem dX12_count_178 : decode cX12_count 178 = .ok (.iload_n 2, 1) := rd_chunk (k := 128) (i := 50) kmX12_count_128_e2 (by decide +kernel)
theorem dX12_count_179 : decode cX12_count 179 = .ok (.ireturn, 1) := rd_chunk (k := 128) (i := 51) kmX12_count_128_e2 (by decide +kernel)
theorem dX12_count_180 : decode cX12_count 180 = .ok (.aload_n 0, 1) := rd_chunk (k := 128) (i := 52) kmX12_count_128_e2 (by decide +kernel)
theorem dX12_count_181 : decode cX12_count 181 = .ok (.getfield 143, 3) := rd_chunk (k := 128) (i := 53) kmX12_count_128_e2 (by decide +kernel)
theorem dX12_count_184 : decode cX12_count 184 = .ok (.ireturn, 1) := rd_chunk (k := 128) (i := 56) kmX12_count_128_e2 (by decide +kernel)
theorem dX12_count_185 : decode cX12_count 185 = .ok (.aload_n 0, 1) := rd_chunk (k := 128) (i := 57) kmX12_count_128_e2 (by decide +kernel)
theorem dX12_count_186 : decode cX12_count 186 = .ok (.getfield 156, 3) := rd_chunk (k := 128) (i := 58) kmX12_count_128_e2 (by decide +kernel)
theorem dX12_count_189 : decode cX12_count 189 = .ok (.ireturn, 1) := rd_chunk (k := 128) (i := 61) kmX12_count_128_e2 (by decide +kernel)
theorem dX12_count_190 : decode cX12_count 190 = .ok (.iconst (-1), 1) := rd_chunk (k := 128) (i := 62) kmX12_count_128_e2 (by decide +kernel)
theorem dX12_count_191 : decode cX12_count 191 = .ok (.ireturn, 1) := rd_chunk (k := 128) (i := 63) kmX12_count_128_e2 (by decide +kernel)
theorem dX12_row_0 : decode cX12_row 0 = .ok (.aload_n 0, 1) := by decide +kernel
theorem dX12_row_1 : decode cX12_row 1 = .ok (.iconst 0, 1) := by decide +kernel
theorem dX12_row_2 : decode cX12_row 2 = .ok (.putfield 140, 3) := by decide +kernel
theorem dX12_row_5 : decode cX12_row 5 = .ok (.iload_n 1, 1) := by decide +kernel
theorem dX12_row_6 : decode cX12_row 6 = .ok (.iconst 0, 1) := by decide +kernel
theorem dX12_row_7 : decode cX12_row 7 = .ok (.aload_n 0, 1) := by decide +kernel
theorem dX12_row_8 : decode cX12_row 8 = .ok (.getfield 143, 3) := by decide +kernel
theorem dX12_row_11 : decode cX12_row 11 = .ok (.iconst 1, 1) := by decide +kernel
theorem dX12_row_12 : decode cX12_row 12 = .ok (.isub, 1) := by decide +kernel
theorem dX12_row_13 : decode cX12_row 13 = .ok (.invokestatic 149, 3) := by decide +kernel
theorem dX12_row_16 : decode cX12_row 16 = .ok (.ifCond .eq 12, 3) := by decide +kernel
theorem dX12_row_19 : decode cX12_row 19 = .ok (.aload_n 0, 1) := by decide +kernel
theorem dX12_row_20 : decode cX12_row 20 = .ok (.getfield 60, 3) := by decide +kernel
theorem dX12_row_23 : decode cX12_row 23 = .ok (.iload_n 1, 1) := by decide +kernel
theorem dX12_row_24 : decode cX12_row 24 = .ok (.laload, 1) := by decide +kernel
theorem dX12_row_25 : decode cX12_row 25 = .ok (.goto 8, 3) := by decide +kernel
theorem dX12_row_28 : decode cX12_row 28 = .ok (.aload_n 0, 1) := by decide +kernel
theorem dX12_row_29 : decode cX12_row 29 = .ok (.invokevirtual 253, 3) := by decide +kernel
theorem dX12_row_32 : decode cX12_row 32 = .ok (.i2l, 1) := by decide +kernel
theorem dX12_row_33 : decode cX12_row 33 = .ok (.lreturn, 1) := by decide +kernel
theorem dJ11_isValidCodePoint_9a6ad_0 : decode cJ11_isValidCodePoint_9a6ad 0 = .ok (.iload_n 0, 1) := by decide +kernel
theorem dJ11_isValidCodePoint_9a6ad_1 : decode cJ11_isValidCodePoint_9a6ad 1 = .ok (.bipush 16, 2) := by decide +kernel
theorem dJ11_isValidCodePoint_9a6ad_3 : decode cJ11_isValidCodePoint_9a6ad 3 = .ok (.iushr, 1) := by decide +kernel
theorem dJ11_isValidCodePoint_9a6ad_4 : decode cJ11_isValidCodePoint_9a6ad 4 = .ok (.istore_n 1, 1) := by decide +kernel
theorem dJ11_isValidCodePoint_9a6ad_5 : decode cJ11_isValidCodePoint_9a6ad 5 = .ok (.iload_n 1, 1) := by decide +kernel
theorem dJ11_isValidCodePoint_9a6ad_6 : decode cJ11_isValidCodePoint_9a6ad 6 = .ok (.bipush 17, 2) := by decide +kernel
theorem dJ11_isValidCodePoint_9a6ad_8 : decode cJ11_isValidCodePoint_9a6ad 8 = .ok (.if_icmp .ge 7, 3) := by decide +kernel
theorem dJ11_isValidCodePoint_9a6ad_11 : decode cJ11_isValidCodePoint_9a6ad 11 = .ok (.iconst 1, 1) := by decide +kernel
theorem dJ11_isValidCodePoint_9a6ad_12 : decode cJ11_isValidCodePoint_9a6ad 12 = .ok (.goto 4, 3) := by decide +kernel
theorem dJ11_isValidCodePoint_9a6ad_15 : decode cJ11_isValidCodePoint_9a6ad 15 = .ok (.iconst 0, 1) := by decide +kernel
theorem dJ11_isValidCodePoint_9a6ad_16 : decode cJ11_isValidCodePoint_9a6ad 16 = .ok (.ireturn, 1) := by decide +kernel
theorem dJ11_highSurrogate_5068e_0 : decode cJ11_highSurrogate_5068e 0 = .ok (.iload_n 0, 1) := by decide +kernel
theorem dJ11_highSurrogate_5068e_1 : decode cJ11_highSurrogate_5068e 1 = .ok (.bipush 10, 2) := by decide +kernel
theorem dJ11_highSurrogate_5068e_3 : decode cJ11_highSurrogate_5068e 3 = .ok (.iushr, 1) := by decide +kernel
theorem dJ11_highSurrogate_5068e_4 : decode cJ11_highSurrogate_5068e 4 = .ok (.ldc 110, 2) := by decide +kernel
theorem dJ11_highSurrogate_5068e_6 : decode cJ11_highSurrogate_5068e 6 = .ok (.iadd, 1) := by decide +kernel
theorem dJ11_highSurrogate_5068e_7 : decode cJ11_highSurrogate_5068e 7 = .ok (.i2c, 1) := by decide +kernel
theorem dJ11_highSurrogate_5068e_8 : decode cJ11_highSurrogate_5068e 8 = .ok (.ireturn, 1) := by decide +kernel
theorem dJ11_lowSurrogate_5068e_0 : decode cJ11_lowSurrogate_5068e 0 = .ok (.iload_n 0, 1) := by decide +kernel
theorem dJ11_lowSurrogate_5068e_1 : decode cJ11_lowSurrogate_5068e 1 = .ok (.sipush 1023, 3) := by decide +kernel
theorem dJ11_lowSurrogate_5068e_4 : decode cJ11_lowSurrogate_5068e 4 = .ok (.iand, 1) := by decide +kernel
theorem dJ11_lowSurrogate_5068e_5 : decode cJ11_lowSurrogate_5068e 5 = .ok (.ldc 76, 2) := by decide +kernel
theorem dJ11_lowSurrogate_5068e_7 : decode cJ11_lowSurrogate_5068e 7 = .ok (.iadd, 1) := by decide +kernel
theorem dJ11_lowSurrogate_5068e_8 : decode cJ11_lowSurrogate_5068e 8 = .ok (.i2c, 1) := by decide +kernel
theorem dJ11_lowSurrogate_5068e_9 : decode cJ11_lowSurrogate_5068e 9 = .ok (.ireturn, 1) := by decide +kernel
theorem dJ6_bitCount_0f7a4_0 : decode cJ6_bitCount_0f7a4 0 = .ok (.iload_n 0, 1) := by decide +kernel
theorem dJ6_bitCount_0f7a4_1 : decode cJ6_bitCount_0f7a4 1 = .ok (.iload_n 0, 1) := by decide +kernel
theorem dJ6_bitCount_0f7a4_2 : decode cJ6_bitCount_0f7a4 2 = .ok (.iconst 1, 1) := by decide +kernel
theorem dJ6_bitCount_0f7a4_3 : decode cJ6_bitCount_0f7a4 3 = .ok (.iushr, 1) := by decide +kernel
theorem dJ6_bitCount_0f7a4_4 : decode cJ6_bitCount_0f7a4 4 = .ok (.ldc_w 265, 3) := by decide +kernel
theorem dJ6_bitCount_0f7a4_7 : decode cJ6_bitCount_0f7a4 7 = .ok (.iand, 1) := by decide +kernel
theorem dJ6_bitCount_0f7a4_8 : decode cJ6_bitCount_0f7a4 8 = .ok (.isub, 1) := by decide +kernel
theorem dJ6_bitCount_0f7a4_9 : decode cJ6_bitCount_0f7a4 9 = .ok (.istore_n 0, 1) := by decide +kernel
theorem dJ6_bitCount_0f7a4_10 : decode cJ6_bitCount_0f7a4 10 = .ok (.iload_n 0, 1) := by decide +kernel
theorem dJ6_bitCount_0f7a4_11 : decode cJ6_bitCount_0f7a4 11 = .ok (.ldc_w 266, 3) := by decide +kernel
theorem dJ6_bitCount_0f7a4_14 : decode cJ6_bitCount_0f7a4 14 = .ok (.iand, 1) := by decide +kernel
theorem dJ6_bitCount_0f7a4_15 : decode cJ6_bitCount_0f7a4 15 = .ok (.iload_n 0, 1) := by decide +kernel
theorem dJ6_bitCount_0f7a4_16 : decode cJ6_bitCount_0f7a4 16 = .ok (.iconst 2, 1) := by decide +kernel
theorem dJ6_bitCount_0f7a4_17 : decode cJ6_bitCount_0f7a4 17 = .ok (.iushr, 1) := by decide +kernel
theorem dJ6_bitCount_0f7a4_18 : decode cJ6_bitCount_0f7a4 18 = .ok (.ldc_w 266, 3) := by decide +kernel
theorem dJ6_bitCount_0f7a4_21 : decode cJ6_bitCount_0f7a4 21 = .ok (.iand, 1) := by decide +kernel
theorem dJ6_bitCount_0f7a4_22 : decode cJ6_bitCount_0f7a4 22 = .ok (.iadd, 1) := by decide +kernel
theorem dJ6_bitCount_0f7a4_23 : decode cJ6_bitCount_0f7a4 23 = .ok (.istore_n 0, 1) := by decide +kernel
theorem dJ6_bitCount_0f7a4_24 : decode cJ6_bitCount_0f7a4 24 = .ok (.iload_n 0, 1) := by decide +kernel
theorem dJ6_bitCount_0f7a4_25 : decode cJ6_bitCount_0f7a4 25 = .ok (.iload_n 0, 1) := by decide +kernel
theorem dJ6_bitCount_0f7a4_26 : decode cJ6_bitCount_0f7a4 26 = .ok (.iconst 4, 1) := by decide +kernel
theorem dJ6_bitCount_0f7a4_27 : decode cJ6_bitCount_0f7a4 27 = .ok (.iushr, 1) := by decide +kernel
theorem dJ6_bitCount_0f7a4_28 : decode cJ6_bitCount_0f7a4 28 = .ok (.iadd, 1) := by decide +kernel
theorem dJ6_bitCount_0f7a4_29 : decode cJ6_bitCount_0f7a4 29 = .ok (.ldc_w 267, 3) := by decide +kernel
theorem dJ6_bitCount_0f7a4_32 : decode cJ6_bitCount_0f7a4 32 = .ok (.iand, 1) := by decide +kernel
theorem dJ6_bitCount_0f7a4_33 : decode cJ6_bitCount_0f7a4 33 = .ok (.istore_n 0, 1) := by decide +kernel
theorem dJ6_bitCount_0f7a4_34 : decode cJ6_bitCount_0f7a4 34 = .ok (.iload_n 0, 1) := by decide +kernel
theorem dJ6_bitCount_0f7a4_35 : decode cJ6_bitCount_0f7a4 35 = .ok (.iload_n 0, 1) := by decide +kernel
theorem dJ6_bitCount_0f7a4_36 : decode cJ6_bitCount_0f7a4 36 = .ok (.bipush 8, 2) := by decide +kernel
theorem dJ6_bitCount_0f7a4_38 : decode cJ6_bitCount_0f7a4 38 = .ok (.iushr, 1) := by decide +kernel
theorem dJ6_bitCount_0f7a4_39 : decode cJ6_bitCount_0f7a4 39 = .ok (.iadd, 1) := by decide +kernel
theorem dJ6_bitCount_0f7a4_40 : decode cJ6_bitCount_0f7a4 40 = .ok (.istore_n 0, 1) := by decide +kernel
theorem dJ6_bitCount_0f7a4_41 : decode cJ6_bitCount_0f7a4 41 = .ok (.iload_n 0, 1) := by decide +kernel
theorem dJ6_bitCount_0f7a4_42 : decode cJ6_bitCount_0f7a4 42 = .ok (.iload_n 0, 1) := by decide +kernel
theorem dJ6_bitCount_0f7a4_43 : decode cJ6_bitCount_0f7a4 43 = .ok (.bipush 16, 2) := by decide +kernel
theorem dJ6_bitCount_0f7a4_45 : decode cJ6_bitCount_0f7a4 45 = .ok (.iushr, 1) := by decide +kernel
theorem dJ6_bitCount_0f7a4_46 : decode cJ6_bitCount_0f7a4 46 = .ok (.iadd, 1) := by decide +kernel
theorem dJ6_bitCount_0f7a4_47 : decode cJ6_bitCount_0f7a4 47 = .ok (.istore_n 0, 1) := by decide +kernel
theorem dJ6_bitCount_0f7a4_48 : decode cJ6_bitCount_0f7a4 48 = .ok (.iload_n 0, 1) := by decide +kernel
theorem dJ6_bitCount_0f7a4_49 : decode cJ6_bitCount_0f7a4 49 = .ok (.bipush 63, 2) := by decide +kernel
theorem dJ6_bitCount_0f7a4_51 : decode cJ6_bitCount_0f7a4 51 = .ok (.iand, 1) := by decide +kernel
theorem dJ6_bitCount_0f7a4_52 : decode cJ6_bitCount_0f7a4 52 = .ok (.ireturn, 1) := by decide +kernel
theorem dJ9_max_7cf53_0 : decode cJ9_max_7cf53 0 = .ok (.iload_n 0, 1) := by decide +kernel
theorem dJ9_max_7cf53_1 : decode cJ9_max_7cf53 1 = .ok (.iload_n 1, 1) := by decide +kernel
theorem dJ9_max_7cf53_2 : decode cJ9_max_7cf53 2 = .ok (.if_icmp .lt 7, 3) := by decide +kernel
theorem dJ9_max_7cf53_5 : decode cJ9_max_7cf53 5 = .ok (.iload_n 0, 1) := by decide +kernel
theorem dJ9_max_7cf53_6 : decode cJ9_max_7cf53 6 = .ok (.goto 4, 3) := by decide +kernel
theorem dJ9_max_7cf53_9 : decode cJ9_max_7cf53 9 = .ok (.iload_n 1, 1) := by decide +kernel
theorem dJ9_max_7cf53_10 : decode cJ9_max_7cf53 10 = .ok (.ireturn, 1) := by decide +kernel
theorem dJ9_min_7cf53_0 : decode cJ9_min_7cf53 0 = .ok (.iload_n 0, 1) := by decide +kernel
theorem dJ9_min_7cf53_1 : decode cJ9_min_7cf53 1 = .ok (.iload_n 1, 1) := by decide +kernel
theorem dJ9_min_7cf53_2 : decode cJ9_min_7cf53 2 = .ok (.if_icmp .gt 7, 3) := by decide +kernel
theorem dJ9_min_7cf53_5 : decode cJ9_min_7cf53 5 = .ok (.iload_n 0, 1) := by decide +kernel
theorem dJ9_min_7cf53_6 : decode cJ9_min_7cf53 6 = .ok (.goto 4, 3) := by decide +kernel
theorem dJ9_min_7cf53_9 : decode cJ9_min_7cf53 9 = .ok (.iload_n 1, 1) := by decide +kernel
theorem dJ9_min_7cf53_10 : decode cJ9_min_7cf53 10 = .ok (.ireturn, 1) := by decide +kernel
theorem dJ9_min_f86c9_0 : decode cJ9_min_f86c9 0 = .ok (.lload_n 0, 1) := by decide +kernel
theorem dJ9_min_f86c9_1 : decode cJ9_min_f86c9 1 = .ok (.lload_n 2, 1) := by decide +kernel
theorem dJ9_min_f86c9_2 : decode cJ9_min_f86c9 2 = .ok (.lcmp, 1) := by decide +kernel
theorem dJ9_min_f86c9_3 : decode cJ9_min_f86c9 3 = .ok (.ifCond .gt 7, 3) := by decide +kernel
theorem dJ9_min_f86c9_6 : decode cJ9_min_f86c9 6 = .ok (.lload_n 0, 1) := by decide +kernel
theorem dJ9_min_f86c9_7 : decode cJ9_min_f86c9 7 = .ok (.goto 4, 3) := by decide +kernel
theorem dJ9_min_f86c9_10 : decode cJ9_min_f86c9 10 = .ok (.lload_n 2, 1) := by decide +kernel
theorem dJ9_min_f86c9_11 : decode cJ9_min_f86c9 11 = .ok (.lreturn, 1) := by decide +kernel
theorem dJ0_length_8abf5_0 : decode cJ0_length_8abf5 0 = .ok (.aload_n 0, 1) := by decide +kernel
theorem dJ0_length_8abf5_1 : decode cJ0_length_8abf5 1 = .ok (.getfield 9, 3) := by decide +kernel
theorem dJ0_length_8abf5_4 : decode cJ0_length_8abf5 4 = .ok (.arraylength, 1) := by decide +kernel
theorem dJ0_length_8abf5_5 : decode cJ0_length_8abf5 5 = .ok (.aload_n 0, 1) := by decide +kernel
theorem dJ0_length_8abf5_6 : decode cJ0_length_8abf5 6 = .ok (.invokevirtual 335, 3) := by decide +kernel
theorem dJ0_length_8abf5_9 : decode cJ0_length_8abf5 9 = .ok (.ishr, 1) := by decide +kernel
theorem dJ0_length_8abf5_10 : decode cJ0_length_8abf5 10 = .ok (.ireturn, 1) := by decide +kernel
theorem dJ0_indexOf_0f7a4_0 : decode cJ0_indexOf_0f7a4 0 = .ok (.aload_n 0, 1) := by decide +kernel
theorem dJ0_indexOf_0f7a4_1 : decode cJ0_indexOf_0f7a4 1 = .ok (.iload_n 1, 1) := by decide +kernel
theorem dJ0_indexOf_0f7a4_2 : decode cJ0_indexOf_0f7a4 2 = .ok (.iconst 0, 1) := by decide +kernel
theorem dJ0_indexOf_0f7a4_3 : decode cJ0_indexOf_0f7a4 3 = .ok (.invokevirtual 633, 3) := by decide +kernel
theorem dJ0_indexOf_0f7a4_6 : decode cJ0_indexOf_0f7a4 6 = .ok (.ireturn, 1) := by decide +kernel
theorem dJ0_indexOf_7cf53_0 : decode cJ0_indexOf_7cf53 0 = .ok (.aload_n 0, 1) := by decide +kernel
theorem dJ0_indexOf_7cf53_1 : decode cJ0_indexOf_7cf53 1 = .ok (.invokevirtual 492, 3) := by decide +kernel
theorem dJ0_indexOf_7cf53_4 : decode cJ0_indexOf_7cf53 4 = .ok (.ifCond .eq 19, 3) := by decide +kernel
theorem dJ0_indexOf_7cf53_7 : decode cJ0_indexOf_7cf53 7 = .ok (.aload_n 0, 1) := by decide +kernel
theorem dJ0_indexOf_7cf53_8 : decode cJ0_indexOf_7cf53 8 = .ok (.getfield 9, 3) := by decide +kernel
theorem dJ0_indexOf_7cf53_11 : decode cJ0_indexOf_7cf53 11 = .ok (.iload_n 1, 1) := by decide +kernel
theorem dJ0_indexOf_7cf53_12 : decode cJ0_indexOf_7cf53 12 = .ok (.iload_n 2, 1) := by decide +kernel
theorem dJ0_indexOf_7cf53_13 : decode cJ0_indexOf_7cf53 13 = .ok (.aload_n 0, 1) := by decide +kernel
theorem dJ0_indexOf_7cf53_14 : decode cJ0_indexOf_7cf53 14 = .ok (.invokevirtual 505, 3) := by decide +kernel
theorem dJ0_indexOf_7cf53_17 : decode cJ0_indexOf_7cf53 17 = .ok (.invokestatic 637, 3) := by decide +kernel
theorem dJ0_indexOf_7cf53_20 : decode cJ0_indexOf_7cf53 20 = .ok (.goto 16, 3) := by decide +kernel
theorem dJ0_indexOf_7cf53_23 : decode cJ0_indexOf_7cf53 23 = .ok (.aload_n 0, 1) := by decide +kernel
theorem dJ0_indexOf_7cf53_24 : decode cJ0_indexOf_7cf53 24 = .ok (.getfield 9, 3) := by decide +kernel
theorem dJ0_indexOf_7cf53_27 : decode cJ0_indexOf_7cf53 27 = .ok (.iload_n 1, 1) := by decide +kernel
theorem dJ0_indexOf_7cf53_28 : decode cJ0_indexOf_7cf53 28 = .ok (.iload_n 2, 1) := by decide +kernel
theorem dJ0_indexOf_7cf53_29 : decode cJ0_indexOf_7cf53 29 = .ok (.aload_n 0, 1) := by decide +kernel
theorem dJ0_indexOf_7cf53_30 : decode cJ0_indexOf_7cf53 30 = .ok (.invokevirtual 505, 3) := by decide +kernel
theorem dJ0_indexOf_7cf53_33 : decode cJ0_indexOf_7cf53 33 = .ok (.invokestatic 640, 3) := by decide +kernel
theorem dJ0_indexOf_7cf53_36 : decode cJ0_indexOf_7cf53 36 = .ok (.ireturn, 1) := by decide +kernel
theorem dJ0_coder_7d493_0 : decode cJ0_coder_7d493 0 = .ok (.getstatic 38, 3) := by decide +kernel
theorem dJ0_coder_7d493_3 : decode cJ0_coder_7d493 3 = .ok (.ifCond .eq 10, 3) := by decide +kernel
theorem dJ0_coder_7d493_6 : decode cJ0_coder_7d493 6 = .ok (.aload_n 0, 1) := by decide +kernel
theorem dJ0_coder_7d493_7 : decode cJ0_coder_7d493 7 = .ok (.getfield 15, 3) := by decide +kernel
theorem dJ0_coder_7d493_10 : decode cJ0_coder_7d493 10 = .ok (.goto 4, 3) := by decide +kernel
theorem dJ0_coder_7d493_13 : decode cJ0_coder_7d493 13 = .ok (.iconst 1, 1) := by decide +kernel
theorem dJ0_coder_7d493_14 : decode cJ0_coder_7d493 14 = .ok (.ireturn, 1) := by decide +kernel
theorem dJ0_isLatin1_aae02_0 : decode cJ0_isLatin1_aae02 0 = .ok (.getstatic 38, 3) := by decide +kernel
theorem dJ0_isLatin1_aae02_3 : decode cJ0_isLatin1_aae02 3 = .ok (.ifCond .eq 14, 3) := by decide +kernel
theorem dJ0_isLatin1_aae02_6 : decode cJ0_isLatin1_aae02 6 = .ok (.aload_n 0, 1) := by decide +kernel
theorem dJ0_isLatin1_aae02_7 : decode cJ0_isLatin1_aae02 7 = .ok (.getfield 15, 3) := by decide +kernel
theorem dJ0_isLatin1_aae02_10 : decode cJ0_isLatin1_aae02 10 = .ok (.ifCond .ne 7, 3) := by decide +kernel
theorem dJ0_isLatin1_aae02_13 : decode cJ0_isLatin1_aae02 13 = .ok (.iconst 1, 1) := by decide +kernel
theorem dJ0_isLatin1_aae02_14 : decode cJ0_isLatin1_aae02 14 = .ok (.goto 4, 3) := by decide +kernel
theorem dJ0_isLatin1_aae02_17 : decode cJ0_isLatin1_aae02 17 = .ok (.iconst 0, 1) := by decide +kernel
theorem dJ0_isLatin1_aae02_18 : decode cJ0_isLatin1_aae02 18 = .ok (.ireturn, 1) := by decide +kernel
theorem dJ0_checkBoundsBeginEnd_23922_0 : decode cJ0_checkBoundsBeginEnd_23922 0 = .ok (.iload_n 0, 1) := by decide +kernel
theorem dJ0_checkBoundsBeginEnd_23922_1 : decode cJ0_checkBoundsBeginEnd_23922 1 = .ok (.iload_n 1, 1) := by decide +kernel
theorem dJ0_checkBoundsBeginEnd_23922_2 : decode cJ0_checkBoundsBeginEnd_23922 2 = .ok (.iload_n 2, 1) := by decide +kernel
theorem dJ0_checkBoundsBeginEnd_23922_3 : decode cJ0_checkBoundsBeginEnd_23922 3 = .ok (.getstatic 1053, 3) := by decide +kernel
theorem dJ0_checkBoundsBeginEnd_23922_6 : decode cJ0_checkBoundsBeginEnd_23922 6 = .ok (.invokestatic 1062, 3) := by decide +kernel
theorem dJ0_checkBoundsBeginEnd_23922_9 : decode cJ0_checkBoundsBeginEnd_23922 9 = .ok (.pop, 1) := by decide +kernel
theorem dJ0_checkBoundsBeginEnd_23922_10 : decode cJ0_checkBoundsBeginEnd_23922 10 = .ok (.return_, 1) := by decide +kernel
theorem dJ1_canEncode_9a6ad_0 : decode cJ1_canEncode_9a6ad 0 = .ok (.iload_n 0, 1) := by decide +kernel
theorem dJ1_canEncode_9a6ad_1 : decode cJ1_canEncode_9a6ad 1 = .ok (.ifCond .lt 14, 3) := by decide +kernel
theorem dJ1_canEncode_9a6ad_4 : decode cJ1_canEncode_9a6ad 4 = .ok (.iload_n 0, 1) := by decide +kernel
theorem dJ1_canEncode_9a6ad_5 : decode cJ1_canEncode_9a6ad 5 = .ok (.sipush 255, 3) := by decide +kernel
theorem dJ1_canEncode_9a6ad_8 : decode cJ1_canEncode_9a6ad 8 = .ok (.if_icmp .gt 7, 3) := by decide +kernel
theorem dJ1_canEncode_9a6ad_11 : decode cJ1_canEncode_9a6ad 11 = .ok (.iconst 1, 1) := by decide +kernel
theorem dJ1_canEncode_9a6ad_12 : decode cJ1_canEncode_9a6ad 12 = .ok (.goto 4, 3) := by decide +kernel
theorem dJ1_canEncode_9a6ad_15 : decode cJ1_canEncode_9a6ad 15 = .ok (.iconst 0, 1) := by decide +kernel
theorem dJ1_canEncode_9a6ad_16 : decode cJ1_canEncode_9a6ad 16 = .ok (.ireturn, 1) := by decide +kernel
theorem dJ1_indexOf_4cfef_0 : decode cJ1_indexOf_4cfef 0 = .ok (.iload_n 1, 1) := by decide +kernel
theorem dJ1_indexOf_4cfef_1 : decode cJ1_indexOf_4cfef 1 = .ok (.invokestatic 88, 3) := by decide +kernel
theorem dJ1_indexOf_4cfef_4 : decode cJ1_indexOf_4cfef 4 = .ok (.ifCond .ne 5, 3) := by decide +kernel
theorem dJ1_indexOf_4cfef_7 : decode cJ1_indexOf_4cfef 7 = .ok (.iconst (-1), 1) := by decide +kernel
theorem dJ1_indexOf_4cfef_8 : decode cJ1_indexOf_4cfef 8 = .ok (.ireturn, 1) := by decide +kernel
theorem dJ1_indexOf_4cfef_9 : decode cJ1_indexOf_4cfef 9 = .ok (.iload_n 2, 1) := by decide +kernel
theorem dJ1_indexOf_4cfef_10 : decode cJ1_indexOf_4cfef 10 = .ok (.iconst 0, 1) := by decide +kernel
theorem dJ1_indexOf_4cfef_11 : decode cJ1_indexOf_4cfef 11 = .ok (.invokestatic 92, 3) := by decide +kernel
theorem dJ1_indexOf_4cfef_14 : decode cJ1_indexOf_4cfef 14 = .ok (.istore_n 2, 1) := by decide +kernel
theorem dJ1_indexOf_4cfef_15 : decode cJ1_indexOf_4cfef 15 = .ok (.iload_n 3, 1) := by decide +kernel
theorem dJ1_indexOf_4cfef_16 : decode cJ1_indexOf_4cfef 16 = .ok (.aload_n 0, 1) := by decide +kernel
theorem dJ1_indexOf_4cfef_17 : decode cJ1_indexOf_4cfef 17 = .ok (.arraylength, 1) := by decide +kernel
theorem dJ1_indexOf_4cfef_18 : decode cJ1_indexOf_4cfef 18 = .ok (.invokestatic 38, 3) := by decide +kernel
theorem dJ1_indexOf_4cfef_21 : decode cJ1_indexOf_4cfef 21 = .ok (.istore_n 3, 1) := by decide +kernel
theorem dJ1_indexOf_4cfef_22 : decode cJ1_indexOf_4cfef 22 = .ok (.iload_n 2, 1) := by decide +kernel
theorem dJ1_indexOf_4cfef_23 : decode cJ1_indexOf_4cfef 23 = .ok (.iload_n 3, 1) := by decide +kernel
theorem dJ1_indexOf_4cfef_24 : decode cJ1_indexOf_4cfef 24 = .ok (.if_icmp .lt 5, 3) := by decide +kernel
theorem dJ1_indexOf_4cfef_27 : decode cJ1_indexOf_4cfef 27 = .ok (.iconst (-1), 1) := by decide +kernel
theorem dJ1_indexOf_4cfef_28 : decode cJ1_indexOf_4cfef 28 = .ok (.ireturn, 1) := by decide +kernel
theorem dJ1_indexOf_4cfef_29 : decode cJ1_indexOf_4cfef 29 = .ok (.aload_n 0, 1) := by decide +kernel
theorem dJ1_indexOf_4cfef_30 : decode cJ1_indexOf_4cfef 30 = .ok (.iload_n 1, 1) := by decide +kernel
theorem dJ1_indexOf_4cfef_31 : decode cJ1_indexOf_4cfef 31 = .ok (.iload_n 2, 1) := by decide +kernel
theorem dJ1_indexOf_4cfef_32 : decode cJ1_indexOf_4cfef 32 = .ok (.iload_n 3, 1) := by decide +kernel
theorem dJ1_indexOf_4cfef_33 : decode cJ1_indexOf_4cfef 33 = .ok (.invokestatic 95, 3) := by decide +kernel
theorem dJ1_indexOf_4cfef_36 : decode cJ1_indexOf_4cfef 36 = .ok (.ireturn, 1) := by decide +kernel
theorem dJ1_indexOfChar_4cfef_0 : decode cJ1_indexOfChar_4cfef 0 = .ok (.iload_n 1, 1) := by decide +kernel
theorem dJ1_indexOfChar_4cfef_1 : decode cJ1_indexOfChar_4cfef 1 = .ok (.i2b, 1) := by decide +kernel
theorem dJ1_indexOfChar_4cfef_2 : decode cJ1_indexOfChar_4cfef 2 = .ok (.istore 4, 2) := by decide +kernel
theorem dJ1_indexOfChar_4cfef_4 : decode cJ1_indexOfChar_4cfef 4 = .ok (.iload_n 2, 1) := by decide +kernel
theorem dJ1_indexOfChar_4cfef_5 : decode cJ1_indexOfChar_4cfef 5 = .ok (.istore 5, 2) := by decide +kernel
theorem dJ1_indexOfChar_4cfef_7 : decode cJ1_indexOfChar_4cfef 7 = .ok (.iload 5, 2) := by decide +kernel
theorem dJ1_indexOfChar_4cfef_9 : decode cJ1_indexOfChar_4cfef 9 = .ok (.iload_n 3, 1) := by decide +kernel
theorem dJ1_indexOfChar_4cfef_10 : decode cJ1_indexOfChar_4cfef 10 = .ok (.if_icmp .ge 21, 3) := by decide +kernel
theorem dJ1_indexOfChar_4cfef_13 : decode cJ1_indexOfChar_4cfef 13 = .ok (.aload_n 0, 1) := by decide +kernel
theorem dJ1_indexOfChar_4cfef_14 : decode cJ1_indexOfChar_4cfef 14 = .ok (.iload 5, 2) := by decide +kernel
theorem dJ1_indexOfChar_4cfef_16 : decode cJ1_indexOfChar_4cfef 16 = .ok (.baload, 1) := by decide +kernel
theorem dJ1_indexOfChar_4cfef_17 : decode cJ1_indexOfChar_4cfef 17 = .ok (.iload 4, 2) := by decide +kernel
theorem dJ1_indexOfChar_4cfef_19 : decode cJ1_indexOfChar_4cfef 19 = .ok (.if_icmp .ne 6, 3) := by decide +kernel
theorem dJ1_indexOfChar_4cfef_22 : decode cJ1_indexOfChar_4cfef 22 = .ok (.iload 5, 2) := by decide +kernel
theorem dJ1_indexOfChar_4cfef_24 : decode cJ1_indexOfChar_4cfef 24 = .ok (.ireturn, 1) := by decide +kernel
theorem dJ1_indexOfChar_4cfef_25 : decode cJ1_indexOfChar_4cfef 25 = .ok (.iinc 5 1, 3) := by decide +kernel
theorem dJ1_indexOfChar_4cfef_28 : decode cJ1_indexOfChar_4cfef 28 = .ok (.goto (-21), 3) := by decide +kernel
theorem dJ1_indexOfChar_4cfef_31 : decode cJ1_indexOfChar_4cfef 31 = .ok (.iconst (-1), 1) := by decide +kernel
theorem dJ1_indexOfChar_4cfef_32 : decode cJ1_indexOfChar_4cfef 32 = .ok (.ireturn, 1) := by decide +kernel
theorem dJ2_getChar_3b067_0 : decode cJ2_getChar_3b067 0 = .ok (.getstatic 44, 3) := by decide +kernel
theorem dJ2_getChar_3b067_3 : decode cJ2_getChar_3b067 3 = .ok (.ifCond .ne 25, 3) := by decide +kernel
theorem dJ2_getChar_3b067_6 : decode cJ2_getChar_3b067 6 = .ok (.iload_n 1, 1) := by decide +kernel
theorem dJ2_getChar_3b067_7 : decode cJ2_getChar_3b067 7 = .ok (.ifCond .lt 11, 3) := by decide +kernel
theorem dJ2_getChar_3b067_10 : decode cJ2_getChar_3b067 10 = .ok (.iload_n 1, 1) := by decide +kernel
theorem dJ2_getChar_3b067_11 : decode cJ2_getChar_3b067 11 = .ok (.aload_n 0, 1) := by decide +kernel
theorem dJ2_getChar_3b067_12 : decode cJ2_getChar_3b067 12 = .ok (.invokestatic 48, 3) := by decide +kernel
theorem dJ2_getChar_3b067_15 : decode cJ2_getChar_3b067 15 = .ok (.if_icmp .lt 13, 3) := by decide +kernel
theorem dJ2_getChar_3b067_18 : decode cJ2_getChar_3b067 18 = .ok (.new 52, 3) := by decide +kernel
theorem dJ2_getChar_3b067_21 : decode cJ2_getChar_3b067 21 = .ok (.dup, 1) := by decide +kernel
theorem dJ2_getChar_3b067_22 : decode cJ2_getChar_3b067 22 = .ok (.ldc 54, 2) := by decide +kernel
theorem dJ2_getChar_3b067_24 : decode cJ2_getChar_3b067 24 = .ok (.invokespecial 56, 3) := by decide +kernel
theorem dJ2_getChar_3b067_27 : decode cJ2_getChar_3b067 27 = .ok (.athrow, 1) := by decide +kernel
theorem dJ2_getChar_3b067_28 : decode cJ2_getChar_3b067 28 = .ok (.iload_n 1, 1) := by decide +kernel
theorem dJ2_getChar_3b067_29 : decode cJ2_getChar_3b067 29 = .ok (.iconst 1, 1) := by decide +kernel
theorem dJ2_getChar_3b067_30 : decode cJ2_getChar_3b067 30 = .ok (.ishl, 1) := by decide +kernel
theorem dJ2_getChar_3b067_31 : decode cJ2_getChar_3b067 31 = .ok (.istore_n 1, 1) := by decide +kernel
theorem dJ2_getChar_3b067_32 : decode cJ2_getChar_3b067 32 = .ok (.aload_n 0, 1) := by decide +kernel
theorem dJ2_getChar_3b067_33 : decode cJ2_getChar_3b067 33 = .ok (.iload_n 1, 1) := by decide +kernel
theorem dJ2_getChar_3b067_34 : decode cJ2_getChar_3b067 34 = .ok (.iinc 1 1, 3) := by decide +kernel
theorem dJ2_getChar_3b067_37 : decode cJ2_getChar_3b067 37 = .ok (.baload, 1) := by decide +kernel
theorem dJ2_getChar_3b067_38 : decode cJ2_getChar_3b067 38 = .ok (.sipush 255, 3) := by decide +kernel
theorem dJ2_getChar_3b067_41 : decode cJ2_getChar_3b067 41 = .ok (.iand, 1) := by decide +kernel
theorem dJ2_getChar_3b067_42 : decode cJ2_getChar_3b067 42 = .ok (.getstatic 59, 3) := by decide +kernel
theorem dJ2_getChar_3b067_45 : decode cJ2_getChar_3b067 45 = .ok (.ishl, 1) := by decide +kernel
theorem dJ2_getChar_3b067_46 : decode cJ2_getChar_3b067 46 = .ok (.aload_n 0, 1) := by decide +kernel
theorem dJ2_getChar_3b067_47 : decode cJ2_getChar_3b067 47 = .ok (.iload_n 1, 1) := by decide +kernel
theorem dJ2_getChar_3b067_48 : decode cJ2_getChar_3b067 48 = .ok (.baload, 1) := by decide +kernel
theorem dJ2_getChar_3b067_49 : decode cJ2_getChar_3b067 49 = .ok (.sipush 255, 3) := by decide +kernel
theorem dJ2_getChar_3b067_52 : decode cJ2_getChar_3b067 52 = .ok (.iand, 1) := by decide +kernel
theorem dJ2_getChar_3b067_53 : decode cJ2_getChar_3b067 53 = .ok (.getstatic 63, 3) := by decide +kernel
theorem dJ2_getChar_3b067_56 : decode cJ2_getChar_3b067 56 = .ok (.ishl, 1) := by decide +kernel
theorem dJ2_getChar_3b067_57 : decode cJ2_getChar_3b067 57 = .ok (.ior, 1) := by decide +kernel
theorem dJ2_getChar_3b067_58 : decode cJ2_getChar_3b067 58 = .ok (.i2c, 1) := by decide +kernel
theorem dJ2_getChar_3b067_59 : decode cJ2_getChar_3b067 59 = .ok (.ireturn, 1) := by decide +kernel
theorem dJ2_length_9d52b_0 : decode cJ2_length_9d52b 0 = .ok (.aload_n 0, 1) := by decide +kernel
theorem dJ2_length_9d52b_1 : decode cJ2_length_9d52b 1 = .ok (.arraylength, 1) := by decide +kernel
theorem dJ2_length_9d52b_2 : decode cJ2_length_9d52b 2 = .ok (.iconst 1, 1) := by decide +kernel
theorem dJ2_length_9d52b_3 : decode cJ2_length_9d52b 3 = .ok (.ishr, 1) := by decide +kernel
theorem dJ2_length_9d52b_4 : decode cJ2_length_9d52b 4 = .ok (.ireturn, 1) := by decide +kernel
theorem dJ2_indexOf_4cfef_0 : decode cJ2_indexOf_4cfef 0 = .ok (.iload_n 2, 1) := by decide +kernel
theorem dJ2_indexOf_4cfef_1 : decode cJ2_indexOf_4cfef 1 = .ok (.iconst 0, 1) := by decide +kernel
theorem dJ2_indexOf_4cfef_2 : decode cJ2_indexOf_4cfef 2 = .ok (.invokestatic 224, 3) := by decide +kernel
theorem dJ2_indexOf_4cfef_5 : decode cJ2_indexOf_4cfef 5 = .ok (.istore_n 2, 1) := by decide +kernel
theorem dJ2_indexOf_4cfef_6 : decode cJ2_indexOf_4cfef 6 = .ok (.iload_n 3, 1) := by decide +kernel
theorem dJ2_indexOf_4cfef_7 : decode cJ2_indexOf_4cfef 7 = .ok (.aload_n 0, 1) := by decide +kernel
theorem dJ2_indexOf_4cfef_8 : decode cJ2_indexOf_4cfef 8 = .ok (.arraylength, 1) := by decide +kernel
theorem dJ2_indexOf_4cfef_9 : decode cJ2_indexOf_4cfef 9 = .ok (.iconst 1, 1) := by decide +kernel
theorem dJ2_indexOf_4cfef_10 : decode cJ2_indexOf_4cfef 10 = .ok (.ishr, 1) := by decide +kernel
theorem dJ2_indexOf_4cfef_11 : decode cJ2_indexOf_4cfef 11 = .ok (.invokestatic 183, 3) := by decide +kernel
theorem dJ2_indexOf_4cfef_14 : decode cJ2_indexOf_4cfef 14 = .ok (.istore_n 3, 1) := by decide +kernel
theorem dJ2_indexOf_4cfef_15 : decode cJ2_indexOf_4cfef 15 = .ok (.iload_n 2, 1) := by decide +kernel
theorem dJ2_indexOf_4cfef_16 : decode cJ2_indexOf_4cfef 16 = .ok (.iload_n 3, 1) := by decide +kernel
theorem dJ2_indexOf_4cfef_17 : decode cJ2_indexOf_4cfef 17 = .ok (.if_icmp .lt 5, 3) := by decide +kernel
theorem dJ2_indexOf_4cfef_20 : decode cJ2_indexOf_4cfef 20 = .ok (.iconst (-1), 1) := by decide +kernel
theorem dJ2_indexOf_4cfef_21 : decode cJ2_indexOf_4cfef 21 = .ok (.ireturn, 1) := by decide +kernel
theorem dJ2_indexOf_4cfef_22 : decode cJ2_indexOf_4cfef 22 = .ok (.iload_n 1, 1) := by decide +kernel
theorem dJ2_indexOf_4cfef_23 : decode cJ2_indexOf_4cfef 23 = .ok (.ldc 227, 2) := by decide +kernel
theorem dJ2_indexOf_4cfef_25 : decode cJ2_indexOf_4cfef 25 = .ok (.if_icmp .ge 11, 3) := by decide +kernel
theorem dJ2_indexOf_4cfef_28 : decode cJ2_indexOf_4cfef 28 = .ok (.aload_n 0, 1) := by decide +kernel
theorem dJ2_indexOf_4cfef_29 : decode cJ2_indexOf_4cfef 29 = .ok (.iload_n 1, 1) := by decide +kernel
theorem dJ2_indexOf_4cfef_30 : decode cJ2_indexOf_4cfef 30 = .ok (.iload_n 2, 1) := by decide +kernel
theorem dJ2_indexOf_4cfef_31 : decode cJ2_indexOf_4cfef 31 = .ok (.iload_n 3, 1) := by decide +kernel
theorem dJ2_indexOf_4cfef_32 : decode cJ2_indexOf_4cfef 32 = .ok (.invokestatic 228, 3) := by decide +kernel
theorem dJ2_indexOf_4cfef_35 : decode cJ2_indexOf_4cfef 35 = .ok (.ireturn, 1) := by decide +kernel
theorem dJ2_indexOf_4cfef_36 : decode cJ2_indexOf_4cfef 36 = .ok (.aload_n 0, 1) := by decide +kernel
theorem dJ2_indexOf_4cfef_37 : decode cJ2_indexOf_4cfef 37 = .ok (.iload_n 1, 1) := by decide +kernel
theorem dJ2_indexOf_4cfef_38 : decode cJ2_indexOf_4cfef 38 = .ok (.iload_n 2, 1) := by decide +kernel
theorem dJ2_indexOf_4cfef_39 : decode cJ2_indexOf_4cfef 39 = .ok (.iload_n 3, 1) := by decide +kernel
theorem dJ2_indexOf_4cfef_40 : decode cJ2_indexOf_4cfef 40 = .ok (.invokestatic 232, 3) := by decide +kernel
theorem dJ2_indexOf_4cfef_43 : decode cJ2_indexOf_4cfef 43 = .ok (.ireturn, 1) := by decide +kernel
theorem dJ2_indexOfChar_4cfef_0 : decode cJ2_indexOfChar_4cfef 0 = .ok (.iload_n 2, 1) := by decide +kernel
theorem dJ2_indexOfChar_4cfef_1 : decode cJ2_indexOfChar_4cfef 1 = .ok (.iload_n 3, 1) := by decide +kernel
theorem dJ2_indexOfChar_4cfef_2 : decode cJ2_indexOfChar_4cfef 2 = .ok (.aload_n 0, 1) := by decide +kernel
theorem dJ2_indexOfChar_4cfef_3 : decode cJ2_indexOfChar_4cfef 3 = .ok (.invokestatic 96, 3) := by decide +kernel
theorem dJ2_indexOfChar_4cfef_6 : decode cJ2_indexOfChar_4cfef 6 = .ok (.aload_n 0, 1) := by decide +kernel
theorem dJ2_indexOfChar_4cfef_7 : decode cJ2_indexOfChar_4cfef 7 = .ok (.iload_n 1, 1) := by decide +kernel
theorem dJ2_indexOfChar_4cfef_8 : decode cJ2_indexOfChar_4cfef 8 = .ok (.iload_n 2, 1) := by decide +kernel
theorem dJ2_indexOfChar_4cfef_9 : decode cJ2_indexOfChar_4cfef 9 = .ok (.iload_n 3, 1) := by decide +kernel
theorem dJ2_indexOfChar_4cfef_10 : decode cJ2_indexOfChar_4cfef 10 = .ok (.invokestatic 244, 3) := by decide +kernel
theorem dJ2_indexOfChar_4cfef_13 : decode cJ2_indexOfChar_4cfef 13 = .ok (.ireturn, 1) := by decide +kernel
theorem dJ2_indexOfCharUnsafe_4cfef_0 : decode cJ2_indexOfCharUnsafe_4cfef 0 = .ok (.iload_n 2, 1) := by decide +kernel
theorem dJ2_indexOfCharUnsafe_4cfef_1 : decode cJ2_indexOfCharUnsafe_4cfef 1 = .ok (.istore 4, 2) := by decide +kernel
theorem dJ2_indexOfCharUnsafe_4cfef_3 : decode cJ2_indexOfCharUnsafe_4cfef 3 = .ok (.iload 4, 2) := by decide +kernel
theorem dJ2_indexOfCharUnsafe_4cfef_5 : decode cJ2_indexOfCharUnsafe_4cfef 5 = .ok (.iload_n 3, 1) := by decide +kernel
theorem dJ2_indexOfCharUnsafe_4cfef_6 : decode cJ2_indexOfCharUnsafe_4cfef 6 = .ok (.if_icmp .ge 22, 3) := by decide +kernel
theorem dJ2_indexOfCharUnsafe_4cfef_9 : decode cJ2_indexOfCharUnsafe_4cfef 9 = .ok (.aload_n 0, 1) := by decide +kernel
theorem dJ2_indexOfCharUnsafe_4cfef_10 : decode cJ2_indexOfCharUnsafe_4cfef 10 = .ok (.iload 4, 2) := by decide +kernel
theorem dJ2_indexOfCharUnsafe_4cfef_12 : decode cJ2_indexOfCharUnsafe_4cfef 12 = .ok (.invokestatic 71, 3) := by decide +kernel
theorem dJ2_indexOfCharUnsafe_4cfef_15 : decode cJ2_indexOfCharUnsafe_4cfef 15 = .ok (.iload_n 1, 1) := by decide +kernel
theorem dJ2_indexOfCharUnsafe_4cfef_16 : decode cJ2_indexOfCharUnsafe_4cfef 16 = .ok (.if_icmp .ne 6, 3) := by decide +kernel
theorem dJ2_indexOfCharUnsafe_4cfef_19 : decode cJ2_indexOfCharUnsafe_4cfef 19 = .ok (.iload 4, 2) := by decide +kernel
theorem dJ2_indexOfCharUnsafe_4cfef_21 : decode cJ2_indexOfCharUnsafe_4cfef 21 = .ok (.ireturn, 1) := by decide +kernel
theorem dJ2_indexOfCharUnsafe_4cfef_22 : decode cJ2_indexOfCharUnsafe_4cfef 22 = .ok (.iinc 4 1, 3) := by decide +kernel
theorem dJ2_indexOfCharUnsafe_4cfef_25 : decode cJ2_indexOfCharUnsafe_4cfef 25 = .ok (.goto (-22), 3) := by decide +kernel
theorem dJ2_indexOfCharUnsafe_4cfef_28 : decode cJ2_indexOfCharUnsafe_4cfef 28 = .ok (.iconst (-1), 1) := by decide +kernel
theorem dJ2_indexOfCharUnsafe_4cfef_29 : decode cJ2_indexOfCharUnsafe_4cfef 29 = .ok (.ireturn, 1) := by decide +kernel
theorem dJ2_indexOfSupplementary_4cfef_0 : decode cJ2_indexOfSupplementary_4cfef 0 = .ok (.iload_n 1, 1) := by decide +kernel
theorem dJ2_indexOfSupplementary_4cfef_1 : decode cJ2_indexOfSupplementary_4cfef 1 = .ok (.invokestatic 164, 3) := by decide +kernel
theorem dJ2_indexOfSupplementary_4cfef_4 : decode cJ2_indexOfSupplementary_4cfef 4 = .ok (.ifCond .eq 65, 3) := by decide +kernel
theorem dJ2_indexOfSupplementary_4cfef_7 : decode cJ2_indexOfSupplementary_4cfef 7 = .ok (.iload_n 1, 1) := by decide +kernel
theorem dJ2_indexOfSupplementary_4cfef_8 : decode cJ2_indexOfSupplementary_4cfef 8 = .ok (.invokestatic 157, 3) := by decide +kernel
theorem dJ2_indexOfSupplementary_4cfef_11 : decode cJ2_indexOfSupplementary_4cfef 11 = .ok (.istore 4, 2) := by decide +kernel
theorem dJ2_indexOfSupplementary_4cfef_13 : decode cJ2_indexOfSupplementary_4cfef 13 = .ok (.iload_n 1, 1) := by decide +kernel
theorem dJ2_indexOfSupplementary_4cfef_14 : decode cJ2_indexOfSupplementary_4cfef 14 = .ok (.invokestatic 161, 3) := by decide +kernel
theorem dJ2_indexOfSupplementary_4cfef_17 : decode cJ2_indexOfSupplementary_4cfef 17 = .ok (.istore 5, 2) := by decide +kernel
theorem dJ2_indexOfSupplementary_4cfef_19 : decode cJ2_indexOfSupplementary_4cfef 19 = .ok (.iload_n 2, 1) := by decide +kernel
theorem dJ2_indexOfSupplementary_4cfef_20 : decode cJ2_indexOfSupplementary_4cfef 20 = .ok (.iload_n 3, 1) := by decide +kernel
theorem dJ2_indexOfSupplementary_4cfef_21 : decode cJ2_indexOfSupplementary_4cfef 21 = .ok (.aload_n 0, 1) := by decide +kernel
theorem dJ2_indexOfSupplementary_4cfef_22 : decode cJ2_indexOfSupplementary_4cfef 22 = .ok (.invokestatic 96, 3) := by decide +kernel
theorem dJ2_indexOfSupplementary_4cfef_25 : decode cJ2_indexOfSupplementary_4cfef 25 = .ok (.iload_n 2, 1) := by decide +kernel
theorem dJ2_indexOfSupplementary_4cfef_26 : decode cJ2_indexOfSupplementary_4cfef 26 = .ok (.istore 6, 2) := by decide +kernel
theorem dJ2_indexOfSupplementary_4cfef_28 : decode cJ2_indexOfSupplementary_4cfef 28 = .ok (.iload 6, 2) := by decide +kernel
theorem dJ2_indexOfSupplementary_4cfef_30 : decode cJ2_indexOfSupplementary_4cfef 30 = .ok (.iload_n 3, 1) := by decide +kernel
theorem dJ2_indexOfSupplementary_4cfef_31 : decode cJ2_indexOfSupplementary_4cfef 31 = .ok (.iconst 1, 1) := by decide +kernel
theorem dJ2_indexOfSupplementary_4cfef_32 : decode cJ2_indexOfSupplementary_4cfef 32 = .ok (.isub, 1) := by decide +kernel
theorem dJ2_indexOfSupplementary_4cfef_33 : decode cJ2_indexOfSupplementary_4cfef 33 = .ok (.if_icmp .ge 36, 3) := by decide +kernel
theorem dJ2_indexOfSupplementary_4cfef_36 : decode cJ2_indexOfSupplementary_4cfef 36 = .ok (.aload_n 0, 1) := by decide +kernel
theorem dJ2_indexOfSupplementary_4cfef_37 : decode cJ2_indexOfSupplementary_4cfef 37 = .ok (.iload 6, 2) := by decide +kernel
theorem dJ2_indexOfSupplementary_4cfef_39 : decode cJ2_indexOfSupplementary_4cfef 39 = .ok (.invokestatic 71, 3) := by decide +kernel
theorem dJ2_indexOfSupplementary_4cfef_42 : decode cJ2_indexOfSupplementary_4cfef 42 = .ok (.iload 4, 2) := by decide +kernel
theorem dJ2_indexOfSupplementary_4cfef_44 : decode cJ2_indexOfSupplementary_4cfef 44 = .ok (.if_icmp .ne 19, 3) := by decide +kernel
theorem dJ2_indexOfSupplementary_4cfef_47 : decode cJ2_indexOfSupplementary_4cfef 47 = .ok (.aload_n 0, 1) := by decide +kernel
theorem dJ2_indexOfSupplementary_4cfef_48 : decode cJ2_indexOfSupplementary_4cfef 48 = .ok (.iload 6, 2) := by decide +kernel
theorem dJ2_indexOfSupplementary_4cfef_50 : decode cJ2_indexOfSupplementary_4cfef 50 = .ok (.iconst 1, 1) := by decide +kernel
theorem dJ2_indexOfSupplementary_4cfef_51 : decode cJ2_indexOfSupplementary_4cfef 51 = .ok (.iadd, 1) := by decide +kernel
theorem dJ2_indexOfSupplementary_4cfef_52 : decode cJ2_indexOfSupplementary_4cfef 52 = .ok (.invokestatic 71, 3) := by decide +kernel
theorem dJ2_indexOfSupplementary_4cfef_55 : decode cJ2_indexOfSupplementary_4cfef 55 = .ok (.iload 5, 2) := by decide +kernel
theorem dJ2_indexOfSupplementary_4cfef_57 : decode cJ2_indexOfSupplementary_4cfef 57 = .ok (.if_icmp .ne 6, 3) := by decide +kernel
theorem dJ2_indexOfSupplementary_4cfef_60 : decode cJ2_indexOfSupplementary_4cfef 60 = .ok (.iload 6, 2) := by decide +kernel
theorem dJ2_indexOfSupplementary_4cfef_62 : decode cJ2_indexOfSupplementary_4cfef 62 = .ok (.ireturn, 1) := by decide +kernel
theorem dJ2_indexOfSupplementary_4cfef_63 : decode cJ2_indexOfSupplementary_4cfef 63 = .ok (.iinc 6 1, 3) := by decide +kernel
theorem dJ2_indexOfSupplementary_4cfef_66 : decode cJ2_indexOfSupplementary_4cfef 66 = .ok (.goto (-38), 3) := by decide +kernel
theorem dJ2_indexOfSupplementary_4cfef_69 : decode cJ2_indexOfSupplementary_4cfef 69 = .ok (.iconst (-1), 1) := by decide +kernel
theorem dJ2_indexOfSupplementary_4cfef_70 : decode cJ2_indexOfSupplementary_4cfef 70 = .ok (.ireturn, 1) := by decide +kernel
theorem dJ2_checkBoundsBeginEnd_d044e_0 : decode cJ2_checkBoundsBeginEnd_d044e 0 = .ok (.iload_n 0, 1) := by decide +kernel
theorem dJ2_checkBoundsBeginEnd_d044e_1 : decode cJ2_checkBoundsBeginEnd_d044e 1 = .ok (.iload_n 1, 1) := by decide +kernel
theorem dJ2_checkBoundsBeginEnd_d044e_2 : decode cJ2_checkBoundsBeginEnd_d044e 2 = .ok (.aload_n 2, 1) := by decide +kernel
theorem dJ2_checkBoundsBeginEnd_d044e_3 : decode cJ2_checkBoundsBeginEnd_d044e 3 = .ok (.invokestatic 48, 3) := by decide +kernel
theorem dJ2_checkBoundsBeginEnd_d044e_6 : decode cJ2_checkBoundsBeginEnd_d044e 6 = .ok (.invokestatic 241, 3) := by decide +kernel
theorem dJ2_checkBoundsBeginEnd_d044e_9 : decode cJ2_checkBoundsBeginEnd_d044e 9 = .ok (.return_, 1) := by decide +kernel
theorem dJ7_fill_d0a16_0 : decode cJ7_fill_d0a16 0 = .ok (.iconst 0, 1) := by decide +kernel
theorem dJ7_fill_d0a16_1 : decode cJ7_fill_d0a16 1 = .ok (.istore_n 3, 1) := by decide +kernel
theorem dJ7_fill_d0a16_2 : decode cJ7_fill_d0a16 2 = .ok (.aload_n 0, 1) := by decide +kernel
theorem dJ7_fill_d0a16_3 : decode cJ7_fill_d0a16 3 = .ok (.arraylength, 1) := by decide +kernel
theorem dJ7_fill_d0a16_4 : decode cJ7_fill_d0a16 4 = .ok (.istore 4, 2) := by decide +kernel
theorem dJ7_fill_d0a16_6 : decode cJ7_fill_d0a16 6 = .ok (.iload_n 3, 1) := by decide +kernel
theorem dJ7_fill_d0a16_7 : decode cJ7_fill_d0a16 7 = .ok (.iload 4, 2) := by decide +kernel
theorem dJ7_fill_d0a16_9 : decode cJ7_fill_d0a16 9 = .ok (.if_icmp .ge 13, 3) := by decide +kernel
theorem dJ7_fill_d0a16_12 : decode cJ7_fill_d0a16 12 = .ok (.aload_n 0, 1) := by decide +kernel
theorem dJ7_fill_d0a16_13 : decode cJ7_fill_d0a16 13 = .ok (.iload_n 3, 1) := by decide +kernel
theorem dJ7_fill_d0a16_14 : decode cJ7_fill_d0a16 14 = .ok (.lload_n 1, 1) := by decide +kernel
theorem dJ7_fill_d0a16_15 : decode cJ7_fill_d0a16 15 = .ok (.lastore, 1) := by decide +kernel
theorem dJ7_fill_d0a16_16 : decode cJ7_fill_d0a16 16 = .ok (.iinc 3 1, 3) := by decide +kernel
theorem dJ7_fill_d0a16_19 : decode cJ7_fill_d0a16 19 = .ok (.goto (-13), 3) := by decide +kernel
theorem dJ7_fill_d0a16_22 : decode cJ7_fill_d0a16 22 = .ok (.return_, 1) := by decide +kernel
theorem dJ7_fill_53178_0 : decode cJ7_fill_53178 0 = .ok (.iconst 0, 1) := by decide +kernel
theorem dJ7_fill_53178_1 : decode cJ7_fill_53178 1 = .ok (.istore_n 2, 1) := by decide +kernel
theorem dJ7_fill_53178_2 : decode cJ7_fill_53178 2 = .ok (.aload_n 0, 1) := by decide +kernel
theorem dJ7_fill_53178_3 : decode cJ7_fill_53178 3 = .ok (.arraylength, 1) := by decide +kernel
theorem dJ7_fill_53178_4 : decode cJ7_fill_53178 4 = .ok (.istore_n 3, 1) := by decide +kernel
theorem dJ7_fill_53178_5 : decode cJ7_fill_53178 5 = .ok (.iload_n 2, 1) := by decide +kernel
theorem dJ7_fill_53178_6 : decode cJ7_fill_53178 6 = .ok (.iload_n 3, 1) := by decide +kernel
theorem dJ7_fill_53178_7 : decode cJ7_fill_53178 7 = .ok (.if_icmp .ge 13, 3) := by decide +kernel
theorem dJ7_fill_53178_10 : decode cJ7_fill_53178 10 = .ok (.aload_n 0, 1) := by decide +kernel
theorem dJ7_fill_53178_11 : decode cJ7_fill_53178 11 = .ok (.iload_n 2, 1) := by decide +kernel
theorem dJ7_fill_53178_12 : decode cJ7_fill_53178 12 = .ok (.iload_n 1, 1) := by decide +kernel
theorem dJ7_fill_53178_13 : decode cJ7_fill_53178 13 = .ok (.iastore, 1) := by decide +kernel
theorem dJ7_fill_53178_14 : decode cJ7_fill_53178 14 = .ok (.iinc 2 1, 3) := by decide +kernel
theorem dJ7_fill_53178_17 : decode cJ7_fill_53178 17 = .ok (.goto (-12), 3) := by decide +kernel
theorem dJ7_fill_53178_20 : decode cJ7_fill_53178 20 = .ok (.return_, 1) := by decide +kernel
theorem dJ7_copyOf_c38d5_0 : decode cJ7_copyOf_c38d5 0 = .ok (.iload_n 1, 1) := by decide +kernel
theorem dJ7_copyOf_c38d5_1 : decode cJ7_copyOf_c38d5 1 = .ok (.aload_n 0, 1) := by decide +kernel
theorem dJ7_copyOf_c38d5_2 : decode cJ7_copyOf_c38d5 2 = .ok (.arraylength, 1) := by decide +kernel
theorem dJ7_copyOf_c38d5_3 : decode cJ7_copyOf_c38d5 3 = .ok (.if_icmp .ne 11, 3) := by decide +kernel
theorem dJ7_copyOf_c38d5_6 : decode cJ7_copyOf_c38d5 6 = .ok (.aload_n 0, 1) := by decide +kernel
theorem dJ7_copyOf_c38d5_7 : decode cJ7_copyOf_c38d5 7 = .ok (.invokevirtual 319, 3) := by decide +kernel
theorem dJ7_copyOf_c38d5_10 : decode cJ7_copyOf_c38d5 10 = .ok (.checkcast 320, 3) := by decide +kernel
theorem dJ7_copyOf_c38d5_13 : decode cJ7_copyOf_c38d5 13 = .ok (.areturn, 1) := by decide +kernel
theorem dJ7_copyOf_c38d5_14 : decode cJ7_copyOf_c38d5 14 = .ok (.iload_n 1, 1) := by decide +kernel
theorem dJ7_copyOf_c38d5_15 : decode cJ7_copyOf_c38d5 15 = .ok (.newarray .long, 2) := by decide +kernel
theorem dJ7_copyOf_c38d5_17 : decode cJ7_copyOf_c38d5 17 = .ok (.astore_n 2, 1) := by decide +kernel
theorem dJ7_copyOf_c38d5_18 : decode cJ7_copyOf_c38d5 18 = .ok (.aload_n 0, 1) := by decide +kernel
theorem dJ7_copyOf_c38d5_19 : decode cJ7_copyOf_c38d5 19 = .ok (.iconst 0, 1) := by decide +kernel
theorem dJ7_copyOf_c38d5_20 : decode cJ7_copyOf_c38d5 20 = .ok (.aload_n 2, 1) := by decide +kernel
theorem dJ7_copyOf_c38d5_21 : decode cJ7_copyOf_c38d5 21 = .ok (.iconst 0, 1) := by decide +kernel
theorem dJ7_copyOf_c38d5_22 : decode cJ7_copyOf_c38d5 22 = .ok (.aload_n 0, 1) := by decide +kernel
theorem dJ7_copyOf_c38d5_23 : decode cJ7_copyOf_c38d5 23 = .ok (.arraylength, 1) := by decide +kernel
theorem dJ7_copyOf_c38d5_24 : decode cJ7_copyOf_c38d5 24 = .ok (.iload_n 1, 1) := by decide +kernel
theorem dJ7_copyOf_c38d5_25 : decode cJ7_copyOf_c38d5 25 = .ok (.invokestatic 304, 3) := by decide +kernel
theorem dJ7_copyOf_c38d5_28 : decode cJ7_copyOf_c38d5 28 = .ok (.invokestatic 150, 3) := by decide +kernel
theorem dJ7_copyOf_c38d5_31 : decode cJ7_copyOf_c38d5 31 = .ok (.aload_n 2, 1) := by decide +kernel
theorem dJ7_copyOf_c38d5_32 : decode cJ7_copyOf_c38d5 32 = .ok (.areturn, 1) := by decide +kernel
theorem dJ3_checkFromToIndex_8c36e_0 : decode cJ3_checkFromToIndex_8c36e 0 = .ok (.iload_n 0, 1) := by decide +kernel
theorem dJ3_checkFromToIndex_8c36e_1 : decode cJ3_checkFromToIndex_8c36e 1 = .ok (.ifCond .lt 13, 3) := by decide +kernel
theorem dJ3_checkFromToIndex_8c36e_4 : decode cJ3_checkFromToIndex_8c36e 4 = .ok (.iload_n 0, 1) := by decide +kernel
theorem dJ3_checkFromToIndex_8c36e_5 : decode cJ3_checkFromToIndex_8c36e 5 = .ok (.iload_n 1, 1) := by decide +kernel
theorem dJ3_checkFromToIndex_8c36e_6 : decode cJ3_checkFromToIndex_8c36e 6 = .ok (.if_icmp .gt 8, 3) := by decide +kernel
theorem dJ3_checkFromToIndex_8c36e_9 : decode cJ3_checkFromToIndex_8c36e 9 = .ok (.iload_n 1, 1) := by decide +kernel
theorem dJ3_checkFromToIndex_8c36e_10 : decode cJ3_checkFromToIndex_8c36e 10 = .ok (.iload_n 2, 1) := by decide +kernel
theorem dJ3_checkFromToIndex_8c36e_11 : decode cJ3_checkFromToIndex_8c36e 11 = .ok (.if_icmp .le 11, 3) := by decide +kernel
theorem dJ3_checkFromToIndex_8c36e_14 : decode cJ3_checkFromToIndex_8c36e 14 = .ok (.aload_n 3, 1) := by decide +kernel
theorem dJ3_checkFromToIndex_8c36e_15 : decode cJ3_checkFromToIndex_8c36e 15 = .ok (.iload_n 0, 1) := by decide +kernel
theorem dJ3_checkFromToIndex_8c36e_16 : decode cJ3_checkFromToIndex_8c36e 16 = .ok (.iload_n 1, 1) := by decide +kernel
theorem dJ3_checkFromToIndex_8c36e_17 : decode cJ3_checkFromToIndex_8c36e 17 = .ok (.iload_n 2, 1) := by decide +kernel
theorem dJ3_checkFromToIndex_8c36e_18 : decode cJ3_checkFromToIndex_8c36e 18 = .ok (.invokestatic 99, 3) := by decide +kernel
theorem dJ3_checkFromToIndex_8c36e_21 : decode cJ3_checkFromToIndex_8c36e 21 = .ok (.athrow, 1) := by decide +kernel
theorem dJ3_checkFromToIndex_8c36e_22 : decode cJ3_checkFromToIndex_8c36e 22 = .ok (.iload_n 0, 1) := by decide +kernel
theorem dJ3_checkFromToIndex_8c36e_23 : decode cJ3_checkFromToIndex_8c36e 23 = .ok (.ireturn, 1) := by decide +kernel
