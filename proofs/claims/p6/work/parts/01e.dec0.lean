theorem dX0_init_0 : decode cX0_init 0 = .ok (.aload_n 0, 1) := by decide +kernel
theorem dX0_init_1 : decode cX0_init 1 = .ok (.invokespecial 3, 3) := by decide +kernel
theorem dX0_init_4 : decode cX0_init 4 = .ok (.aload_n 0, 1) := by decide +kernel
theorem dX0_init_5 : decode cX0_init 5 = .ok (.new 9, 3) := by decide +kernel
theorem dX0_init_8 : decode cX0_init 8 = .ok (.dup, 1) := by decide +kernel
theorem dX0_init_9 : decode cX0_init 9 = .ok (.invokespecial 11, 3) := by decide +kernel
theorem dX0_init_12 : decode cX0_init 12 = .ok (.putfield 12, 3) := by decide +kernel
theorem dX0_init_15 : decode cX0_init 15 = .ok (.aload_n 0, 1) := by decide +kernel
theorem dX0_init_16 : decode cX0_init 16 = .ok (.sipush 400, 3) := by decide +kernel
theorem dX0_init_19 : decode cX0_init 19 = .ok (.newarray .long, 2) := by decide +kernel
theorem dX0_init_21 : decode cX0_init 21 = .ok (.putfield 18, 3) := by decide +kernel
theorem dX0_init_24 : decode cX0_init 24 = .ok (.aload_n 0, 1) := by decide +kernel
theorem dX0_init_25 : decode cX0_init 25 = .ok (.lconst 0, 1) := by decide +kernel
theorem dX0_init_26 : decode cX0_init 26 = .ok (.putfield 22, 3) := by decide +kernel
theorem dX0_init_29 : decode cX0_init 29 = .ok (.return_, 1) := by decide +kernel
theorem dX0_easiest_0 : decode cX0_easiest 0 = .ok (.aload_n 0, 1) := by decide +kernel
theorem dX0_easiest_1 : decode cX0_easiest 1 = .ok (.getfield 12, 3) := by decide +kernel
theorem dX0_easiest_4 : decode cX0_easiest 4 = .ok (.iconst 0, 1) := by decide +kernel
theorem dX0_easiest_5 : decode cX0_easiest 5 = .ok (.ldc2_w 26, 3) := by decide +kernel
theorem dX0_easiest_8 : decode cX0_easiest 8 = .ok (.invokevirtual 28, 3) := by decide +kernel
theorem dX0_easiest_11 : decode cX0_easiest 11 = .ok (.iconst 1, 1) := by decide +kernel
theorem dX0_easiest_12 : decode cX0_easiest 12 = .ok (.istore_n 2, 1) := by decide +kernel
theorem dX0_easiest_13 : decode cX0_easiest 13 = .ok (.iload_n 2, 1) := by decide +kernel
theorem dX0_easiest_14 : decode cX0_easiest 14 = .ok (.aload_n 1, 1) := by decide +kernel
theorem dX0_easiest_15 : decode cX0_easiest 15 = .ok (.getfield 32, 3) := by decide +kernel
theorem dX0_easiest_18 : decode cX0_easiest 18 = .ok (.if_icmp .gt 44, 3) := by decide +kernel
theorem dX0_easiest_21 : decode cX0_easiest 21 = .ok (.aload_n 1, 1) := by decide +kernel
theorem dX0_easiest_22 : decode cX0_easiest 22 = .ok (.aload_n 0, 1) := by decide +kernel
theorem dX0_easiest_23 : decode cX0_easiest 23 = .ok (.getfield 12, 3) := by decide +kernel
theorem dX0_easiest_26 : decode cX0_easiest 26 = .ok (.iload_n 2, 1) := by decide +kernel
theorem dX0_easiest_27 : decode cX0_easiest 27 = .ok (.ldc2_w 38, 3) := by decide +kernel
theorem dX0_easiest_30 : decode cX0_easiest 30 = .ok (.iconst (-1), 1) := by decide +kernel
theorem dX0_easiest_31 : decode cX0_easiest 31 = .ok (.invokevirtual 40, 3) := by decide +kernel
theorem dX0_easiest_34 : decode cX0_easiest 34 = .ok (.aload_n 0, 1) := by decide +kernel
theorem dX0_easiest_35 : decode cX0_easiest 35 = .ok (.getfield 12, 3) := by decide +kernel
theorem dX0_easiest_38 : decode cX0_easiest 38 = .ok (.iload_n 2, 1) := by decide +kernel
theorem dX0_easiest_39 : decode cX0_easiest 39 = .ok (.sipush 999, 3) := by decide +kernel
theorem dX0_easiest_42 : decode cX0_easiest 42 = .ok (.aload_n 1, 1) := by decide +kernel
theorem dX0_easiest_43 : decode cX0_easiest 43 = .ok (.getfield 44, 3) := by decide +kernel
theorem dX0_easiest_46 : decode cX0_easiest 46 = .ok (.iload_n 2, 1) := by decide +kernel
theorem dX0_easiest_47 : decode cX0_easiest 47 = .ok (.iaload, 1) := by decide +kernel
theorem dX0_easiest_48 : decode cX0_easiest 48 = .ok (.isub, 1) := by decide +kernel
theorem dX0_easiest_49 : decode cX0_easiest 49 = .ok (.aload_n 1, 1) := by decide +kernel
theorem dX0_easiest_50 : decode cX0_easiest 50 = .ok (.getfield 48, 3) := by decide +kernel
theorem dX0_easiest_53 : decode cX0_easiest 53 = .ok (.invokevirtual 51, 3) := by decide +kernel
theorem dX0_easiest_56 : decode cX0_easiest 56 = .ok (.iinc 2 1, 3) := by decide +kernel
theorem dX0_easiest_59 : decode cX0_easiest 59 = .ok (.goto (-46), 3) := by decide +kernel
theorem dX0_easiest_62 : decode cX0_easiest 62 = .ok (.aload_n 0, 1) := by decide +kernel
theorem dX0_easiest_63 : decode cX0_easiest 63 = .ok (.getfield 12, 3) := by decide +kernel
theorem dX0_easiest_66 : decode cX0_easiest 66 = .ok (.aload_n 1, 1) := by decide +kernel
theorem dX0_easiest_67 : decode cX0_easiest 67 = .ok (.getfield 32, 3) := by decide +kernel
theorem dX0_easiest_70 : decode cX0_easiest 70 = .ok (.aload_n 0, 1) := by decide +kernel
theorem dX0_easiest_71 : decode cX0_easiest 71 = .ok (.getfield 12, 3) := by decide +kernel
theorem dX0_easiest_74 : decode cX0_easiest 74 = .ok (.aload_n 1, 1) := by decide +kernel
theorem dX0_easiest_75 : decode cX0_easiest 75 = .ok (.getfield 32, 3) := by decide +kernel
theorem dX0_easiest_78 : decode cX0_easiest 78 = .ok (.invokevirtual 55, 3) := by decide +kernel
theorem dX0_easiest_81 : decode cX0_easiest 81 = .ok (.iconst 1, 1) := by decide +kernel
theorem dX0_easiest_82 : decode cX0_easiest 82 = .ok (.isub, 1) := by decide +kernel
theorem dX0_easiest_83 : decode cX0_easiest 83 = .ok (.invokevirtual 59, 3) := by decide +kernel
theorem dX0_easiest_86 : decode cX0_easiest 86 = .ok (.lreturn, 1) := by decide +kernel
abbrev mX0_firstAbove_0_e0 : ByteArray := .mk #[0x2a, 0xb4, 0x00, 0x0c, 0x03, 0x09, 0xb6, 0x00, 0x1c, 0x04, 0x3e, 0x1d, 0x2b, 0xb4, 0x00, 0x20, 0xa3, 0x00, 0x2d, 0x2b, 0x2a, 0xb4, 0x00, 0x0c, 0x1d, 0x14, 0x00, 0x3f, 0x02, 0xb6, 0x00, 0x28, 0x2a, 0xb4, 0x00, 0x0c, 0x1d, 0x2b, 0xb4, 0x00, 0x41, 0x2b, 0xb4, 0x00, 0x2c, 0x1d, 0x2e, 0x64, 0x2b, 0xb4, 0x00, 0x30, 0xb6, 0x00, 0x44, 0x84, 0x03, 0x01, 0xa7, 0xff, 0xd1, 0x03, 0x3e, 0x1d, 0x2a, 0xb4, 0x00, 0x0c, 0x2b, 0xb4, 0x00, 0x20]
theorem kmX0_firstAbove_0_e0 : CK cX0_firstAbove 0 mX0_firstAbove_0_e0 := ck_of (by decide +kernel)
theorem dX0_firstAbove_0 : decode cX0_firstAbove 0 = .ok (.aload_n 0, 1) := rd_chunk (k := 0) (i := 0) kmX0_firstAbove_0_e0 (by decide +kernel)
theorem dX0_firstAbove_1 : decode cX0_firstAbove 1 = .ok (.getfield 12, 3) := rd_chunk (k := 0) (i := 1) kmX0_firstAbove_0_e0 (by decide +kernel)
theorem dX0_firstAbove_4 : decode cX0_firstAbove 4 = .ok (.iconst 0, 1) := rd_chunk (k := 0) (i := 4) kmX0_firstAbove_0_e0 (by decide +kernel)
theorem dX0_firstAbove_5 : decode cX0_firstAbove 5 = .ok (.lconst 0, 1) := rd_chunk (k := 0) (i := 5) kmX0_firstAbove_0_e0 (by decide +kernel)
theorem dX0_firstAbove_6 : decode cX0_firstAbove 6 = .ok (.invokevirtual 28, 3) := rd_chunk (k := 0) (i := 6) kmX0_firstAbove_0_e0 (by decide +kernel)
theorem dX0_firstAbove_9 : decode cX0_firstAbove 9 = .ok (.iconst 1, 1) := rd_chunk (k := 0) (i := 9) kmX0_firstAbove_0_e0 (by decide +kernel)
theorem dX0_firstAbove_10 : decode cX0_firstAbove 10 = .ok (.istore_n 3, 1) := rd_chunk (k := 0) (i := 10) kmX0_firstAbove_0_e0 (by decide +kernel)
theorem dX0_firstAbove_11 : decode cX0_firstAbove 11 = .ok (.iload_n 3, 1) := rd_chunk (k := 0) (i := 11) kmX0_firstAbove_0_e0 (by decide +kernel)
theorem dX0_firstAbove_12 : decode cX0_firstAbove 12 = .ok (.aload_n 1, 1) := rd_chunk (k := 0) (i := 12) kmX0_firstAbove_0_e0 (by decide +kernel)
theorem dX0_firstAbove_13 : decode cX0_firstAbove 13 = .ok (.getfield 32, 3) := rd_chunk (k := 0) (i := 13) kmX0_firstAbove_0_e0 (by decide +kernel)
theorem dX0_firstAbove_16 : decode cX0_firstAbove 16 = .ok (.if_icmp .gt 45, 3) := rd_chunk (k := 0) (i := 16) kmX0_firstAbove_0_e0 (by decide +kernel)
theorem dX0_firstAbove_19 : decode cX0_firstAbove 19 = .ok (.aload_n 1, 1) := rd_chunk (k := 0) (i := 19) kmX0_firstAbove_0_e0 (by decide +kernel)
theorem dX0_firstAbove_20 : decode cX0_firstAbove 20 = .ok (.aload_n 0, 1) := rd_chunk (k := 0) (i := 20) kmX0_firstAbove_0_e0 (by decide +kernel)
theorem dX0_firstAbove_21 : decode cX0_firstAbove 21 = .ok (.getfield 12, 3) := rd_chunk (k := 0) (i := 21) kmX0_firstAbove_0_e0 (by decide +kernel)
theorem dX0_firstAbove_24 : decode cX0_firstAbove 24 = .ok (.iload_n 3, 1) := rd_chunk (k := 0) (i := 24) kmX0_firstAbove_0_e0 (by decide +kernel)
theorem dX0_firstAbove_25 : decode cX0_firstAbove 25 = .ok (.ldc2_w 63, 3) := rd_chunk (k := 0) (i := 25) kmX0_firstAbove_0_e0 (by decide +kernel)
theorem dX0_firstAbove_28 : decode cX0_firstAbove 28 = .ok (.iconst (-1), 1) := rd_chunk (k := 0) (i := 28) kmX0_firstAbove_0_e0 (by decide +kernel)
theorem dX0_firstAbove_29 : decode cX0_firstAbove 29 = .ok (.invokevirtual 40, 3) := rd_chunk (k := 0) (i := 29) kmX0_firstAbove_0_e0 (by decide +kernel)
theorem dX0_firstAbove_32 : decode cX0_firstAbove 32 = .ok (.aload_n 0, 1) := rd_chunk (k := 0) (i := 32) kmX0_firstAbove_0_e0 (by decide +kernel)
theorem dX0_firstAbove_33 : decode cX0_firstAbove 33 = .ok (.getfield 12, 3) := rd_chunk (k := 0) (i := 33) kmX0_firstAbove_0_e0 (by decide +kernel)
theorem dX0_firstAbove_36 : decode cX0_firstAbove 36 = .ok (.iload_n 3, 1) := rd_chunk (k := 0) (i := 36) kmX0_firstAbove_0_e0 (by decide +kernel)
theorem dX0_firstAbove_37 : decode cX0_firstAbove 37 = .ok (.aload_n 1, 1) := rd_chunk (k := 0) (i := 37) kmX0_firstAbove_0_e0 (by decide +kernel)
theorem dX0_firstAbove_38 : decode cX0_firstAbove 38 = .ok (.getfield 65, 3) := rd_chunk (k := 0) (i := 38) kmX0_firstAbove_0_e0 (by decide +kernel)
theorem dX0_firstAbove_41 : decode cX0_firstAbove 41 = .ok (.aload_n 1, 1) := rd_chunk (k := 0) (i := 41) kmX0_firstAbove_0_e0 (by decide +kernel)
theorem dX0_firstAbove_42 : decode cX0_firstAbove 42 = .ok (.getfield 44, 3) := rd_chunk (k := 0) (i := 42) kmX0_firstAbove_0_e0 (by decide +kernel)
theorem dX0_firstAbove_45 : decode cX0_firstAbove 45 = .ok (.iload_n 3, 1) := rd_chunk (k := 0) (i := 45) kmX0_firstAbove_0_e0 (by decide +kernel)
theorem dX0_firstAbove_46 : decode cX0_firstAbove 46 = .ok (.iaload, 1) := rd_chunk (k := 0) (i := 46) kmX0_firstAbove_0_e0 (by decide +kernel)
theorem dX0_firstAbove_47 : decode cX0_firstAbove 47 = .ok (.isub, 1) := rd_chunk (k := 0) (i := 47) kmX0_firstAbove_0_e0 (by decide +kernel)
theorem dX0_firstAbove_48 : decode cX0_firstAbove 48 = .ok (.aload_n 1, 1) := rd_chunk (k := 0) (i := 48) kmX0_firstAbove_0_e0 (by decide +kernel)
theorem dX0_firstAbove_49 : decode cX0_firstAbove 49 = .ok (.getfield 48, 3) := rd_chunk (k := 0) (i := 49) kmX0_firstAbove_0_e0 (by decide +kernel)
theorem dX0_firstAbove_52 : decode cX0_firstAbove 52 = .ok (.invokevirtual 68, 3) := rd_chunk (k := 0) (i := 52) kmX0_firstAbove_0_e0 (by decide +kernel)
theorem dX0_firstAbove_55 : decode cX0_firstAbove 55 = .ok (.iinc 3 1, 3) := rd_chunk (k := 0) (i := 55) kmX0_firstAbove_0_e0 (by decide +kernel)
theorem dX0_firstAbove_58 : decode cX0_firstAbove 58 = .ok (.goto (-47), 3) := rd_chunk (k := 0) (i := 58) kmX0_firstAbove_0_e0 (by decide +kernel)
theorem dX0_firstAbove_61 : decode cX0_firstAbove 61 = .ok (.iconst 0, 1) := rd_chunk (k := 0) (i := 61) kmX0_firstAbove_0_e0 (by decide +kernel)
theorem dX0_firstAbove_62 : decode cX0_firstAbove 62 = .ok (.istore_n 3, 1) := rd_chunk (k := 0) (i := 62) kmX0_firstAbove_0_e0 (by decide +kernel)
theorem dX0_firstAbove_63 : decode cX0_firstAbove 63 = .ok (.iload_n 3, 1) := rd_chunk (k := 0) (i := 63) kmX0_firstAbove_0_e0 (by decide +kernel)
abbrev mX0_firstAbove_64_e0 : ByteArray := .mk #[0x2a, 0xb4, 0x00, 0x0c, 0x2b, 0xb4, 0x00, 0x20, 0xb6, 0x00, 0x37, 0xa2, 0x00, 0x23, 0x2a, 0xb4, 0x00, 0x0c, 0x2b, 0xb4, 0x00, 0x20, 0x1d, 0xb6, 0x00, 0x3b, 0x37, 0x04, 0x16, 0x04, 0xb8, 0x00, 0x47, 0x1c, 0xa4, 0x00, 0x06, 0x16, 0x04, 0xad, 0x84, 0x03, 0x01, 0xa7, 0xff, 0xd4, 0x14, 0x00, 0x4b, 0xad]
theorem kmX0_firstAbove_64_e0 : CK cX0_firstAbove 64 mX0_firstAbove_64_e0 := ck_of (by decide +kernel)
theorem dX0_firstAbove_64 : decode cX0_firstAbove 64 = .ok (.aload_n 0, 1) := rd_chunk (k := 64) (i := 0) kmX0_firstAbove_64_e0 (by decide +kernel)
theorem dX0_firstAbove_65 : decode cX0_firstAbove 65 = .ok (.getfield 12, 3) := rd_chunk (k := 64) (i := 1) kmX0_firstAbove_64_e0 (by decide +kernel)
theorem dX0_firstAbove_68 : decode cX0_firstAbove 68 = .ok (.aload_n 1, 1) := rd_chunk (k := 64) (i := 4) kmX0_firstAbove_64_e0 (by decide +kernel)
theorem dX0_firstAbove_69 : decode cX0_firstAbove 69 = .ok (.getfield 32, 3) := rd_chunk (k := 64) (i := 5) kmX0_firstAbove_64_e0 (by decide +kernel)
theorem dX0_firstAbove_72 : decode cX0_firstAbove 72 = .ok (.invokevirtual 55, 3) := rd_chunk (k := 64) (i := 8) kmX0_firstAbove_64_e0 (by decide +kernel)
theorem dX0_firstAbove_75 : decode cX0_firstAbove 75 = .ok (.if_icmp .ge 35, 3) := rd_chunk (k := 64) (i := 11) kmX0_firstAbove_64_e0 (by decide +kernel)
theorem dX0_firstAbove_78 : decode cX0_firstAbove 78 = .ok (.aload_n 0, 1) := rd_chunk (k := 64) (i := 14) kmX0_firstAbove_64_e0 (by decide +kernel)
theorem dX0_firstAbove_79 : decode cX0_firstAbove 79 = .ok (.getfield 12, 3) := rd_chunk (k := 64) (i := 15) kmX0_firstAbove_64_e0 (by decide +kernel)
theorem dX0_firstAbove_82 : decode cX0_firstAbove 82 = .ok (.aload_n 1, 1) := rd_chunk (k := 64) (i := 18) kmX0_firstAbove_64_e0 (by decide +kernel)
theorem dX0_firstAbove_83 : decode cX0_firstAbove 83 = .ok (.getfield 32, 3) := rd_chunk (k := 64) (i := 19) kmX0_firstAbove_64_e0 (by decide +kernel)
theorem dX0_firstAbove_86 : decode cX0_firstAbove 86 = .ok (.iload_n 3, 1) := rd_chunk (k := 64) (i := 22) kmX0_firstAbove_64_e0 (by decide +kernel)
theorem dX0_firstAbove_87 : decode cX0_firstAbove 87 = .ok (.invokevirtual 59, 3) := rd_chunk (k := 64) (i := 23) kmX0_firstAbove_64_e0 (by decide +kernel)
theorem dX0_firstAbove_90 : decode cX0_firstAbove 90 = .ok (.lstore 4, 2) := rd_chunk (k := 64) (i := 26) kmX0_firstAbove_64_e0 (by decide +kernel)
theorem dX0_firstAbove_92 : decode cX0_firstAbove 92 = .ok (.lload 4, 2) := rd_chunk (k := 64) (i := 28) kmX0_firstAbove_64_e0 (by decide +kernel)
theorem dX0_firstAbove_94 : decode cX0_firstAbove 94 = .ok (.invokestatic 71, 3) := rd_chunk (k := 64) (i := 30) kmX0_firstAbove_64_e0 (by decide +kernel)
theorem dX0_firstAbove_97 : decode cX0_firstAbove 97 = .ok (.iload_n 2, 1) := rd_chunk (k := 64) (i := 33) kmX0_firstAbove_64_e0 (by decide +kernel)
theorem dX0_firstAbove_98 : decode cX0_firstAbove 98 = .ok (.if_icmp .le 6, 3) := rd_chunk (k := 64) (i := 34) kmX0_firstAbove_64_e0 (by decide +kernel)
theorem dX0_firstAbove_101 : decode cX0_firstAbove 101 = .ok (.lload 4, 2) := rd_chunk (k := 64) (i := 37) kmX0_firstAbove_64_e0 (by decide +kernel)
theorem dX0_firstAbove_103 : decode cX0_firstAbove 103 = .ok (.lreturn, 1) := rd_chunk (k := 64) (i := 39) kmX0_firstAbove_64_e0 (by decide +kernel)
theorem dX0_firstAbove_104 : decode cX0_firstAbove 104 = .ok (.iinc 3 1, 3) := rd_chunk (k := 64) (i := 40) kmX0_firstAbove_64_e0 (by decide +kernel)
theorem dX0_firstAbove_107 : decode cX0_firstAbove 107 = .ok (.goto (-44), 3) := rd_chunk (k := 64) (i := 43) kmX0_firstAbove_64_e0 (by decide +kernel)
theorem dX0_firstAbove_110 : decode cX0_firstAbove 110 = .ok (.ldc2_w 75, 3) := rd_chunk (k := 64) (i := 46) kmX0_firstAbove_64_e0 (by decide +kernel)
theorem dX0_firstAbove_113 : decode cX0_firstAbove 113 = .ok (.lreturn, 1) := rd_chunk (k := 64) (i := 49) kmX0_firstAbove_64_e0 (by decide +kernel)
abbrev mX0_tally_0_e0 : ByteArray := .mk #[0x2a, 0x09, 0xb5, 0x00, 0x16, 0x2b, 0xb4, 0x00, 0x20, 0x99, 0x00, 0x18, 0x1c, 0x2b, 0xb4, 0x00, 0x30, 0xa3, 0x00, 0x10, 0x2b, 0xb4, 0x00, 0x2c, 0x03, 0x2e, 0x2b, 0xb4, 0x00, 0x41, 0xa4, 0x00, 0x05, 0x09, 0xad, 0x2a, 0x2b, 0xb6, 0x00, 0x4d, 0x2a, 0xb4, 0x00, 0x0c, 0x03, 0x0a, 0xb6, 0x00, 0x1c, 0x04, 0x36, 0x04, 0x15, 0x04, 0x2b, 0xb4, 0x00, 0x20, 0xa3, 0x00, 0x2a, 0x2b, 0x2a, 0xb4, 0x00, 0x0c, 0x15, 0x04, 0x14, 0x00, 0x3f, 0x1d]
theorem kmX0_tally_0_e0 : CK cX0_tally 0 mX0_tally_0_e0 := ck_of (by decide +kernel)
theorem dX0_tally_0 : decode cX0_tally 0 = .ok (.aload_n 0, 1) := rd_chunk (k := 0) (i := 0) kmX0_tally_0_e0 (by decide +kernel)
theorem dX0_tally_1 : decode cX0_tally 1 = .ok (.lconst 0, 1) := rd_chunk (k := 0) (i := 1) kmX0_tally_0_e0 (by decide +kernel)
theorem dX0_tally_2 : decode cX0_tally 2 = .ok (.putfield 22, 3) := rd_chunk (k := 0) (i := 2) kmX0_tally_0_e0 (by decide +kernel)
theorem dX0_tally_5 : decode cX0_tally 5 = .ok (.aload_n 1, 1) := rd_chunk (k := 0) (i := 5) kmX0_tally_0_e0 (by decide +kernel)
theorem dX0_tally_6 : decode cX0_tally 6 = .ok (.getfield 32, 3) := rd_chunk (k := 0) (i := 6) kmX0_tally_0_e0 (by decide +kernel)
theorem dX0_tally_9 : decode cX0_tally 9 = .ok (.ifCond .eq 24, 3) := rd_chunk (k := 0) (i := 9) kmX0_tally_0_e0 (by decide +kernel)
theorem dX0_tally_12 : decode cX0_tally 12 = .ok (.iload_n 2, 1) := rd_chunk (k := 0) (i := 12) kmX0_tally_0_e0 (by decide +kernel)
theorem dX0_tally_13 : decode cX0_tally 13 = .ok (.aload_n 1, 1) := rd_chunk (k := 0) (i := 13) kmX0_tally_0_e0 (by decide +kernel)
theorem dX0_tally_14 : decode cX0_tally 14 = .ok (.getfield 48, 3) := rd_chunk (k := 0) (i := 14) kmX0_tally_0_e0 (by decide +kernel)
theorem dX0_tally_17 : decode cX0_tally 17 = .ok (.if_icmp .gt 16, 3) := rd_chunk (k := 0) (i := 17) kmX0_tally_0_e0 (by decide +kernel)
theorem dX0_tally_20 : decode cX0_tally 20 = .ok (.aload_n 1, 1) := rd_chunk (k := 0) (i := 20) kmX0_tally_0_e0 (by decide +kernel)
theorem dX0_tally_21 : decode cX0_tally 21 = .ok (.getfield 44, 3) := rd_chunk (k := 0) (i := 21) kmX0_tally_0_e0 (by decide +kernel)
theorem dX0_tally_24 : decode cX0_tally 24 = .ok (.iconst 0, 1) := rd_chunk (k := 0) (i := 24) kmX0_tally_0_e0 (by decide +kernel)
theorem dX0_tally_25 : decode cX0_tally 25 = .ok (.iaload, 1) := rd_chunk (k := 0) (i := 25) kmX0_tally_0_e0 (by decide +kernel)
theorem dX0_tally_26 : decode cX0_tally 26 = .ok (.aload_n 1, 1) := rd_chunk (k := 0) (i := 26) kmX0_tally_0_e0 (by decide +kernel)
theorem dX0_tally_27 : decode cX0_tally 27 = .ok (.getfield 65, 3) := rd_chunk (k := 0) (i := 27) kmX0_tally_0_e0 (by decide +kernel)
theorem dX0_tally_30 : decode cX0_tally 30 = .ok (.if_icmp .le 5, 3) := rd_chunk (k := 0) (i := 30) kmX0_tally_0_e0 (by decide +kernel)
theorem dX0_tally_33 : decode cX0_tally 33 = .ok (.lconst 0, 1) := rd_chunk (k := 0) (i := 33) kmX0_tally_0_e0 (by decide +kernel)
theorem dX0_tally_34 : decode cX0_tally 34 = .ok (.lreturn, 1) := rd_chunk (k := 0) (i := 34) kmX0_tally_0_e0 (by decide +kernel)
theorem dX0_tally_35 : decode cX0_tally 35 = .ok (.aload_n 0, 1) := rd_chunk (k := 0) (i := 35) kmX0_tally_0_e0 (by decide +kernel)
theorem dX0_tally_36 : decode cX0_tally 36 = .ok (.aload_n 1, 1) := rd_chunk (k := 0) (i := 36) kmX0_tally_0_e0 (by decide +kernel)
theorem dX0_tally_37 : decode cX0_tally 37 = .ok (.invokevirtual 77, 3) := rd_chunk (k := 0) (i := 37) kmX0_tally_0_e0 (by decide +kernel)
theorem dX0_tally_40 : decode cX0_tally 40 = .ok (.aload_n 0, 1) := rd_chunk (k := 0) (i := 40) kmX0_tally_0_e0 (by decide +kernel)
theorem dX0_tally_41 : decode cX0_tally 41 = .ok (.getfield 12, 3) := rd_chunk (k := 0) (i := 41) kmX0_tally_0_e0 (by decide +kernel)
theorem dX0_tally_44 : decode cX0_tally 44 = .ok (.iconst 0, 1) := rd_chunk (k := 0) (i := 44) kmX0_tally_0_e0 (by decide +kernel)
theorem dX0_tally_45 : decode cX0_tally 45 = .ok (.lconst 1, 1) := rd_chunk (k := 0) (i := 45) kmX0_tally_0_e0 (by decide +kernel)
theorem dX0_tally_46 : decode cX0_tally 46 = .ok (.invokevirtual 28, 3) := rd_chunk (k := 0) (i := 46) kmX0_tally_0_e0 (by decide +kernel)
theorem dX0_tally_49 : decode cX0_tally 49 = .ok (.iconst 1, 1) := rd_chunk (k := 0) (i := 49) kmX0_tally_0_e0 (by decide +kernel)
theorem dX0_tally_50 : decode cX0_tally 50 = .ok (.istore 4, 2) := rd_chunk (k := 0) (i := 50) kmX0_tally_0_e0 (by decide +kernel)
theorem dX0_tally_52 : decode cX0_tally 52 = .ok (.iload 4, 2) := rd_chunk (k := 0) (i := 52) kmX0_tally_0_e0 (by decide +kernel)
theorem dX0_tally_54 : decode cX0_tally 54 = .ok (.aload_n 1, 1) := rd_chunk (k := 0) (i := 54) kmX0_tally_0_e0 (by decide +kernel)
theorem dX0_tally_55 : decode cX0_tally 55 = .ok (.getfield 32, 3) := rd_chunk (k := 0) (i := 55) kmX0_tally_0_e0 (by decide +kernel)
theorem dX0_tally_58 : decode cX0_tally 58 = .ok (.if_icmp .gt 42, 3) := rd_chunk (k := 0) (i := 58) kmX0_tally_0_e0 (by decide +kernel)
theorem dX0_tally_61 : decode cX0_tally 61 = .ok (.aload_n 1, 1) := rd_chunk (k := 0) (i := 61) kmX0_tally_0_e0 (by decide +kernel)
theorem dX0_tally_62 : decode cX0_tally 62 = .ok (.aload_n 0, 1) := rd_chunk (k := 0) (i := 62) kmX0_tally_0_e0 (by decide +kernel)
theorem dX0_tally_63 : decode cX0_tally 63 = .ok (.getfield 12, 3) := rd_chunk (k := 0) (i := 63) kmX0_tally_0_e0 (by decide +kernel)
abbrev mX0_tally_64_e0 : ByteArray := .mk #[0x00, 0x0c, 0x15, 0x04, 0x14, 0x00, 0x3f, 0x1d, 0xb6, 0x00, 0x28, 0x2a, 0x15, 0x04, 0x2b, 0xb4, 0x00, 0x41, 0x2b, 0xb4, 0x00, 0x2c, 0x15, 0x04, 0x2e, 0x64, 0x1c, 0xb6, 0x00, 0x51, 0x84, 0x04, 0x01, 0xa7, 0xff, 0xd3, 0x09, 0x37, 0x04, 0x03, 0x36, 0x06, 0x15, 0x06, 0x2a, 0xb4, 0x00, 0x0c, 0x2b, 0xb4, 0x00, 0x20, 0xb6, 0x00, 0x37, 0xa2, 0x00, 0x35, 0x2a, 0xb4, 0x00, 0x0c, 0x2b, 0xb4, 0x00, 0x20, 0x15, 0x06, 0xb6, 0x00, 0x3b, 0x14]
theorem kmX0_tally_64_e0 : CK cX0_tally 64 mX0_tally_64_e0 := ck_of (by decide +kernel)
theorem dX0_tally_66 : decode cX0_tally 66 = .ok (.iload 4, 2) := rd_chunk (k := 64) (i := 2) kmX0_tally_64_e0 (by decide +kernel)
theorem dX0_tally_68 : decode cX0_tally 68 = .ok (.ldc2_w 63, 3) := rd_chunk (k := 64) (i := 4) kmX0_tally_64_e0 (by decide +kernel)
theorem dX0_tally_71 : decode cX0_tally 71 = .ok (.iload_n 3, 1) := rd_chunk (k := 64) (i := 7) kmX0_tally_64_e0 (by decide +kernel)
theorem dX0_tally_72 : decode cX0_tally 72 = .ok (.invokevirtual 40, 3) := rd_chunk (k := 64) (i := 8) kmX0_tally_64_e0 (by decide +kernel)
theorem dX0_tally_75 : decode cX0_tally 75 = .ok (.aload_n 0, 1) := rd_chunk (k := 64) (i := 11) kmX0_tally_64_e0 (by decide +kernel)
theorem dX0_tally_76 : decode cX0_tally 76 = .ok (.iload 4, 2) := rd_chunk (k := 64) (i := 12) kmX0_tally_64_e0 (by decide +kernel)
theorem dX0_tally_78 : decode cX0_tally 78 = .ok (.aload_n 1, 1) := rd_chunk (k := 64) (i := 14) kmX0_tally_64_e0 (by decide +kernel)
theorem dX0_tally_79 : decode cX0_tally 79 = .ok (.getfield 65, 3) := rd_chunk (k := 64) (i := 15) kmX0_tally_64_e0 (by decide +kernel)
theorem dX0_tally_82 : decode cX0_tally 82 = .ok (.aload_n 1, 1) := rd_chunk (k := 64) (i := 18) kmX0_tally_64_e0 (by decide +kernel)
theorem dX0_tally_83 : decode cX0_tally 83 = .ok (.getfield 44, 3) := rd_chunk (k := 64) (i := 19) kmX0_tally_64_e0 (by decide +kernel)
theorem dX0_tally_86 : decode cX0_tally 86 = .ok (.iload 4, 2) := rd_chunk (k := 64) (i := 22) kmX0_tally_64_e0 (by decide +kernel)
theorem dX0_tally_88 : decode cX0_tally 88 = .ok (.iaload, 1) := rd_chunk (k := 64) (i := 24) kmX0_tally_64_e0 (by decide +kernel)
theorem dX0_tally_89 : decode cX0_tally 89 = .ok (.isub, 1) := rd_chunk (k := 64) (i := 25) kmX0_tally_64_e0 (by decide +kernel)
theorem dX0_tally_90 : decode cX0_tally 90 = .ok (.iload_n 2, 1) := rd_chunk (k := 64) (i := 26) kmX0_tally_64_e0 (by decide +kernel)
theorem dX0_tally_91 : decode cX0_tally 91 = .ok (.invokevirtual 81, 3) := rd_chunk (k := 64) (i := 27) kmX0_tally_64_e0 (by decide +kernel)
theorem dX0_tally_94 : decode cX0_tally 94 = .ok (.iinc 4 1, 3) := rd_chunk (k := 64) (i := 30) kmX0_tally_64_e0 (by decide +kernel)
theorem dX0_tally_97 : decode cX0_tally 97 = .ok (.goto (-45), 3) := rd_chunk (k := 64) (i := 33) kmX0_tally_64_e0 (by decide +kernel)
theorem dX0_tally_100 : decode cX0_tally 100 = .ok (.lconst 0, 1) := rd_chunk (k := 64) (i := 36) kmX0_tally_64_e0 (by decide +kernel)
theorem dX0_tally_101 : decode cX0_tally 101 = .ok (.lstore 4, 2) := rd_chunk (k := 64) (i := 37) kmX0_tally_64_e0 (by decide +kernel)
theorem dX0_tally_103 : decode cX0_tally 103 = .ok (.iconst 0, 1) := rd_chunk (k := 64) (i := 39) kmX0_tally_64_e0 (by decide +kernel)
theorem dX0_tally_104 : decode cX0_tally 104 = .ok (.istore 6, 2) := rd_chunk (k := 64) (i := 40) kmX0_tally_64_e0 (by decide +kernel)
theorem dX0_tally_106 : decode cX0_tally 106 = .ok (.iload 6, 2) := rd_chunk (k := 64) (i := 42) kmX0_tally_64_e0 (by decide +kernel)
theorem dX0_tally_108 : decode cX0_tally 108 = .ok (.aload_n 0, 1) := rd_chunk (k := 64) (i := 44) kmX0_tally_64_e0 (by decide +kernel)
theorem dX0_tally_109 : decode cX0_tally 109 = .ok (.getfield 12, 3) := rd_chunk (k := 64) (i := 45) kmX0_tally_64_e0 (by decide +kernel)
theorem dX0_tally_112 : decode cX0_tally 112 = .ok (.aload_n 1, 1) := rd_chunk (k := 64) (i := 48) kmX0_tally_64_e0 (by decide +kernel)
theorem dX0_tally_113 : decode cX0_tally 113 = .ok (.getfield 32, 3) := rd_chunk (k := 64) (i := 49) kmX0_tally_64_e0 (by decide +kernel)
theorem dX0_tally_116 : decode cX0_tally 116 = .ok (.invokevirtual 55, 3) := rd_chunk (k := 64) (i := 52) kmX0_tally_64_e0 (by decide +kernel)
theorem dX0_tally_119 : decode cX0_tally 119 = .ok (.if_icmp .ge 53, 3) := rd_chunk (k := 64) (i := 55) kmX0_tally_64_e0 (by decide +kernel)
theorem dX0_tally_122 : decode cX0_tally 122 = .ok (.aload_n 0, 1) := rd_chunk (k := 64) (i := 58) kmX0_tally_64_e0 (by decide +kernel)
theorem dX0_tally_123 : decode cX0_tally 123 = .ok (.getfield 12, 3) := rd_chunk (k := 64) (i := 59) kmX0_tally_64_e0 (by decide +kernel)
theorem dX0_tally_126 : decode cX0_tally 126 = .ok (.aload_n 1, 1) := rd_chunk (k := 64) (i := 62) kmX0_tally_64_e0 (by decide +kernel)
theorem dX0_tally_127 : decode cX0_tally 127 = .ok (.getfield 32, 3) := rd_chunk (k := 64) (i := 63) kmX0_tally_64_e0 (by decide +kernel)
abbrev mX0_tally_128_e0 : ByteArray := .mk #[0x00, 0x20, 0x15, 0x06, 0xb6, 0x00, 0x3b, 0x14, 0x00, 0x54, 0x7f, 0x37, 0x07, 0x16, 0x04, 0x16, 0x07, 0x61, 0x37, 0x04, 0x2a, 0x15, 0x06, 0x9a, 0x00, 0x08, 0x16, 0x07, 0xa7, 0x00, 0x07, 0x2a, 0xb4, 0x00, 0x16, 0xb5, 0x00, 0x16, 0x84, 0x06, 0x01, 0xa7, 0xff, 0xc1, 0x16, 0x04, 0xad]
theorem kmX0_tally_128_e0 : CK cX0_tally 128 mX0_tally_128_e0 := ck_of (by decide +kernel)
theorem dX0_tally_130 : decode cX0_tally 130 = .ok (.iload 6, 2) := rd_chunk (k := 128) (i := 2) kmX0_tally_128_e0 (by decide +kernel)
theorem dX0_tally_132 : decode cX0_tally 132 = .ok (.invokevirtual 59, 3) := rd_chunk (k := 128) (i := 4) kmX0_tally_128_e0 (by decide +kernel)
theorem dX0_tally_135 : decode cX0_tally 135 = .ok (.ldc2_w 84, 3) := rd_chunk (k := 128) (i := 7) kmX0_tally_128_e0 (by decide +kernel)
theorem dX0_tally_138 : decode cX0_tally 138 = .ok (.land, 1) := rd_chunk (k := 128) (i := 10) kmX0_tally_128_e0 (by decide +kernel)
theorem dX0_tally_139 : decode cX0_tally 139 = .ok (.lstore 7, 2) := rd_chunk (k := 128) (i := 11) kmX0_tally_128_e0 (by decide +kernel)
theorem dX0_tally_141 : decode cX0_tally 141 = .ok (.lload 4, 2) := rd_chunk (k := 128) (i := 13) kmX0_tally_128_e0 (by decide +kernel)
theorem dX0_tally_143 : decode cX0_tally 143 = .ok (.lload 7, 2) := rd_chunk (k := 128) (i := 15) kmX0_tally_128_e0 (by decide +kernel)
theorem dX0_tally_145 : decode cX0_tally 145 = .ok (.ladd, 1) := rd_chunk (k := 128) (i := 17) kmX0_tally_128_e0 (by decide +kernel)
theorem dX0_tally_146 : decode cX0_tally 146 = .ok (.lstore 4, 2) := rd_chunk (k := 128) (i := 18) kmX0_tally_128_e0 (by decide +kernel)
theorem dX0_tally_148 : decode cX0_tally 148 = .ok (.aload_n 0, 1) := rd_chunk (k := 128) (i := 20) kmX0_tally_128_e0 (by decide +kernel)
theorem dX0_tally_149 : decode cX0_tally 149 = .ok (.iload 6, 2) := rd_chunk (k := 128) (i := 21) kmX0_tally_128_e0 (by decide +kernel)
theorem dX0_tally_151 : decode cX0_tally 151 = .ok (.ifCond .ne 8, 3) := rd_chunk (k := 128) (i := 23) kmX0_tally_128_e0 (by decide +kernel)
theorem dX0_tally_154 : decode cX0_tally 154 = .ok (.lload 7, 2) := rd_chunk (k := 128) (i := 26) kmX0_tally_128_e0 (by decide +kernel)
theorem dX0_tally_156 : decode cX0_tally 156 = .ok (.goto 7, 3) := rd_chunk (k := 128) (i := 28) kmX0_tally_128_e0 (by decide +kernel)
theorem dX0_tally_159 : decode cX0_tally 159 = .ok (.aload_n 0, 1) := rd_chunk (k := 128) (i := 31) kmX0_tally_128_e0 (by decide +kernel)
theorem dX0_tally_160 : decode cX0_tally 160 = .ok (.getfield 22, 3) := rd_chunk (k := 128) (i := 32) kmX0_tally_128_e0 (by decide +kernel)
theorem dX0_tally_163 : decode cX0_tally 163 = .ok (.putfield 22, 3) := rd_chunk (k := 128) (i := 35) kmX0_tally_128_e0 (by decide +kernel)
theorem dX0_tally_166 : decode cX0_tally 166 = .ok (.iinc 6 1, 3) := rd_chunk (k := 128) (i := 38) kmX0_tally_128_e0 (by decide +kernel)
theorem dX0_tally_169 : decode cX0_tally 169 = .ok (.goto (-63), 3) := rd_chunk (k := 128) (i := 41) kmX0_tally_128_e0 (by decide +kernel)
theorem dX0_tally_172 : decode cX0_tally 172 = .ok (.lload 4, 2) := rd_chunk (k := 128) (i := 44) kmX0_tally_128_e0 (by decide +kernel)
theorem dX0_tally_174 : decode cX0_tally 174 = .ok (.lreturn, 1) := rd_chunk (k := 128) (i := 46) kmX0_tally_128_e0 (by decide +kernel)
theorem dX0_keepOnTheWay_0 : decode cX0_keepOnTheWay 0 = .ok (.aload_n 0, 1) := by decide +kernel
theorem dX0_keepOnTheWay_1 : decode cX0_keepOnTheWay 1 = .ok (.getfield 12, 3) := by decide +kernel
theorem dX0_keepOnTheWay_4 : decode cX0_keepOnTheWay 4 = .ok (.getfield 86, 3) := by decide +kernel
theorem dX0_keepOnTheWay_7 : decode cX0_keepOnTheWay 7 = .ok (.istore 4, 2) := by decide +kernel
theorem dX0_keepOnTheWay_9 : decode cX0_keepOnTheWay 9 = .ok (.iload 4, 2) := by decide +kernel
theorem dX0_keepOnTheWay_11 : decode cX0_keepOnTheWay 11 = .ok (.ifCond .le 66, 3) := by decide +kernel
theorem dX0_keepOnTheWay_14 : decode cX0_keepOnTheWay 14 = .ok (.iload_n 2, 1) := by decide +kernel
theorem dX0_keepOnTheWay_15 : decode cX0_keepOnTheWay 15 = .ok (.ifCond .lt 62, 3) := by decide +kernel
theorem dX0_keepOnTheWay_18 : decode cX0_keepOnTheWay 18 = .ok (.aload_n 0, 1) := by decide +kernel
theorem dX0_keepOnTheWay_19 : decode cX0_keepOnTheWay 19 = .ok (.getfield 12, 3) := by decide +kernel
theorem dX0_keepOnTheWay_22 : decode cX0_keepOnTheWay 22 = .ok (.invokevirtual 89, 3) := by decide +kernel
theorem dX0_keepOnTheWay_25 : decode cX0_keepOnTheWay 25 = .ok (.lstore 5, 2) := by decide +kernel
theorem dX0_keepOnTheWay_27 : decode cX0_keepOnTheWay 27 = .ok (.iload_n 3, 1) := by decide +kernel
theorem dX0_keepOnTheWay_28 : decode cX0_keepOnTheWay 28 = .ok (.lload 5, 2) := by decide +kernel
theorem dX0_keepOnTheWay_30 : decode cX0_keepOnTheWay 30 = .ok (.invokestatic 71, 3) := by decide +kernel
theorem dX0_keepOnTheWay_33 : decode cX0_keepOnTheWay 33 = .ok (.isub, 1) := by decide +kernel
theorem dX0_keepOnTheWay_34 : decode cX0_keepOnTheWay 34 = .ok (.istore 7, 2) := by decide +kernel
theorem dX0_keepOnTheWay_36 : decode cX0_keepOnTheWay 36 = .ok (.iload 7, 2) := by decide +kernel
theorem dX0_keepOnTheWay_38 : decode cX0_keepOnTheWay 38 = .ok (.ifCond .ge 4, 3) := by decide +kernel
theorem dX0_keepOnTheWay_41 : decode cX0_keepOnTheWay 41 = .ok (.return_, 1) := by decide +kernel
theorem dX0_keepOnTheWay_42 : decode cX0_keepOnTheWay 42 = .ok (.lload 5, 2) := by decide +kernel
theorem dX0_keepOnTheWay_44 : decode cX0_keepOnTheWay 44 = .ok (.invokestatic 93, 3) := by decide +kernel
theorem dX0_keepOnTheWay_47 : decode cX0_keepOnTheWay 47 = .ok (.iload_n 2, 1) := by decide +kernel
theorem dX0_keepOnTheWay_48 : decode cX0_keepOnTheWay 48 = .ok (.if_icmp .gt 23, 3) := by decide +kernel
theorem dX0_keepOnTheWay_51 : decode cX0_keepOnTheWay 51 = .ok (.aload_n 0, 1) := by decide +kernel
theorem dX0_keepOnTheWay_52 : decode cX0_keepOnTheWay 52 = .ok (.iload_n 1, 1) := by decide +kernel
theorem dX0_keepOnTheWay_53 : decode cX0_keepOnTheWay 53 = .ok (.iload 7, 2) := by decide +kernel
theorem dX0_keepOnTheWay_55 : decode cX0_keepOnTheWay 55 = .ok (.invokevirtual 96, 3) := by decide +kernel
theorem dX0_keepOnTheWay_58 : decode cX0_keepOnTheWay 58 = .ok (.ifCond .eq 13, 3) := by decide +kernel
theorem dX0_keepOnTheWay_61 : decode cX0_keepOnTheWay 61 = .ok (.aload_n 0, 1) := by decide +kernel
theorem dX0_keepOnTheWay_62 : decode cX0_keepOnTheWay 62 = .ok (.getfield 12, 3) := by decide +kernel
theorem dX0_keepOnTheWay_65 : decode cX0_keepOnTheWay 65 = .ok (.iload_n 1, 1) := by decide +kernel
theorem dX0_keepOnTheWay_66 : decode cX0_keepOnTheWay 66 = .ok (.lload 5, 2) := by decide +kernel
theorem dX0_keepOnTheWay_68 : decode cX0_keepOnTheWay 68 = .ok (.invokevirtual 100, 3) := by decide +kernel
theorem dX0_keepOnTheWay_71 : decode cX0_keepOnTheWay 71 = .ok (.iinc 4 (-1), 3) := by decide +kernel
theorem dX0_keepOnTheWay_74 : decode cX0_keepOnTheWay 74 = .ok (.goto (-65), 3) := by decide +kernel
theorem dX0_keepOnTheWay_77 : decode cX0_keepOnTheWay 77 = .ok (.return_, 1) := by decide +kernel
theorem dX0_findReach_0 : decode cX0_findReach 0 = .ok (.aload_n 0, 1) := by decide +kernel
theorem dX0_findReach_1 : decode cX0_findReach 1 = .ok (.getfield 18, 3) := by decide +kernel
theorem dX0_findReach_4 : decode cX0_findReach 4 = .ok (.lconst 0, 1) := by decide +kernel
theorem dX0_findReach_5 : decode cX0_findReach 5 = .ok (.invokestatic 103, 3) := by decide +kernel
theorem dX0_findReach_8 : decode cX0_findReach 8 = .ok (.aload_n 0, 1) := by decide +kernel
theorem dX0_findReach_9 : decode cX0_findReach 9 = .ok (.getfield 18, 3) := by decide +kernel
theorem dX0_findReach_12 : decode cX0_findReach 12 = .ok (.aload_n 1, 1) := by decide +kernel
theorem dX0_findReach_13 : decode cX0_findReach 13 = .ok (.getfield 32, 3) := by decide +kernel
theorem dX0_findReach_16 : decode cX0_findReach 16 = .ok (.bipush 16, 2) := by decide +kernel
theorem dX0_findReach_18 : decode cX0_findReach 18 = .ok (.imul, 1) := by decide +kernel
theorem dX0_findReach_19 : decode cX0_findReach 19 = .ok (.lconst 1, 1) := by decide +kernel
theorem dX0_findReach_20 : decode cX0_findReach 20 = .ok (.lastore, 1) := by decide +kernel
theorem dX0_findReach_21 : decode cX0_findReach 21 = .ok (.aload_n 1, 1) := by decide +kernel
theorem dX0_findReach_22 : decode cX0_findReach 22 = .ok (.getfield 32, 3) := by decide +kernel
theorem dX0_findReach_25 : decode cX0_findReach 25 = .ok (.iconst 1, 1) := by decide +kernel
theorem dX0_findReach_26 : decode cX0_findReach 26 = .ok (.isub, 1) := by decide +kernel
theorem dX0_findReach_27 : decode cX0_findReach 27 = .ok (.istore_n 2, 1) := by decide +kernel
theorem dX0_findReach_28 : decode cX0_findReach 28 = .ok (.iload_n 2, 1) := by decide +kernel
theorem dX0_findReach_29 : decode cX0_findReach 29 = .ok (.ifCond .lt 66, 3) := by decide +kernel
theorem dX0_findReach_32 : decode cX0_findReach 32 = .ok (.iconst 1, 1) := by decide +kernel
theorem dX0_findReach_33 : decode cX0_findReach 33 = .ok (.istore_n 3, 1) := by decide +kernel
theorem dX0_findReach_34 : decode cX0_findReach 34 = .ok (.iload_n 3, 1) := by decide +kernel
theorem dX0_findReach_35 : decode cX0_findReach 35 = .ok (.aload_n 1, 1) := by decide +kernel
theorem dX0_findReach_36 : decode cX0_findReach 36 = .ok (.getfield 109, 3) := by decide +kernel
theorem dX0_findReach_39 : decode cX0_findReach 39 = .ok (.if_icmp .gt 50, 3) := by decide +kernel
theorem dX0_findReach_42 : decode cX0_findReach 42 = .ok (.iload_n 2, 1) := by decide +kernel
theorem dX0_findReach_43 : decode cX0_findReach 43 = .ok (.iload_n 3, 1) := by decide +kernel
theorem dX0_findReach_44 : decode cX0_findReach 44 = .ok (.iadd, 1) := by decide +kernel
theorem dX0_findReach_45 : decode cX0_findReach 45 = .ok (.aload_n 1, 1) := by decide +kernel
theorem dX0_findReach_46 : decode cX0_findReach 46 = .ok (.getfield 32, 3) := by decide +kernel
theorem dX0_findReach_49 : decode cX0_findReach 49 = .ok (.if_icmp .gt 40, 3) := by decide +kernel
theorem dX0_findReach_52 : decode cX0_findReach 52 = .ok (.aload_n 1, 1) := by decide +kernel
theorem dX0_findReach_53 : decode cX0_findReach 53 = .ok (.getfield 112, 3) := by decide +kernel
theorem dX0_findReach_56 : decode cX0_findReach 56 = .ok (.iload_n 2, 1) := by decide +kernel
theorem dX0_findReach_57 : decode cX0_findReach 57 = .ok (.iload_n 3, 1) := by decide +kernel
theorem dX0_findReach_58 : decode cX0_findReach 58 = .ok (.iadd, 1) := by decide +kernel
theorem dX0_findReach_59 : decode cX0_findReach 59 = .ok (.baload, 1) := by decide +kernel
theorem dX0_findReach_60 : decode cX0_findReach 60 = .ok (.ifCond .eq 23, 3) := by decide +kernel
theorem dX0_findReach_63 : decode cX0_findReach 63 = .ok (.aload_n 0, 1) := by decide +kernel
theorem dX0_findReach_64 : decode cX0_findReach 64 = .ok (.iload_n 2, 1) := by decide +kernel
theorem dX0_findReach_65 : decode cX0_findReach 65 = .ok (.iload_n 2, 1) := by decide +kernel
theorem dX0_findReach_66 : decode cX0_findReach 66 = .ok (.iload_n 3, 1) := by decide +kernel
theorem dX0_findReach_67 : decode cX0_findReach 67 = .ok (.iadd, 1) := by decide +kernel
theorem dX0_findReach_68 : decode cX0_findReach 68 = .ok (.aload_n 1, 1) := by decide +kernel
theorem dX0_findReach_69 : decode cX0_findReach 69 = .ok (.getfield 116, 3) := by decide +kernel
theorem dX0_findReach_72 : decode cX0_findReach 72 = .ok (.iload_n 2, 1) := by decide +kernel
theorem dX0_findReach_73 : decode cX0_findReach 73 = .ok (.iload_n 3, 1) := by decide +kernel
theorem dX0_findReach_74 : decode cX0_findReach 74 = .ok (.iadd, 1) := by decide +kernel
theorem dX0_findReach_75 : decode cX0_findReach 75 = .ok (.iload_n 3, 1) := by decide +kernel
theorem dX0_findReach_76 : decode cX0_findReach 76 = .ok (.invokestatic 119, 3) := by decide +kernel
theorem dX0_findReach_79 : decode cX0_findReach 79 = .ok (.iaload, 1) := by decide +kernel
theorem dX0_findReach_80 : decode cX0_findReach 80 = .ok (.invokevirtual 123, 3) := by decide +kernel
theorem dX0_findReach_83 : decode cX0_findReach 83 = .ok (.iinc 3 1, 3) := by decide +kernel
theorem dX0_findReach_86 : decode cX0_findReach 86 = .ok (.goto (-52), 3) := by decide +kernel
theorem dX0_findReach_89 : decode cX0_findReach 89 = .ok (.iinc 2 (-1), 3) := by decide +kernel
theorem dX0_findReach_92 : decode cX0_findReach 92 = .ok (.goto (-64), 3) := by decide +kernel
theorem dX0_findReach_95 : decode cX0_findReach 95 = .ok (.return_, 1) := by decide +kernel
abbrev mX0_addReach_0_e0 : ByteArray := .mk #[0x1d, 0x10, 0x40, 0x6c, 0x36, 0x04, 0x1d, 0x10, 0x40, 0x70, 0x36, 0x05, 0x10, 0x0f, 0x36, 0x06, 0x15, 0x06, 0x15, 0x04, 0xa1, 0x00, 0x5b, 0x15, 0x06, 0x9b, 0x00, 0x56, 0x2a, 0xb4, 0x00, 0x12, 0x1c, 0x10, 0x10, 0x68, 0x15, 0x06, 0x60, 0x15, 0x04, 0x64, 0x2f, 0x15, 0x05, 0x79, 0x37, 0x07, 0x15, 0x05, 0x9e, 0x00, 0x26, 0x15, 0x06, 0x15, 0x04, 0xa4, 0x00, 0x1f, 0x16, 0x07, 0x2a, 0xb4, 0x00, 0x12, 0x1c, 0x10, 0x10, 0x68, 0x15, 0x06]
theorem kmX0_addReach_0_e0 : CK cX0_addReach 0 mX0_addReach_0_e0 := ck_of (by decide +kernel)
theorem dX0_addReach_0 : decode cX0_addReach 0 = .ok (.iload_n 3, 1) := rd_chunk (k := 0) (i := 0) kmX0_addReach_0_e0 (by decide +kernel)
theorem dX0_addReach_1 : decode cX0_addReach 1 = .ok (.bipush 64, 2) := rd_chunk (k := 0) (i := 1) kmX0_addReach_0_e0 (by decide +kernel)
theorem dX0_addReach_3 : decode cX0_addReach 3 = .ok (.idiv, 1) := rd_chunk (k := 0) (i := 3) kmX0_addReach_0_e0 (by decide +kernel)
theorem dX0_addReach_4 : decode cX0_addReach 4 = .ok (.istore 4, 2) := rd_chunk (k := 0) (i := 4) kmX0_addReach_0_e0 (by decide +kernel)
theorem dX0_addReach_6 : decode cX0_addReach 6 = .ok (.iload_n 3, 1) := rd_chunk (k := 0) (i := 6) kmX0_addReach_0_e0 (by decide +kernel)
theorem dX0_addReach_7 : decode cX0_addReach 7 = .ok (.bipush 64, 2) := rd_chunk (k := 0) (i := 7) kmX0_addReach_0_e0 (by decide +kernel)
theorem dX0_addReach_9 : decode cX0_addReach 9 = .ok (.irem, 1) := rd_chunk (k := 0) (i := 9) kmX0_addReach_0_e0 (by decide +kernel)
theorem dX0_addReach_10 : decode cX0_addReach 10 = .ok (.istore 5, 2) := rd_chunk (k := 0) (i := 10) kmX0_addReach_0_e0 (by decide +kernel)
theorem dX0_addReach_12 : decode cX0_addReach 12 = .ok (.bipush 15, 2) := rd_chunk (k := 0) (i := 12) kmX0_addReach_0_e0 (by decide +kernel)
theorem dX0_addReach_14 : decode cX0_addReach 14 = .ok (.istore 6, 2) := rd_chunk (k := 0) (i := 14) kmX0_addReach_0_e0 (by decide +kernel)
theorem dX0_addReach_16 : decode cX0_addReach 16 = .ok (.iload 6, 2) := rd_chunk (k := 0) (i := 16) kmX0_addReach_0_e0 (by decide +kernel)
theorem dX0_addReach_18 : decode cX0_addReach 18 = .ok (.iload 4, 2) := rd_chunk (k := 0) (i := 18) kmX0_addReach_0_e0 (by decide +kernel)
theorem dX0_addReach_20 : decode cX0_addReach 20 = .ok (.if_icmp .lt 91, 3) := rd_chunk (k := 0) (i := 20) kmX0_addReach_0_e0 (by decide +kernel)
theorem dX0_addReach_23 : decode cX0_addReach 23 = .ok (.iload 6, 2) := rd_chunk (k := 0) (i := 23) kmX0_addReach_0_e0 (by decide +kernel)
theorem dX0_addReach_25 : decode cX0_addReach 25 = .ok (.ifCond .lt 86, 3) := rd_chunk (k := 0) (i := 25) kmX0_addReach_0_e0 (by decide +kernel)
theorem dX0_addReach_28 : decode cX0_addReach 28 = .ok (.aload_n 0, 1) := rd_chunk (k := 0) (i := 28) kmX0_addReach_0_e0 (by decide +kernel)
theorem dX0_addReach_29 : decode cX0_addReach 29 = .ok (.getfield 18, 3) := rd_chunk (k := 0) (i := 29) kmX0_addReach_0_e0 (by decide +kernel)
theorem dX0_addReach_32 : decode cX0_addReach 32 = .ok (.iload_n 2, 1) := rd_chunk (k := 0) (i := 32) kmX0_addReach_0_e0 (by decide +kernel)
theorem dX0_addReach_33 : decode cX0_addReach 33 = .ok (.bipush 16, 2) := rd_chunk (k := 0) (i := 33) kmX0_addReach_0_e0 (by decide +kernel)
theorem dX0_addReach_35 : decode cX0_addReach 35 = .ok (.imul, 1) := rd_chunk (k := 0) (i := 35) kmX0_addReach_0_e0 (by decide +kernel)
theorem dX0_addReach_36 : decode cX0_addReach 36 = .ok (.iload 6, 2) := rd_chunk (k := 0) (i := 36) kmX0_addReach_0_e0 (by decide +kernel)
theorem dX0_addReach_38 : decode cX0_addReach 38 = .ok (.iadd, 1) := rd_chunk (k := 0) (i := 38) kmX0_addReach_0_e0 (by decide +kernel)
theorem dX0_addReach_39 : decode cX0_addReach 39 = .ok (.iload 4, 2) := rd_chunk (k := 0) (i := 39) kmX0_addReach_0_e0 (by decide +kernel)
theorem dX0_addReach_41 : decode cX0_addReach 41 = .ok (.isub, 1) := rd_chunk (k := 0) (i := 41) kmX0_addReach_0_e0 (by decide +kernel)
theorem dX0_addReach_42 : decode cX0_addReach 42 = .ok (.laload, 1) := rd_chunk (k := 0) (i := 42) kmX0_addReach_0_e0 (by decide +kernel)
theorem dX0_addReach_43 : decode cX0_addReach 43 = .ok (.iload 5, 2) := rd_chunk (k := 0) (i := 43) kmX0_addReach_0_e0 (by decide +kernel)
theorem dX0_addReach_45 : decode cX0_addReach 45 = .ok (.lshl, 1) := rd_chunk (k := 0) (i := 45) kmX0_addReach_0_e0 (by decide +kernel)
theorem dX0_addReach_46 : decode cX0_addReach 46 = .ok (.lstore 7, 2) := rd_chunk (k := 0) (i := 46) kmX0_addReach_0_e0 (by decide +kernel)
theorem dX0_addReach_48 : decode cX0_addReach 48 = .ok (.iload 5, 2) := rd_chunk (k := 0) (i := 48) kmX0_addReach_0_e0 (by decide +kernel)
theorem dX0_addReach_50 : decode cX0_addReach 50 = .ok (.ifCond .le 38, 3) := rd_chunk (k := 0) (i := 50) kmX0_addReach_0_e0 (by decide +kernel)
theorem dX0_addReach_53 : decode cX0_addReach 53 = .ok (.iload 6, 2) := rd_chunk (k := 0) (i := 53) kmX0_addReach_0_e0 (by decide +kernel)
theorem dX0_addReach_55 : decode cX0_addReach 55 = .ok (.iload 4, 2) := rd_chunk (k := 0) (i := 55) kmX0_addReach_0_e0 (by decide +kernel)
theorem dX0_addReach_57 : decode cX0_addReach 57 = .ok (.if_icmp .le 31, 3) := rd_chunk (k := 0) (i := 57) kmX0_addReach_0_e0 (by decide +kernel)
theorem dX0_addReach_60 : decode cX0_addReach 60 = .ok (.lload 7, 2) := rd_chunk (k := 0) (i := 60) kmX0_addReach_0_e0 (by decide +kernel)
theorem dX0_addReach_62 : decode cX0_addReach 62 = .ok (.aload_n 0, 1) := rd_chunk (k := 0) (i := 62) kmX0_addReach_0_e0 (by decide +kernel)
theorem dX0_addReach_63 : decode cX0_addReach 63 = .ok (.getfield 18, 3) := rd_chunk (k := 0) (i := 63) kmX0_addReach_0_e0 (by decide +kernel)
abbrev mX0_addReach_64_e0 : ByteArray := .mk #[0x00, 0x12, 0x1c, 0x10, 0x10, 0x68, 0x15, 0x06, 0x60, 0x15, 0x04, 0x64, 0x04, 0x64, 0x2f, 0x10, 0x40, 0x15, 0x05, 0x64, 0x7d, 0x81, 0x37, 0x07, 0x2a, 0xb4, 0x00, 0x12, 0x1b, 0x10, 0x10, 0x68, 0x15, 0x06, 0x60, 0x5c, 0x2f, 0x16, 0x07, 0x81, 0x50, 0x84, 0x06, 0xff, 0xa7, 0xff, 0xa4, 0xb1]
theorem kmX0_addReach_64_e0 : CK cX0_addReach 64 mX0_addReach_64_e0 := ck_of (by decide +kernel)
theorem dX0_addReach_66 : decode cX0_addReach 66 = .ok (.iload_n 2, 1) := rd_chunk (k := 64) (i := 2) kmX0_addReach_64_e0 (by decide +kernel)
theorem dX0_addReach_67 : decode cX0_addReach 67 = .ok (.bipush 16, 2) := rd_chunk (k := 64) (i := 3) kmX0_addReach_64_e0 (by decide +kernel)
theorem dX0_addReach_69 : decode cX0_addReach 69 = .ok (.imul, 1) := rd_chunk (k := 64) (i := 5) kmX0_addReach_64_e0 (by decide +kernel)
theorem dX0_addReach_70 : decode cX0_addReach 70 = .ok (.iload 6, 2) := rd_chunk (k := 64) (i := 6) kmX0_addReach_64_e0 (by decide +kernel)
theorem dX0_addReach_72 : decode cX0_addReach 72 = .ok (.iadd, 1) := rd_chunk (k := 64) (i := 8) kmX0_addReach_64_e0 (by decide +kernel)
theorem dX0_addReach_73 : decode cX0_addReach 73 = .ok (.iload 4, 2) := rd_chunk (k := 64) (i := 9) kmX0_addReach_64_e0 (by decide +kernel)
theorem dX0_addReach_75 : decode cX0_addReach 75 = .ok (.isub, 1) := rd_chunk (k := 64) (i := 11) kmX0_addReach_64_e0 (by decide +kernel)
theorem dX0_addReach_76 : decode cX0_addReach 76 = .ok (.iconst 1, 1) := rd_chunk (k := 64) (i := 12) kmX0_addReach_64_e0 (by decide +kernel)
theorem dX0_addReach_77 : decode cX0_addReach 77 = .ok (.isub, 1) := rd_chunk (k := 64) (i := 13) kmX0_addReach_64_e0 (by decide +kernel)
theorem dX0_addReach_78 : decode cX0_addReach 78 = .ok (.laload, 1) := rd_chunk (k := 64) (i := 14) kmX0_addReach_64_e0 (by decide +kernel)
theorem dX0_addReach_79 : decode cX0_addReach 79 = .ok (.bipush 64, 2) := rd_chunk (k := 64) (i := 15) kmX0_addReach_64_e0 (by decide +kernel)
theorem dX0_addReach_81 : decode cX0_addReach 81 = .ok (.iload 5, 2) := rd_chunk (k := 64) (i := 17) kmX0_addReach_64_e0 (by decide +kernel)
theorem dX0_addReach_83 : decode cX0_addReach 83 = .ok (.isub, 1) := rd_chunk (k := 64) (i := 19) kmX0_addReach_64_e0 (by decide +kernel)
theorem dX0_addReach_84 : decode cX0_addReach 84 = .ok (.lushr, 1) := rd_chunk (k := 64) (i := 20) kmX0_addReach_64_e0 (by decide +kernel)
theorem dX0_addReach_85 : decode cX0_addReach 85 = .ok (.lor, 1) := rd_chunk (k := 64) (i := 21) kmX0_addReach_64_e0 (by decide +kernel)
theorem dX0_addReach_86 : decode cX0_addReach 86 = .ok (.lstore 7, 2) := rd_chunk (k := 64) (i := 22) kmX0_addReach_64_e0 (by decide +kernel)
theorem dX0_addReach_88 : decode cX0_addReach 88 = .ok (.aload_n 0, 1) := rd_chunk (k := 64) (i := 24) kmX0_addReach_64_e0 (by decide +kernel)
theorem dX0_addReach_89 : decode cX0_addReach 89 = .ok (.getfield 18, 3) := rd_chunk (k := 64) (i := 25) kmX0_addReach_64_e0 (by decide +kernel)
theorem dX0_addReach_92 : decode cX0_addReach 92 = .ok (.iload_n 1, 1) := rd_chunk (k := 64) (i := 28) kmX0_addReach_64_e0 (by decide +kernel)
theorem dX0_addReach_93 : decode cX0_addReach 93 = .ok (.bipush 16, 2) := rd_chunk (k := 64) (i := 29) kmX0_addReach_64_e0 (by decide +kernel)
theorem dX0_addReach_95 : decode cX0_addReach 95 = .ok (.imul, 1) := rd_chunk (k := 64) (i := 31) kmX0_addReach_64_e0 (by decide +kernel)
theorem dX0_addReach_96 : decode cX0_addReach 96 = .ok (.iload 6, 2) := rd_chunk (k := 64) (i := 32) kmX0_addReach_64_e0 (by decide +kernel)
theorem dX0_addReach_98 : decode cX0_addReach 98 = .ok (.iadd, 1) := rd_chunk (k := 64) (i := 34) kmX0_addReach_64_e0 (by decide +kernel)
theorem dX0_addReach_99 : decode cX0_addReach 99 = .ok (.dup2, 1) := rd_chunk (k := 64) (i := 35) kmX0_addReach_64_e0 (by decide +kernel)
theorem dX0_addReach_100 : decode cX0_addReach 100 = .ok (.laload, 1) := rd_chunk (k := 64) (i := 36) kmX0_addReach_64_e0 (by decide +kernel)
theorem dX0_addReach_101 : decode cX0_addReach 101 = .ok (.lload 7, 2) := rd_chunk (k := 64) (i := 37) kmX0_addReach_64_e0 (by decide +kernel)
theorem dX0_addReach_103 : decode cX0_addReach 103 = .ok (.lor, 1) := rd_chunk (k := 64) (i := 39) kmX0_addReach_64_e0 (by decide +kernel)
theorem dX0_addReach_104 : decode cX0_addReach 104 = .ok (.lastore, 1) := rd_chunk (k := 64) (i := 40) kmX0_addReach_64_e0 (by decide +kernel)
theorem dX0_addReach_105 : decode cX0_addReach 105 = .ok (.iinc 6 (-1), 3) := rd_chunk (k := 64) (i := 41) kmX0_addReach_64_e0 (by decide +kernel)
theorem dX0_addReach_108 : decode cX0_addReach 108 = .ok (.goto (-92), 3) := rd_chunk (k := 64) (i := 44) kmX0_addReach_64_e0 (by decide +kernel)
theorem dX0_addReach_111 : decode cX0_addReach 111 = .ok (.return_, 1) := rd_chunk (k := 64) (i := 47) kmX0_addReach_64_e0 (by decide +kernel)
theorem dX0_isInReach_0 : decode cX0_isInReach 0 = .ok (.iload_n 2, 1) := by decide +kernel
theorem dX0_isInReach_1 : decode cX0_isInReach 1 = .ok (.bipush 64, 2) := by decide +kernel
theorem dX0_isInReach_3 : decode cX0_isInReach 3 = .ok (.idiv, 1) := by decide +kernel
theorem dX0_isInReach_4 : decode cX0_isInReach 4 = .ok (.istore_n 3, 1) := by decide +kernel
theorem dX0_isInReach_5 : decode cX0_isInReach 5 = .ok (.iload_n 3, 1) := by decide +kernel
theorem dX0_isInReach_6 : decode cX0_isInReach 6 = .ok (.bipush 16, 2) := by decide +kernel
theorem dX0_isInReach_8 : decode cX0_isInReach 8 = .ok (.if_icmp .ge 30, 3) := by decide +kernel
theorem dX0_isInReach_11 : decode cX0_isInReach 11 = .ok (.aload_n 0, 1) := by decide +kernel
theorem dX0_isInReach_12 : decode cX0_isInReach 12 = .ok (.getfield 18, 3) := by decide +kernel
theorem dX0_isInReach_15 : decode cX0_isInReach 15 = .ok (.iload_n 1, 1) := by decide +kernel
theorem dX0_isInReach_16 : decode cX0_isInReach 16 = .ok (.bipush 16, 2) := by decide +kernel
theorem dX0_isInReach_18 : decode cX0_isInReach 18 = .ok (.imul, 1) := by decide +kernel
theorem dX0_isInReach_19 : decode cX0_isInReach 19 = .ok (.iload_n 3, 1) := by decide +kernel
theorem dX0_isInReach_20 : decode cX0_isInReach 20 = .ok (.iadd, 1) := by decide +kernel
theorem dX0_isInReach_21 : decode cX0_isInReach 21 = .ok (.laload, 1) := by decide +kernel
theorem dX0_isInReach_22 : decode cX0_isInReach 22 = .ok (.iload_n 2, 1) := by decide +kernel
theorem dX0_isInReach_23 : decode cX0_isInReach 23 = .ok (.bipush 64, 2) := by decide +kernel
theorem dX0_isInReach_25 : decode cX0_isInReach 25 = .ok (.irem, 1) := by decide +kernel
theorem dX0_isInReach_26 : decode cX0_isInReach 26 = .ok (.lushr, 1) := by decide +kernel
theorem dX0_isInReach_27 : decode cX0_isInReach 27 = .ok (.lconst 1, 1) := by decide +kernel
theorem dX0_isInReach_28 : decode cX0_isInReach 28 = .ok (.land, 1) := by decide +kernel
theorem dX0_isInReach_29 : decode cX0_isInReach 29 = .ok (.lconst 0, 1) := by decide +kernel
theorem dX0_isInReach_30 : decode cX0_isInReach 30 = .ok (.lcmp, 1) := by decide +kernel
theorem dX0_isInReach_31 : decode cX0_isInReach 31 = .ok (.ifCond .eq 7, 3) := by decide +kernel
theorem dX0_isInReach_34 : decode cX0_isInReach 34 = .ok (.iconst 1, 1) := by decide +kernel
theorem dX0_isInReach_35 : decode cX0_isInReach 35 = .ok (.goto 4, 3) := by decide +kernel
theorem dX0_isInReach_38 : decode cX0_isInReach 38 = .ok (.iconst 0, 1) := by decide +kernel
theorem dX0_isInReach_39 : decode cX0_isInReach 39 = .ok (.ireturn, 1) := by decide +kernel
theorem dX1_init_0 : decode cX1_init 0 = .ok (.aload_n 0, 1) := by decide +kernel
theorem dX1_init_1 : decode cX1_init 1 = .ok (.invokespecial 3, 3) := by decide +kernel
theorem dX1_init_4 : decode cX1_init 4 = .ok (.aload_n 0, 1) := by decide +kernel
theorem dX1_init_5 : decode cX1_init 5 = .ok (.bipush 6, 2) := by decide +kernel
theorem dX1_init_7 : decode cX1_init 7 = .ok (.newarray .boolean, 2) := by decide +kernel
theorem dX1_init_9 : decode cX1_init 9 = .ok (.putfield 9, 3) := by decide +kernel
theorem dX1_init_12 : decode cX1_init 12 = .ok (.aload_n 0, 1) := by decide +kernel
theorem dX1_init_13 : decode cX1_init 13 = .ok (.bipush 6, 2) := by decide +kernel
theorem dX1_init_15 : decode cX1_init 15 = .ok (.newarray .long, 2) := by decide +kernel
theorem dX1_init_17 : decode cX1_init 17 = .ok (.putfield 15, 3) := by decide +kernel
theorem dX1_init_20 : decode cX1_init 20 = .ok (.aload_n 0, 1) := by decide +kernel
theorem dX1_init_21 : decode cX1_init 21 = .ok (.bipush 6, 2) := by decide +kernel
theorem dX1_init_23 : decode cX1_init 23 = .ok (.newarray .int, 2) := by decide +kernel
theorem dX1_init_25 : decode cX1_init 25 = .ok (.putfield 19, 3) := by decide +kernel
theorem dX1_init_28 : decode cX1_init 28 = .ok (.aload_n 0, 1) := by decide +kernel
theorem dX1_init_29 : decode cX1_init 29 = .ok (.bipush 6, 2) := by decide +kernel
theorem dX1_init_31 : decode cX1_init 31 = .ok (.newarray .int, 2) := by decide +kernel
theorem dX1_init_33 : decode cX1_init 33 = .ok (.putfield 23, 3) := by decide +kernel
theorem dX1_init_36 : decode cX1_init 36 = .ok (.aload_n 0, 1) := by decide +kernel
theorem dX1_init_37 : decode cX1_init 37 = .ok (.bipush 24, 2) := by decide +kernel
theorem dX1_init_39 : decode cX1_init 39 = .ok (.newarray .int, 2) := by decide +kernel
theorem dX1_init_41 : decode cX1_init 41 = .ok (.putfield 26, 3) := by decide +kernel
theorem dX1_init_44 : decode cX1_init 44 = .ok (.aload_n 0, 1) := by decide +kernel
theorem dX1_init_45 : decode cX1_init 45 = .ok (.bipush 24, 2) := by decide +kernel
theorem dX1_init_47 : decode cX1_init 47 = .ok (.newarray .int, 2) := by decide +kernel
theorem dX1_init_49 : decode cX1_init 49 = .ok (.putfield 29, 3) := by decide +kernel
theorem dX1_init_52 : decode cX1_init 52 = .ok (.aload_n 0, 1) := by decide +kernel
theorem dX1_init_53 : decode cX1_init 53 = .ok (.iconst 0, 1) := by decide +kernel
theorem dX1_init_54 : decode cX1_init 54 = .ok (.putfield 32, 3) := by decide +kernel
theorem dX1_init_57 : decode cX1_init 57 = .ok (.aload_n 0, 1) := by decide +kernel
theorem dX1_init_58 : decode cX1_init 58 = .ok (.iconst 0, 1) := by decide +kernel
theorem dX1_init_59 : decode cX1_init 59 = .ok (.putfield 36, 3) := by decide +kernel
theorem dX1_init_62 : decode cX1_init 62 = .ok (.aload_n 0, 1) := by decide +kernel
theorem dX1_init_63 : decode cX1_init 63 = .ok (.iconst 0, 1) := by decide +kernel
theorem dX1_init_64 : decode cX1_init 64 = .ok (.putfield 39, 3) := by decide +kernel
theorem dX1_init_67 : decode cX1_init 67 = .ok (.aload_n 0, 1) := by decide +kernel
theorem dX1_init_68 : decode cX1_init 68 = .ok (.iconst 0, 1) := by decide +kernel
theorem dX1_init_69 : decode cX1_init 69 = .ok (.putfield 42, 3) := by decide +kernel
theorem dX1_init_72 : decode cX1_init 72 = .ok (.return_, 1) := by decide +kernel
theorem dX1_prepare_0 : decode cX1_prepare 0 = .ok (.aload_n 0, 1) := by decide +kernel
theorem dX1_prepare_1 : decode cX1_prepare 1 = .ok (.iload_n 1, 1) := by decide +kernel
theorem dX1_prepare_2 : decode cX1_prepare 2 = .ok (.bipush 24, 2) := by decide +kernel
theorem dX1_prepare_4 : decode cX1_prepare 4 = .ok (.invokestatic 45, 3) := by decide +kernel
theorem dX1_prepare_7 : decode cX1_prepare 7 = .ok (.putfield 32, 3) := by decide +kernel
theorem dX1_prepare_10 : decode cX1_prepare 10 = .ok (.aload_n 0, 1) := by decide +kernel
theorem dX1_prepare_11 : decode cX1_prepare 11 = .ok (.iconst 0, 1) := by decide +kernel
theorem dX1_prepare_12 : decode cX1_prepare 12 = .ok (.putfield 36, 3) := by decide +kernel
theorem dX1_prepare_15 : decode cX1_prepare 15 = .ok (.aload_n 0, 1) := by decide +kernel
theorem dX1_prepare_16 : decode cX1_prepare 16 = .ok (.iconst 0, 1) := by decide +kernel
theorem dX1_prepare_17 : decode cX1_prepare 17 = .ok (.putfield 39, 3) := by decide +kernel
theorem dX1_prepare_20 : decode cX1_prepare 20 = .ok (.aload_n 0, 1) := by decide +kernel
theorem dX1_prepare_21 : decode cX1_prepare 21 = .ok (.iconst 0, 1) := by decide +kernel
theorem dX1_prepare_22 : decode cX1_prepare 22 = .ok (.putfield 42, 3) := by decide +kernel
theorem dX1_prepare_25 : decode cX1_prepare 25 = .ok (.aload_n 0, 1) := by decide +kernel
theorem dX1_prepare_26 : decode cX1_prepare 26 = .ok (.getfield 26, 3) := by decide +kernel
theorem dX1_prepare_29 : decode cX1_prepare 29 = .ok (.iconst 0, 1) := by decide +kernel
theorem dX1_prepare_30 : decode cX1_prepare 30 = .ok (.invokestatic 51, 3) := by decide +kernel
theorem dX1_prepare_33 : decode cX1_prepare 33 = .ok (.aload_n 0, 1) := by decide +kernel
theorem dX1_prepare_34 : decode cX1_prepare 34 = .ok (.getfield 29, 3) := by decide +kernel
theorem dX1_prepare_37 : decode cX1_prepare 37 = .ok (.iconst 0, 1) := by decide +kernel
theorem dX1_prepare_38 : decode cX1_prepare 38 = .ok (.invokestatic 51, 3) := by decide +kernel
theorem dX1_prepare_41 : decode cX1_prepare 41 = .ok (.iconst 0, 1) := by decide +kernel
theorem dX1_prepare_42 : decode cX1_prepare 42 = .ok (.istore_n 2, 1) := by decide +kernel
theorem dX1_prepare_43 : decode cX1_prepare 43 = .ok (.iload_n 2, 1) := by decide +kernel
theorem dX1_prepare_44 : decode cX1_prepare 44 = .ok (.bipush 6, 2) := by decide +kernel
theorem dX1_prepare_46 : decode cX1_prepare 46 = .ok (.if_icmp .ge 30, 3) := by decide +kernel
theorem dX1_prepare_49 : decode cX1_prepare 49 = .ok (.aload_n 0, 1) := by decide +kernel
theorem dX1_prepare_50 : decode cX1_prepare 50 = .ok (.getfield 9, 3) := by decide +kernel
theorem dX1_prepare_53 : decode cX1_prepare 53 = .ok (.iload_n 2, 1) := by decide +kernel
theorem dX1_prepare_54 : decode cX1_prepare 54 = .ok (.iconst 0, 1) := by decide +kernel
theorem dX1_prepare_55 : decode cX1_prepare 55 = .ok (.bastore, 1) := by decide +kernel
theorem dX1_prepare_56 : decode cX1_prepare 56 = .ok (.aload_n 0, 1) := by decide +kernel
theorem dX1_prepare_57 : decode cX1_prepare 57 = .ok (.getfield 19, 3) := by decide +kernel
theorem dX1_prepare_60 : decode cX1_prepare 60 = .ok (.iload_n 2, 1) := by decide +kernel
theorem dX1_prepare_61 : decode cX1_prepare 61 = .ok (.iconst (-1), 1) := by decide +kernel
theorem dX1_prepare_62 : decode cX1_prepare 62 = .ok (.iastore, 1) := by decide +kernel
theorem dX1_prepare_63 : decode cX1_prepare 63 = .ok (.aload_n 0, 1) := by decide +kernel
theorem dX1_prepare_64 : decode cX1_prepare 64 = .ok (.getfield 23, 3) := by decide +kernel
theorem dX1_prepare_67 : decode cX1_prepare 67 = .ok (.iload_n 2, 1) := by decide +kernel
theorem dX1_prepare_68 : decode cX1_prepare 68 = .ok (.iconst 0, 1) := by decide +kernel
theorem dX1_prepare_69 : decode cX1_prepare 69 = .ok (.iastore, 1) := by decide +kernel
theorem dX1_prepare_70 : decode cX1_prepare 70 = .ok (.iinc 2 1, 3) := by decide +kernel
theorem dX1_prepare_73 : decode cX1_prepare 73 = .ok (.goto (-30), 3) := by decide +kernel
theorem dX1_prepare_76 : decode cX1_prepare 76 = .ok (.return_, 1) := by decide +kernel
theorem dX1_invite_0 : decode cX1_invite 0 = .ok (.iload_n 1, 1) := by decide +kernel
theorem dX1_invite_1 : decode cX1_invite 1 = .ok (.ifCond .lt 42, 3) := by decide +kernel
theorem dX1_invite_4 : decode cX1_invite 4 = .ok (.iload_n 1, 1) := by decide +kernel
theorem dX1_invite_5 : decode cX1_invite 5 = .ok (.bipush 6, 2) := by decide +kernel
theorem dX1_invite_7 : decode cX1_invite 7 = .ok (.if_icmp .ge 36, 3) := by decide +kernel
theorem dX1_invite_10 : decode cX1_invite 10 = .ok (.aload_n 0, 1) := by decide +kernel
theorem dX1_invite_11 : decode cX1_invite 11 = .ok (.getfield 9, 3) := by decide +kernel
theorem dX1_invite_14 : decode cX1_invite 14 = .ok (.iload_n 1, 1) := by decide +kernel
theorem dX1_invite_15 : decode cX1_invite 15 = .ok (.baload, 1) := by decide +kernel
theorem dX1_invite_16 : decode cX1_invite 16 = .ok (.ifCond .ne 27, 3) := by decide +kernel
theorem dX1_invite_19 : decode cX1_invite 19 = .ok (.aload_n 0, 1) := by decide +kernel
theorem dX1_invite_20 : decode cX1_invite 20 = .ok (.getfield 9, 3) := by decide +kernel
theorem dX1_invite_23 : decode cX1_invite 23 = .ok (.iload_n 1, 1) := by decide +kernel
theorem dX1_invite_24 : decode cX1_invite 24 = .ok (.iconst 1, 1) := by decide +kernel
theorem dX1_invite_25 : decode cX1_invite 25 = .ok (.bastore, 1) := by decide +kernel
theorem dX1_invite_26 : decode cX1_invite 26 = .ok (.aload_n 0, 1) := by decide +kernel
theorem dX1_invite_27 : decode cX1_invite 27 = .ok (.getfield 15, 3) := by decide +kernel
theorem dX1_invite_30 : decode cX1_invite 30 = .ok (.iload_n 1, 1) := by decide +kernel
theorem dX1_invite_31 : decode cX1_invite 31 = .ok (.lload_n 2, 1) := by decide +kernel
theorem dX1_invite_32 : decode cX1_invite 32 = .ok (.lastore, 1) := by decide +kernel
theorem dX1_invite_33 : decode cX1_invite 33 = .ok (.aload_n 0, 1) := by decide +kernel
theorem dX1_invite_34 : decode cX1_invite 34 = .ok (.dup, 1) := by decide +kernel
theorem dX1_invite_35 : decode cX1_invite 35 = .ok (.getfield 36, 3) := by decide +kernel
theorem dX1_invite_38 : decode cX1_invite 38 = .ok (.iconst 1, 1) := by decide +kernel
theorem dX1_invite_39 : decode cX1_invite 39 = .ok (.iadd, 1) := by decide +kernel
theorem dX1_invite_40 : decode cX1_invite 40 = .ok (.putfield 36, 3) := by decide +kernel
theorem dX1_invite_43 : decode cX1_invite 43 = .ok (.return_, 1) := by decide +kernel
theorem dX1_run_0 : decode cX1_run 0 = .ok (.iconst 0, 1) := by decide +kernel
theorem dX1_run_1 : decode cX1_run 1 = .ok (.istore_n 2, 1) := by decide +kernel
theorem dX1_run_2 : decode cX1_run 2 = .ok (.iload_n 2, 1) := by decide +kernel
theorem dX1_run_3 : decode cX1_run 3 = .ok (.sipush 1000, 3) := by decide +kernel
theorem dX1_run_6 : decode cX1_run 6 = .ok (.if_icmp .ge 66, 3) := by decide +kernel
theorem dX1_run_9 : decode cX1_run 9 = .ok (.aload_n 0, 1) := by decide +kernel
theorem dX1_run_10 : decode cX1_run 10 = .ok (.getfield 36, 3) := by decide +kernel
theorem dX1_run_13 : decode cX1_run 13 = .ok (.ifCond .le 59, 3) := by decide +kernel
theorem dX1_run_16 : decode cX1_run 16 = .ok (.aload_n 0, 1) := by decide +kernel
theorem dX1_run_17 : decode cX1_run 17 = .ok (.iload_n 1, 1) := by decide +kernel
theorem dX1_run_18 : decode cX1_run 18 = .ok (.invokevirtual 57, 3) := by decide +kernel
theorem dX1_run_21 : decode cX1_run 21 = .ok (.aload_n 0, 1) := by decide +kernel
theorem dX1_run_22 : decode cX1_run 22 = .ok (.dup, 1) := by decide +kernel
theorem dX1_run_23 : decode cX1_run 23 = .ok (.getfield 39, 3) := by decide +kernel
theorem dX1_run_26 : decode cX1_run 26 = .ok (.iconst 1, 1) := by decide +kernel
theorem dX1_run_27 : decode cX1_run 27 = .ok (.iadd, 1) := by decide +kernel
theorem dX1_run_28 : decode cX1_run 28 = .ok (.putfield 39, 3) := by decide +kernel
theorem dX1_run_31 : decode cX1_run 31 = .ok (.iconst 0, 1) := by decide +kernel
theorem dX1_run_32 : decode cX1_run 32 = .ok (.istore_n 3, 1) := by decide +kernel
theorem dX1_run_33 : decode cX1_run 33 = .ok (.iload_n 3, 1) := by decide +kernel
theorem dX1_run_34 : decode cX1_run 34 = .ok (.aload_n 0, 1) := by decide +kernel
theorem dX1_run_35 : decode cX1_run 35 = .ok (.getfield 32, 3) := by decide +kernel
theorem dX1_run_38 : decode cX1_run 38 = .ok (.iconst 1, 1) := by decide +kernel
theorem dX1_run_39 : decode cX1_run 39 = .ok (.isub, 1) := by decide +kernel
theorem dX1_run_40 : decode cX1_run 40 = .ok (.if_icmp .ge 26, 3) := by decide +kernel
theorem dX1_run_43 : decode cX1_run 43 = .ok (.aload_n 0, 1) := by decide +kernel
theorem dX1_run_44 : decode cX1_run 44 = .ok (.aload_n 0, 1) := by decide +kernel
theorem dX1_run_45 : decode cX1_run 45 = .ok (.getfield 42, 3) := by decide +kernel
theorem dX1_run_48 : decode cX1_run 48 = .ok (.aload_n 0, 1) := by decide +kernel
theorem dX1_run_49 : decode cX1_run 49 = .ok (.getfield 26, 3) := by decide +kernel
theorem dX1_run_52 : decode cX1_run 52 = .ok (.iload_n 3, 1) := by decide +kernel
theorem dX1_run_53 : decode cX1_run 53 = .ok (.iaload, 1) := by decide +kernel
theorem dX1_run_54 : decode cX1_run 54 = .ok (.invokestatic 61, 3) := by decide +kernel
theorem dX1_run_57 : decode cX1_run 57 = .ok (.putfield 42, 3) := by decide +kernel
theorem dX1_run_60 : decode cX1_run 60 = .ok (.iinc 3 1, 3) := by decide +kernel
theorem dX1_run_63 : decode cX1_run 63 = .ok (.goto (-30), 3) := by decide +kernel
theorem dX1_run_66 : decode cX1_run 66 = .ok (.iinc 2 1, 3) := by decide +kernel
theorem dX1_run_69 : decode cX1_run 69 = .ok (.goto (-67), 3) := by decide +kernel
theorem dX1_run_72 : decode cX1_run 72 = .ok (.return_, 1) := by decide +kernel
theorem dX1_passMinute_0 : decode cX1_passMinute 0 = .ok (.aload_n 0, 1) := by decide +kernel
theorem dX1_passMinute_1 : decode cX1_passMinute 1 = .ok (.getfield 32, 3) := by decide +kernel
theorem dX1_passMinute_4 : decode cX1_passMinute 4 = .ok (.iconst 2, 1) := by decide +kernel
theorem dX1_passMinute_5 : decode cX1_passMinute 5 = .ok (.isub, 1) := by decide +kernel
theorem dX1_passMinute_6 : decode cX1_passMinute 6 = .ok (.istore_n 2, 1) := by decide +kernel
theorem dX1_passMinute_7 : decode cX1_passMinute 7 = .ok (.iload_n 2, 1) := by decide +kernel
theorem dX1_passMinute_8 : decode cX1_passMinute 8 = .ok (.iconst (-1), 1) := by decide +kernel
theorem dX1_passMinute_9 : decode cX1_passMinute 9 = .ok (.if_icmp .lt 48, 3) := by decide +kernel
theorem dX1_passMinute_12 : decode cX1_passMinute 12 = .ok (.iconst 0, 1) := by decide +kernel
theorem dX1_passMinute_13 : decode cX1_passMinute 13 = .ok (.istore_n 3, 1) := by decide +kernel
theorem dX1_passMinute_14 : decode cX1_passMinute 14 = .ok (.iload_n 3, 1) := by decide +kernel
theorem dX1_passMinute_15 : decode cX1_passMinute 15 = .ok (.bipush 6, 2) := by decide +kernel
theorem dX1_passMinute_17 : decode cX1_passMinute 17 = .ok (.if_icmp .ge 34, 3) := by decide +kernel
theorem dX1_passMinute_20 : decode cX1_passMinute 20 = .ok (.aload_n 0, 1) := by decide +kernel
theorem dX1_passMinute_21 : decode cX1_passMinute 21 = .ok (.getfield 9, 3) := by decide +kernel
theorem dX1_passMinute_24 : decode cX1_passMinute 24 = .ok (.iload_n 3, 1) := by decide +kernel
theorem dX1_passMinute_25 : decode cX1_passMinute 25 = .ok (.baload, 1) := by decide +kernel
theorem dX1_passMinute_26 : decode cX1_passMinute 26 = .ok (.ifCond .eq 19, 3) := by decide +kernel
theorem dX1_passMinute_29 : decode cX1_passMinute 29 = .ok (.aload_n 0, 1) := by decide +kernel
theorem dX1_passMinute_30 : decode cX1_passMinute 30 = .ok (.getfield 19, 3) := by decide +kernel
theorem dX1_passMinute_33 : decode cX1_passMinute 33 = .ok (.iload_n 3, 1) := by decide +kernel
theorem dX1_passMinute_34 : decode cX1_passMinute 34 = .ok (.iaload, 1) := by decide +kernel
theorem dX1_passMinute_35 : decode cX1_passMinute 35 = .ok (.iload_n 2, 1) := by decide +kernel
theorem dX1_passMinute_36 : decode cX1_passMinute 36 = .ok (.if_icmp .ne 9, 3) := by decide +kernel
theorem dX1_passMinute_39 : decode cX1_passMinute 39 = .ok (.aload_n 0, 1) := by decide +kernel
theorem dX1_passMinute_40 : decode cX1_passMinute 40 = .ok (.iload_n 3, 1) := by decide +kernel
theorem dX1_passMinute_41 : decode cX1_passMinute 41 = .ok (.iload_n 1, 1) := by decide +kernel
theorem dX1_passMinute_42 : decode cX1_passMinute 42 = .ok (.invokevirtual 64, 3) := by decide +kernel
theorem dX1_passMinute_45 : decode cX1_passMinute 45 = .ok (.iinc 3 1, 3) := by decide +kernel
theorem dX1_passMinute_48 : decode cX1_passMinute 48 = .ok (.goto (-34), 3) := by decide +kernel
theorem dX1_passMinute_51 : decode cX1_passMinute 51 = .ok (.iinc 2 (-1), 3) := by decide +kernel
theorem dX1_passMinute_54 : decode cX1_passMinute 54 = .ok (.goto (-47), 3) := by decide +kernel
theorem dX1_passMinute_57 : decode cX1_passMinute 57 = .ok (.return_, 1) := by decide +kernel
abbrev mX1_goOn_0_e0 : ByteArray := .mk #[0x2a, 0xb4, 0x00, 0x13, 0x1b, 0x2e, 0x04, 0x60, 0x3e, 0x1d, 0x2a, 0xb4, 0x00, 0x20, 0x04, 0x64, 0xa2, 0x00, 0x16, 0x2a, 0xb4, 0x00, 0x0f, 0x1b, 0x2f, 0x1d, 0xb8, 0x00, 0x44, 0x9a, 0x00, 0x09, 0x84, 0x03, 0x01, 0xa7, 0xff, 0xe6, 0x1d, 0x9b, 0x00, 0x0b, 0x1d, 0x2a, 0xb4, 0x00, 0x20, 0xa1, 0x00, 0x04, 0xb1, 0x1d, 0x2a, 0xb4, 0x00, 0x20, 0x04, 0x64, 0xa2, 0x00, 0x22, 0x2a, 0xb4, 0x00, 0x1a, 0x1d, 0x2e, 0x1c, 0xa1, 0x00, 0x18, 0x2a]
theorem kmX1_goOn_0_e0 : CK cX1_goOn 0 mX1_goOn_0_e0 := ck_of (by decide +kernel)
theorem dX1_goOn_0 : decode cX1_goOn 0 = .ok (.aload_n 0, 1) := rd_chunk (k := 0) (i := 0) kmX1_goOn_0_e0 (by decide +kernel)
theorem dX1_goOn_1 : decode cX1_goOn 1 = .ok (.getfield 19, 3) := rd_chunk (k := 0) (i := 1) kmX1_goOn_0_e0 (by decide +kernel)
theorem dX1_goOn_4 : decode cX1_goOn 4 = .ok (.iload_n 1, 1) := rd_chunk (k := 0) (i := 4) kmX1_goOn_0_e0 (by decide +kernel)
theorem dX1_goOn_5 : decode cX1_goOn 5 = .ok (.iaload, 1) := rd_chunk (k := 0) (i := 5) kmX1_goOn_0_e0 (by decide +kernel)
theorem dX1_goOn_6 : decode cX1_goOn 6 = .ok (.iconst 1, 1) := rd_chunk (k := 0) (i := 6) kmX1_goOn_0_e0 (by decide +kernel)
theorem dX1_goOn_7 : decode cX1_goOn 7 = .ok (.iadd, 1) := rd_chunk (k := 0) (i := 7) kmX1_goOn_0_e0 (by decide +kernel)
theorem dX1_goOn_8 : decode cX1_goOn 8 = .ok (.istore_n 3, 1) := rd_chunk (k := 0) (i := 8) kmX1_goOn_0_e0 (by decide +kernel)
theorem dX1_goOn_9 : decode cX1_goOn 9 = .ok (.iload_n 3, 1) := rd_chunk (k := 0) (i := 9) kmX1_goOn_0_e0 (by decide +kernel)
theorem dX1_goOn_10 : decode cX1_goOn 10 = .ok (.aload_n 0, 1) := rd_chunk (k := 0) (i := 10) kmX1_goOn_0_e0 (by decide +kernel)
theorem dX1_goOn_11 : decode cX1_goOn 11 = .ok (.getfield 32, 3) := rd_chunk (k := 0) (i := 11) kmX1_goOn_0_e0 (by decide +kernel)
theorem dX1_goOn_14 : decode cX1_goOn 14 = .ok (.iconst 1, 1) := rd_chunk (k := 0) (i := 14) kmX1_goOn_0_e0 (by decide +kernel)
theorem dX1_goOn_15 : decode cX1_goOn 15 = .ok (.isub, 1) := rd_chunk (k := 0) (i := 15) kmX1_goOn_0_e0 (by decide +kernel)
theorem dX1_goOn_16 : decode cX1_goOn 16 = .ok (.if_icmp .ge 22, 3) := rd_chunk (k := 0) (i := 16) kmX1_goOn_0_e0 (by decide +kernel)
theorem dX1_goOn_19 : decode cX1_goOn 19 = .ok (.aload_n 0, 1) := rd_chunk (k := 0) (i := 19) kmX1_goOn_0_e0 (by decide +kernel)
theorem dX1_goOn_20 : decode cX1_goOn 20 = .ok (.getfield 15, 3) := rd_chunk (k := 0) (i := 20) kmX1_goOn_0_e0 (by decide +kernel)
theorem dX1_goOn_23 : decode cX1_goOn 23 = .ok (.iload_n 1, 1) := rd_chunk (k := 0) (i := 23) kmX1_goOn_0_e0 (by decide +kernel)
theorem dX1_goOn_24 : decode cX1_goOn 24 = .ok (.laload, 1) := rd_chunk (k := 0) (i := 24) kmX1_goOn_0_e0 (by decide +kernel)
theorem dX1_goOn_25 : decode cX1_goOn 25 = .ok (.iload_n 3, 1) := rd_chunk (k := 0) (i := 25) kmX1_goOn_0_e0 (by decide +kernel)
theorem dX1_goOn_26 : decode cX1_goOn 26 = .ok (.invokestatic 68, 3) := rd_chunk (k := 0) (i := 26) kmX1_goOn_0_e0 (by decide +kernel)
theorem dX1_goOn_29 : decode cX1_goOn 29 = .ok (.ifCond .ne 9, 3) := rd_chunk (k := 0) (i := 29) kmX1_goOn_0_e0 (by decide +kernel)
theorem dX1_goOn_32 : decode cX1_goOn 32 = .ok (.iinc 3 1, 3) := rd_chunk (k := 0) (i := 32) kmX1_goOn_0_e0 (by decide +kernel)
theorem dX1_goOn_35 : decode cX1_goOn 35 = .ok (.goto (-26), 3) := rd_chunk (k := 0) (i := 35) kmX1_goOn_0_e0 (by decide +kernel)
theorem dX1_goOn_38 : decode cX1_goOn 38 = .ok (.iload_n 3, 1) := rd_chunk (k := 0) (i := 38) kmX1_goOn_0_e0 (by decide +kernel)
theorem dX1_goOn_39 : decode cX1_goOn 39 = .ok (.ifCond .lt 11, 3) := rd_chunk (k := 0) (i := 39) kmX1_goOn_0_e0 (by decide +kernel)
theorem dX1_goOn_42 : decode cX1_goOn 42 = .ok (.iload_n 3, 1) := rd_chunk (k := 0) (i := 42) kmX1_goOn_0_e0 (by decide +kernel)
theorem dX1_goOn_43 : decode cX1_goOn 43 = .ok (.aload_n 0, 1) := rd_chunk (k := 0) (i := 43) kmX1_goOn_0_e0 (by decide +kernel)
theorem dX1_goOn_44 : decode cX1_goOn 44 = .ok (.getfield 32, 3) := rd_chunk (k := 0) (i := 44) kmX1_goOn_0_e0 (by decide +kernel)
theorem dX1_goOn_47 : decode cX1_goOn 47 = .ok (.if_icmp .lt 4, 3) := rd_chunk (k := 0) (i := 47) kmX1_goOn_0_e0 (by decide +kernel)
theorem dX1_goOn_50 : decode cX1_goOn 50 = .ok (.return_, 1) := rd_chunk (k := 0) (i := 50) kmX1_goOn_0_e0 (by decide +kernel)
theorem dX1_goOn_51 : decode cX1_goOn 51 = .ok (.iload_n 3, 1) := rd_chunk (k := 0) (i := 51) kmX1_goOn_0_e0 (by decide +kernel)
theorem dX1_goOn_52 : decode cX1_goOn 52 = .ok (.aload_n 0, 1) := rd_chunk (k := 0) (i := 52) kmX1_goOn_0_e0 (by decide +kernel)
theorem dX1_goOn_53 : decode cX1_goOn 53 = .ok (.getfield 32, 3) := rd_chunk (k := 0) (i := 53) kmX1_goOn_0_e0 (by decide +kernel)
theorem dX1_goOn_56 : decode cX1_goOn 56 = .ok (.iconst 1, 1) := rd_chunk (k := 0) (i := 56) kmX1_goOn_0_e0 (by decide +kernel)
theorem dX1_goOn_57 : decode cX1_goOn 57 = .ok (.isub, 1) := rd_chunk (k := 0) (i := 57) kmX1_goOn_0_e0 (by decide +kernel)
theorem dX1_goOn_58 : decode cX1_goOn 58 = .ok (.if_icmp .ge 34, 3) := rd_chunk (k := 0) (i := 58) kmX1_goOn_0_e0 (by decide +kernel)
theorem dX1_goOn_61 : decode cX1_goOn 61 = .ok (.aload_n 0, 1) := rd_chunk (k := 0) (i := 61) kmX1_goOn_0_e0 (by decide +kernel)
theorem dX1_goOn_62 : decode cX1_goOn 62 = .ok (.getfield 26, 3) := rd_chunk (k := 0) (i := 62) kmX1_goOn_0_e0 (by decide +kernel)
abbrev mX1_goOn_64_e0 : ByteArray := .mk #[0x1a, 0x1d, 0x2e, 0x1c, 0xa1, 0x00, 0x18, 0x2a, 0xb4, 0x00, 0x17, 0x1b, 0x5c, 0x2e, 0x04, 0x60, 0x4f, 0x2a, 0xb4, 0x00, 0x1d, 0x1d, 0x5c, 0x2e, 0x04, 0x60, 0x4f, 0xb1, 0x2a, 0xb4, 0x00, 0x13, 0x1b, 0x2e, 0x9b, 0x00, 0x12, 0x2a, 0xb4, 0x00, 0x1a, 0x2a, 0xb4, 0x00, 0x13, 0x1b, 0x2e, 0x5c, 0x2e, 0x04, 0x64, 0x4f, 0x2a, 0xb4, 0x00, 0x1a, 0x1d, 0x5c, 0x2e, 0x04, 0x60, 0x4f, 0x2a, 0xb4, 0x00, 0x13, 0x1b, 0x1d, 0x4f, 0x2a, 0x59, 0xb4]
theorem kmX1_goOn_64_e0 : CK cX1_goOn 64 mX1_goOn_64_e0 := ck_of (by decide +kernel)
theorem dX1_goOn_65 : decode cX1_goOn 65 = .ok (.iload_n 3, 1) := rd_chunk (k := 64) (i := 1) kmX1_goOn_64_e0 (by decide +kernel)
theorem dX1_goOn_66 : decode cX1_goOn 66 = .ok (.iaload, 1) := rd_chunk (k := 64) (i := 2) kmX1_goOn_64_e0 (by decide +kernel)
theorem dX1_goOn_67 : decode cX1_goOn 67 = .ok (.iload_n 2, 1) := rd_chunk (k := 64) (i := 3) kmX1_goOn_64_e0 (by decide +kernel)
theorem dX1_goOn_68 : decode cX1_goOn 68 = .ok (.if_icmp .lt 24, 3) := rd_chunk (k := 64) (i := 4) kmX1_goOn_64_e0 (by decide +kernel)
theorem dX1_goOn_71 : decode cX1_goOn 71 = .ok (.aload_n 0, 1) := rd_chunk (k := 64) (i := 7) kmX1_goOn_64_e0 (by decide +kernel)
theorem dX1_goOn_72 : decode cX1_goOn 72 = .ok (.getfield 23, 3) := rd_chunk (k := 64) (i := 8) kmX1_goOn_64_e0 (by decide +kernel)
theorem dX1_goOn_75 : decode cX1_goOn 75 = .ok (.iload_n 1, 1) := rd_chunk (k := 64) (i := 11) kmX1_goOn_64_e0 (by decide +kernel)
theorem dX1_goOn_76 : decode cX1_goOn 76 = .ok (.dup2, 1) := rd_chunk (k := 64) (i := 12) kmX1_goOn_64_e0 (by decide +kernel)
theorem dX1_goOn_77 : decode cX1_goOn 77 = .ok (.iaload, 1) := rd_chunk (k := 64) (i := 13) kmX1_goOn_64_e0 (by decide +kernel)
theorem dX1_goOn_78 : decode cX1_goOn 78 = .ok (.iconst 1, 1) := rd_chunk (k := 64) (i := 14) kmX1_goOn_64_e0 (by decide +kernel)
theorem dX1_goOn_79 : decode cX1_goOn 79 = .ok (.iadd, 1) := rd_chunk (k := 64) (i := 15) kmX1_goOn_64_e0 (by decide +kernel)
theorem dX1_goOn_80 : decode cX1_goOn 80 = .ok (.iastore, 1) := rd_chunk (k := 64) (i := 16) kmX1_goOn_64_e0 (by decide +kernel)
theorem dX1_goOn_81 : decode cX1_goOn 81 = .ok (.aload_n 0, 1) := rd_chunk (k := 64) (i := 17) kmX1_goOn_64_e0 (by decide +kernel)
theorem dX1_goOn_82 : decode cX1_goOn 82 = .ok (.getfield 29, 3) := rd_chunk (k := 64) (i := 18) kmX1_goOn_64_e0 (by decide +kernel)
theorem dX1_goOn_85 : decode cX1_goOn 85 = .ok (.iload_n 3, 1) := rd_chunk (k := 64) (i := 21) kmX1_goOn_64_e0 (by decide +kernel)
theorem dX1_goOn_86 : decode cX1_goOn 86 = .ok (.dup2, 1) := rd_chunk (k := 64) (i := 22) kmX1_goOn_64_e0 (by decide +kernel)
theorem dX1_goOn_87 : decode cX1_goOn 87 = .ok (.iaload, 1) := rd_chunk (k := 64) (i := 23) kmX1_goOn_64_e0 (by decide +kernel)
theorem dX1_goOn_88 : decode cX1_goOn 88 = .ok (.iconst 1, 1) := rd_chunk (k := 64) (i := 24) kmX1_goOn_64_e0 (by decide +kernel)
theorem dX1_goOn_89 : decode cX1_goOn 89 = .ok (.iadd, 1) := rd_chunk (k := 64) (i := 25) kmX1_goOn_64_e0 (by decide +kernel)
theorem dX1_goOn_90 : decode cX1_goOn 90 = .ok (.iastore, 1) := rd_chunk (k := 64) (i := 26) kmX1_goOn_64_e0 (by decide +kernel)
theorem dX1_goOn_91 : decode cX1_goOn 91 = .ok (.return_, 1) := rd_chunk (k := 64) (i := 27) kmX1_goOn_64_e0 (by decide +kernel)
theorem dX1_goOn_92 : decode cX1_goOn 92 = .ok (.aload_n 0, 1) := rd_chunk (k := 64) (i := 28) kmX1_goOn_64_e0 (by decide +kernel)
theorem dX1_goOn_93 : decode cX1_goOn 93 = .ok (.getfield 19, 3) := rd_chunk (k := 64) (i := 29) kmX1_goOn_64_e0 (by decide +kernel)
theorem dX1_goOn_96 : decode cX1_goOn 96 = .ok (.iload_n 1, 1) := rd_chunk (k := 64) (i := 32) kmX1_goOn_64_e0 (by decide +kernel)
theorem dX1_goOn_97 : decode cX1_goOn 97 = .ok (.iaload, 1) := rd_chunk (k := 64) (i := 33) kmX1_goOn_64_e0 (by decide +kernel)
theorem dX1_goOn_98 : decode cX1_goOn 98 = .ok (.ifCond .lt 18, 3) := rd_chunk (k := 64) (i := 34) kmX1_goOn_64_e0 (by decide +kernel)
theorem dX1_goOn_101 : decode cX1_goOn 101 = .ok (.aload_n 0, 1) := rd_chunk (k := 64) (i := 37) kmX1_goOn_64_e0 (by decide +kernel)
theorem dX1_goOn_102 : decode cX1_goOn 102 = .ok (.getfield 26, 3) := rd_chunk (k := 64) (i := 38) kmX1_goOn_64_e0 (by decide +kernel)
theorem dX1_goOn_105 : decode cX1_goOn 105 = .ok (.aload_n 0, 1) := rd_chunk (k := 64) (i := 41) kmX1_goOn_64_e0 (by decide +kernel)
theorem dX1_goOn_106 : decode cX1_goOn 106 = .ok (.getfield 19, 3) := rd_chunk (k := 64) (i := 42) kmX1_goOn_64_e0 (by decide +kernel)
theorem dX1_goOn_109 : decode cX1_goOn 109 = .ok (.iload_n 1, 1) := rd_chunk (k := 64) (i := 45) kmX1_goOn_64_e0 (by decide +kernel)
theorem dX1_goOn_110 : decode cX1_goOn 110 = .ok (.iaload, 1) := rd_chunk (k := 64) (i := 46) kmX1_goOn_64_e0 (by decide +kernel)
theorem dX1_goOn_111 : decode cX1_goOn 111 = .ok (.dup2, 1) := rd_chunk (k := 64) (i := 47) kmX1_goOn_64_e0 (by decide +kernel)
theorem dX1_goOn_112 : decode cX1_goOn 112 = .ok (.iaload, 1) := rd_chunk (k := 64) (i := 48) kmX1_goOn_64_e0 (by decide +kernel)
theorem dX1_goOn_113 : decode cX1_goOn 113 = .ok (.iconst 1, 1) := rd_chunk (k := 64) (i := 49) kmX1_goOn_64_e0 (by decide +kernel)
theorem dX1_goOn_114 : decode cX1_goOn 114 = .ok (.isub, 1) := rd_chunk (k := 64) (i := 50) kmX1_goOn_64_e0 (by decide +kernel)
theorem dX1_goOn_115 : decode cX1_goOn 115 = .ok (.iastore, 1) := rd_chunk (k := 64) (i := 51) kmX1_goOn_64_e0 (by decide +kernel)
theorem dX1_goOn_116 : decode cX1_goOn 116 = .ok (.aload_n 0, 1) := rd_chunk (k := 64) (i := 52) kmX1_goOn_64_e0 (by decide +kernel)
theorem dX1_goOn_117 : decode cX1_goOn 117 = .ok (.getfield 26, 3) := rd_chunk (k := 64) (i := 53) kmX1_goOn_64_e0 (by decide +kernel)
theorem dX1_goOn_120 : decode cX1_goOn 120 = .ok (.iload_n 3, 1) := rd_chunk (k := 64) (i := 56) kmX1_goOn_64_e0 (by decide +kernel)
theorem dX1_goOn_121 : decode cX1_goOn 121 = .ok (.dup2, 1) := rd_chunk (k := 64) (i := 57) kmX1_goOn_64_e0 (by decide +kernel)
theorem dX1_goOn_122 : decode cX1_goOn 122 = .ok (.iaload, 1) := rd_chunk (k := 64) (i := 58) kmX1_goOn_64_e0 (by decide +kernel)
theorem dX1_goOn_123 : decode cX1_goOn 123 = .ok (.iconst 1, 1) := rd_chunk (k := 64) (i := 59) kmX1_goOn_64_e0 (by decide +kernel)
theorem dX1_goOn_124 : decode cX1_goOn 124 = .ok (.iadd, 1) := rd_chunk (k := 64) (i := 60) kmX1_goOn_64_e0 (by decide +kernel)
theorem dX1_goOn_125 : decode cX1_goOn 125 = .ok (.iastore, 1) := rd_chunk (k := 64) (i := 61) kmX1_goOn_64_e0 (by decide +kernel)
theorem dX1_goOn_126 : decode cX1_goOn 126 = .ok (.aload_n 0, 1) := rd_chunk (k := 64) (i := 62) kmX1_goOn_64_e0 (by decide +kernel)
theorem dX1_goOn_127 : decode cX1_goOn 127 = .ok (.getfield 19, 3) := rd_chunk (k := 64) (i := 63) kmX1_goOn_64_e0 (by decide +kernel)
abbrev mX1_goOn_128_e0 : ByteArray := .mk #[0x00, 0x13, 0x1b, 0x1d, 0x4f, 0x2a, 0x59, 0xb4, 0x00, 0x24, 0x1d, 0x2a, 0xb4, 0x00, 0x20, 0x04, 0x64, 0xa0, 0x00, 0x07, 0x04, 0xa7, 0x00, 0x04, 0x03, 0x64, 0xb5, 0x00, 0x24, 0xb1]
theorem kmX1_goOn_128_e0 : CK cX1_goOn 128 mX1_goOn_128_e0 := ck_of (by decide +kernel)
theorem dX1_goOn_130 : decode cX1_goOn 130 = .ok (.iload_n 1, 1) := rd_chunk (k := 128) (i := 2) kmX1_goOn_128_e0 (by decide +kernel)
theorem dX1_goOn_131 : decode cX1_goOn 131 = .ok (.iload_n 3, 1) := rd_chunk (k := 128) (i := 3) kmX1_goOn_128_e0 (by decide +kernel)
theorem dX1_goOn_132 : decode cX1_goOn 132 = .ok (.iastore, 1) := rd_chunk (k := 128) (i := 4) kmX1_goOn_128_e0 (by decide +kernel)
theorem dX1_goOn_133 : decode cX1_goOn 133 = .ok (.aload_n 0, 1) := rd_chunk (k := 128) (i := 5) kmX1_goOn_128_e0 (by decide +kernel)
theorem dX1_goOn_134 : decode cX1_goOn 134 = .ok (.dup, 1) := rd_chunk (k := 128) (i := 6) kmX1_goOn_128_e0 (by decide +kernel)
theorem dX1_goOn_135 : decode cX1_goOn 135 = .ok (.getfield 36, 3) := rd_chunk (k := 128) (i := 7) kmX1_goOn_128_e0 (by decide +kernel)
theorem dX1_goOn_138 : decode cX1_goOn 138 = .ok (.iload_n 3, 1) := rd_chunk (k := 128) (i := 10) kmX1_goOn_128_e0 (by decide +kernel)
theorem dX1_goOn_139 : decode cX1_goOn 139 = .ok (.aload_n 0, 1) := rd_chunk (k := 128) (i := 11) kmX1_goOn_128_e0 (by decide +kernel)
theorem dX1_goOn_140 : decode cX1_goOn 140 = .ok (.getfield 32, 3) := rd_chunk (k := 128) (i := 12) kmX1_goOn_128_e0 (by decide +kernel)
theorem dX1_goOn_143 : decode cX1_goOn 143 = .ok (.iconst 1, 1) := rd_chunk (k := 128) (i := 15) kmX1_goOn_128_e0 (by decide +kernel)
theorem dX1_goOn_144 : decode cX1_goOn 144 = .ok (.isub, 1) := rd_chunk (k := 128) (i := 16) kmX1_goOn_128_e0 (by decide +kernel)
theorem dX1_goOn_145 : decode cX1_goOn 145 = .ok (.if_icmp .ne 7, 3) := rd_chunk (k := 128) (i := 17) kmX1_goOn_128_e0 (by decide +kernel)
theorem dX1_goOn_148 : decode cX1_goOn 148 = .ok (.iconst 1, 1) := rd_chunk (k := 128) (i := 20) kmX1_goOn_128_e0 (by decide +kernel)
theorem dX1_goOn_149 : decode cX1_goOn 149 = .ok (.goto 4, 3) := rd_chunk (k := 128) (i := 21) kmX1_goOn_128_e0 (by decide +kernel)
theorem dX1_goOn_152 : decode cX1_goOn 152 = .ok (.iconst 0, 1) := rd_chunk (k := 128) (i := 24) kmX1_goOn_128_e0 (by decide +kernel)
theorem dX1_goOn_153 : decode cX1_goOn 153 = .ok (.isub, 1) := rd_chunk (k := 128) (i := 25) kmX1_goOn_128_e0 (by decide +kernel)
theorem dX1_goOn_154 : decode cX1_goOn 154 = .ok (.putfield 36, 3) := rd_chunk (k := 128) (i := 26) kmX1_goOn_128_e0 (by decide +kernel)
theorem dX1_goOn_157 : decode cX1_goOn 157 = .ok (.return_, 1) := rd_chunk (k := 128) (i := 29) kmX1_goOn_128_e0 (by decide +kernel)
theorem dX1_longestWaiting_0 : decode cX1_longestWaiting 0 = .ok (.iconst (-1), 1) := by decide +kernel
theorem dX1_longestWaiting_1 : decode cX1_longestWaiting 1 = .ok (.istore_n 1, 1) := by decide +kernel
theorem dX1_longestWaiting_2 : decode cX1_longestWaiting 2 = .ok (.iconst 0, 1) := by decide +kernel
theorem dX1_longestWaiting_3 : decode cX1_longestWaiting 3 = .ok (.istore_n 2, 1) := by decide +kernel
theorem dX1_longestWaiting_4 : decode cX1_longestWaiting 4 = .ok (.iload_n 2, 1) := by decide +kernel
theorem dX1_longestWaiting_5 : decode cX1_longestWaiting 5 = .ok (.bipush 6, 2) := by decide +kernel
theorem dX1_longestWaiting_7 : decode cX1_longestWaiting 7 = .ok (.if_icmp .ge 35, 3) := by decide +kernel
theorem dX1_longestWaiting_10 : decode cX1_longestWaiting 10 = .ok (.aload_n 0, 1) := by decide +kernel
theorem dX1_longestWaiting_11 : decode cX1_longestWaiting 11 = .ok (.getfield 23, 3) := by decide +kernel
theorem dX1_longestWaiting_14 : decode cX1_longestWaiting 14 = .ok (.iload_n 2, 1) := by decide +kernel
theorem dX1_longestWaiting_15 : decode cX1_longestWaiting 15 = .ok (.iaload, 1) := by decide +kernel
theorem dX1_longestWaiting_16 : decode cX1_longestWaiting 16 = .ok (.iload_n 1, 1) := by decide +kernel
theorem dX1_longestWaiting_17 : decode cX1_longestWaiting 17 = .ok (.iconst (-1), 1) := by decide +kernel
theorem dX1_longestWaiting_18 : decode cX1_longestWaiting 18 = .ok (.if_icmp .ne 7, 3) := by decide +kernel
theorem dX1_longestWaiting_21 : decode cX1_longestWaiting 21 = .ok (.iconst 0, 1) := by decide +kernel
theorem dX1_longestWaiting_22 : decode cX1_longestWaiting 22 = .ok (.goto 9, 3) := by decide +kernel
theorem dX1_longestWaiting_25 : decode cX1_longestWaiting 25 = .ok (.aload_n 0, 1) := by decide +kernel
theorem dX1_longestWaiting_26 : decode cX1_longestWaiting 26 = .ok (.getfield 23, 3) := by decide +kernel
theorem dX1_longestWaiting_29 : decode cX1_longestWaiting 29 = .ok (.iload_n 1, 1) := by decide +kernel
theorem dX1_longestWaiting_30 : decode cX1_longestWaiting 30 = .ok (.iaload, 1) := by decide +kernel
theorem dX1_longestWaiting_31 : decode cX1_longestWaiting 31 = .ok (.if_icmp .le 5, 3) := by decide +kernel
theorem dX1_longestWaiting_34 : decode cX1_longestWaiting 34 = .ok (.iload_n 2, 1) := by decide +kernel
theorem dX1_longestWaiting_35 : decode cX1_longestWaiting 35 = .ok (.istore_n 1, 1) := by decide +kernel
theorem dX1_longestWaiting_36 : decode cX1_longestWaiting 36 = .ok (.iinc 2 1, 3) := by decide +kernel
theorem dX1_longestWaiting_39 : decode cX1_longestWaiting 39 = .ok (.goto (-35), 3) := by decide +kernel
theorem dX1_longestWaiting_42 : decode cX1_longestWaiting 42 = .ok (.iload_n 1, 1) := by decide +kernel
theorem dX1_longestWaiting_43 : decode cX1_longestWaiting 43 = .ok (.ireturn, 1) := by decide +kernel
theorem dX2_init_0 : decode cX2_init 0 = .ok (.aload_n 0, 1) := by decide +kernel
theorem dX2_init_1 : decode cX2_init 1 = .ok (.invokespecial 3, 3) := by decide +kernel
theorem dX2_init_4 : decode cX2_init 4 = .ok (.aload_n 0, 1) := by decide +kernel
theorem dX2_init_5 : decode cX2_init 5 = .ok (.bipush 24, 2) := by decide +kernel
theorem dX2_init_7 : decode cX2_init 7 = .ok (.newarray .int, 2) := by decide +kernel
theorem dX2_init_9 : decode cX2_init 9 = .ok (.putfield 9, 3) := by decide +kernel
theorem dX2_init_12 : decode cX2_init 12 = .ok (.aload_n 0, 1) := by decide +kernel
theorem dX2_init_13 : decode cX2_init 13 = .ok (.bipush 24, 2) := by decide +kernel
theorem dX2_init_15 : decode cX2_init 15 = .ok (.newarray .int, 2) := by decide +kernel
theorem dX2_init_17 : decode cX2_init 17 = .ok (.putfield 15, 3) := by decide +kernel
theorem dX2_init_20 : decode cX2_init 20 = .ok (.aload_n 0, 1) := by decide +kernel
theorem dX2_init_21 : decode cX2_init 21 = .ok (.sipush 192, 3) := by decide +kernel
theorem dX2_init_24 : decode cX2_init 24 = .ok (.newarray .int, 2) := by decide +kernel
theorem dX2_init_26 : decode cX2_init 26 = .ok (.putfield 18, 3) := by decide +kernel
theorem dX2_init_29 : decode cX2_init 29 = .ok (.aload_n 0, 1) := by decide +kernel
theorem dX2_init_30 : decode cX2_init 30 = .ok (.bipush 8, 2) := by decide +kernel
theorem dX2_init_32 : decode cX2_init 32 = .ok (.newarray .int, 2) := by decide +kernel
theorem dX2_init_34 : decode cX2_init 34 = .ok (.putfield 21, 3) := by decide +kernel
theorem dX2_init_37 : decode cX2_init 37 = .ok (.aload_n 0, 1) := by decide +kernel
theorem dX2_init_38 : decode cX2_init 38 = .ok (.bipush 6, 2) := by decide +kernel
theorem dX2_init_40 : decode cX2_init 40 = .ok (.newarray .int, 2) := by decide +kernel
theorem dX2_init_42 : decode cX2_init 42 = .ok (.putfield 24, 3) := by decide +kernel
theorem dX2_init_45 : decode cX2_init 45 = .ok (.aload_n 0, 1) := by decide +kernel
theorem dX2_init_46 : decode cX2_init 46 = .ok (.bipush 6, 2) := by decide +kernel
theorem dX2_init_48 : decode cX2_init 48 = .ok (.newarray .int, 2) := by decide +kernel
theorem dX2_init_50 : decode cX2_init 50 = .ok (.putfield 27, 3) := by decide +kernel
theorem dX2_init_53 : decode cX2_init 53 = .ok (.aload_n 0, 1) := by decide +kernel
theorem dX2_init_54 : decode cX2_init 54 = .ok (.bipush 6, 2) := by decide +kernel
theorem dX2_init_56 : decode cX2_init 56 = .ok (.newarray .int, 2) := by decide +kernel
theorem dX2_init_58 : decode cX2_init 58 = .ok (.putfield 30, 3) := by decide +kernel
theorem dX2_init_61 : decode cX2_init 61 = .ok (.aload_n 0, 1) := by decide +kernel
theorem dX2_init_62 : decode cX2_init 62 = .ok (.iconst 0, 1) := by decide +kernel
theorem dX2_init_63 : decode cX2_init 63 = .ok (.putfield 33, 3) := by decide +kernel
theorem dX2_init_66 : decode cX2_init 66 = .ok (.aload_n 0, 1) := by decide +kernel
theorem dX2_init_67 : decode cX2_init 67 = .ok (.iconst 0, 1) := by decide +kernel
theorem dX2_init_68 : decode cX2_init 68 = .ok (.putfield 37, 3) := by decide +kernel
theorem dX2_init_71 : decode cX2_init 71 = .ok (.return_, 1) := by decide +kernel
theorem dX2_putStairs_0 : decode cX2_putStairs 0 = .ok (.aload_n 1, 1) := by decide +kernel
theorem dX2_putStairs_1 : decode cX2_putStairs 1 = .ok (.getfield 41, 3) := by decide +kernel
theorem dX2_putStairs_4 : decode cX2_putStairs 4 = .ok (.iconst 0, 1) := by decide +kernel
theorem dX2_putStairs_5 : decode cX2_putStairs 5 = .ok (.aload_n 0, 1) := by decide +kernel
theorem dX2_putStairs_6 : decode cX2_putStairs 6 = .ok (.getfield 9, 3) := by decide +kernel
theorem dX2_putStairs_9 : decode cX2_putStairs 9 = .ok (.iconst 0, 1) := by decide +kernel
theorem dX2_putStairs_10 : decode cX2_putStairs 10 = .ok (.bipush 24, 2) := by decide +kernel
theorem dX2_putStairs_12 : decode cX2_putStairs 12 = .ok (.invokestatic 46, 3) := by decide +kernel
theorem dX2_putStairs_15 : decode cX2_putStairs 15 = .ok (.aload_n 1, 1) := by decide +kernel
theorem dX2_putStairs_16 : decode cX2_putStairs 16 = .ok (.getfield 52, 3) := by decide +kernel
theorem dX2_putStairs_19 : decode cX2_putStairs 19 = .ok (.iconst 0, 1) := by decide +kernel
theorem dX2_putStairs_20 : decode cX2_putStairs 20 = .ok (.aload_n 0, 1) := by decide +kernel
theorem dX2_putStairs_21 : decode cX2_putStairs 21 = .ok (.getfield 15, 3) := by decide +kernel
theorem dX2_putStairs_24 : decode cX2_putStairs 24 = .ok (.iconst 0, 1) := by decide +kernel
theorem dX2_putStairs_25 : decode cX2_putStairs 25 = .ok (.bipush 24, 2) := by decide +kernel
theorem dX2_putStairs_27 : decode cX2_putStairs 27 = .ok (.invokestatic 46, 3) := by decide +kernel
theorem dX2_putStairs_30 : decode cX2_putStairs 30 = .ok (.aload_n 1, 1) := by decide +kernel
theorem dX2_putStairs_31 : decode cX2_putStairs 31 = .ok (.getfield 55, 3) := by decide +kernel
theorem dX2_putStairs_34 : decode cX2_putStairs 34 = .ok (.getfield 59, 3) := by decide +kernel
theorem dX2_putStairs_37 : decode cX2_putStairs 37 = .ok (.iconst 0, 1) := by decide +kernel
theorem dX2_putStairs_38 : decode cX2_putStairs 38 = .ok (.aload_n 0, 1) := by decide +kernel
theorem dX2_putStairs_39 : decode cX2_putStairs 39 = .ok (.getfield 18, 3) := by decide +kernel
theorem dX2_putStairs_42 : decode cX2_putStairs 42 = .ok (.iconst 0, 1) := by decide +kernel
theorem dX2_putStairs_43 : decode cX2_putStairs 43 = .ok (.sipush 192, 3) := by decide +kernel
theorem dX2_putStairs_46 : decode cX2_putStairs 46 = .ok (.invokestatic 46, 3) := by decide +kernel
theorem dX2_putStairs_49 : decode cX2_putStairs 49 = .ok (.return_, 1) := by decide +kernel
theorem dX2_getStairs_0 : decode cX2_getStairs 0 = .ok (.aload_n 0, 1) := by decide +kernel
theorem dX2_getStairs_1 : decode cX2_getStairs 1 = .ok (.getfield 9, 3) := by decide +kernel
theorem dX2_getStairs_4 : decode cX2_getStairs 4 = .ok (.iconst 0, 1) := by decide +kernel
theorem dX2_getStairs_5 : decode cX2_getStairs 5 = .ok (.aload_n 1, 1) := by decide +kernel
theorem dX2_getStairs_6 : decode cX2_getStairs 6 = .ok (.getfield 41, 3) := by decide +kernel
theorem dX2_getStairs_9 : decode cX2_getStairs 9 = .ok (.iconst 0, 1) := by decide +kernel
theorem dX2_getStairs_10 : decode cX2_getStairs 10 = .ok (.bipush 24, 2) := by decide +kernel
theorem dX2_getStairs_12 : decode cX2_getStairs 12 = .ok (.invokestatic 46, 3) := by decide +kernel
theorem dX2_getStairs_15 : decode cX2_getStairs 15 = .ok (.aload_n 0, 1) := by decide +kernel
theorem dX2_getStairs_16 : decode cX2_getStairs 16 = .ok (.getfield 15, 3) := by decide +kernel
theorem dX2_getStairs_19 : decode cX2_getStairs 19 = .ok (.iconst 0, 1) := by decide +kernel
theorem dX2_getStairs_20 : decode cX2_getStairs 20 = .ok (.aload_n 1, 1) := by decide +kernel
theorem dX2_getStairs_21 : decode cX2_getStairs 21 = .ok (.getfield 52, 3) := by decide +kernel
theorem dX2_getStairs_24 : decode cX2_getStairs 24 = .ok (.iconst 0, 1) := by decide +kernel
theorem dX2_getStairs_25 : decode cX2_getStairs 25 = .ok (.bipush 24, 2) := by decide +kernel
theorem dX2_getStairs_27 : decode cX2_getStairs 27 = .ok (.invokestatic 46, 3) := by decide +kernel
theorem dX2_getStairs_30 : decode cX2_getStairs 30 = .ok (.aload_n 1, 1) := by decide +kernel
theorem dX2_getStairs_31 : decode cX2_getStairs 31 = .ok (.getfield 55, 3) := by decide +kernel
theorem dX2_getStairs_34 : decode cX2_getStairs 34 = .ok (.aload_n 0, 1) := by decide +kernel
theorem dX2_getStairs_35 : decode cX2_getStairs 35 = .ok (.getfield 18, 3) := by decide +kernel
theorem dX2_getStairs_38 : decode cX2_getStairs 38 = .ok (.invokevirtual 62, 3) := by decide +kernel
theorem dX2_getStairs_41 : decode cX2_getStairs 41 = .ok (.return_, 1) := by decide +kernel
theorem dX2_putPilgrim_0 : decode cX2_putPilgrim 0 = .ok (.iload_n 1, 1) := by decide +kernel
theorem dX2_putPilgrim_1 : decode cX2_putPilgrim 1 = .ok (.ifCond .lt 39, 3) := by decide +kernel
theorem dX2_putPilgrim_4 : decode cX2_putPilgrim 4 = .ok (.iload_n 1, 1) := by decide +kernel
theorem dX2_putPilgrim_5 : decode cX2_putPilgrim 5 = .ok (.bipush 6, 2) := by decide +kernel
theorem dX2_putPilgrim_7 : decode cX2_putPilgrim 7 = .ok (.if_icmp .ge 33, 3) := by decide +kernel
theorem dX2_putPilgrim_10 : decode cX2_putPilgrim 10 = .ok (.aload_n 0, 1) := by decide +kernel
theorem dX2_putPilgrim_11 : decode cX2_putPilgrim 11 = .ok (.getfield 24, 3) := by decide +kernel
theorem dX2_putPilgrim_14 : decode cX2_putPilgrim 14 = .ok (.iload_n 1, 1) := by decide +kernel
theorem dX2_putPilgrim_15 : decode cX2_putPilgrim 15 = .ok (.aload_n 2, 1) := by decide +kernel
theorem dX2_putPilgrim_16 : decode cX2_putPilgrim 16 = .ok (.getfield 66, 3) := by decide +kernel
theorem dX2_putPilgrim_19 : decode cX2_putPilgrim 19 = .ok (.iastore, 1) := by decide +kernel
theorem dX2_putPilgrim_20 : decode cX2_putPilgrim 20 = .ok (.aload_n 0, 1) := by decide +kernel
theorem dX2_putPilgrim_21 : decode cX2_putPilgrim 21 = .ok (.getfield 27, 3) := by decide +kernel
theorem dX2_putPilgrim_24 : decode cX2_putPilgrim 24 = .ok (.iload_n 1, 1) := by decide +kernel
theorem dX2_putPilgrim_25 : decode cX2_putPilgrim 25 = .ok (.aload_n 2, 1) := by decide +kernel
theorem dX2_putPilgrim_26 : decode cX2_putPilgrim 26 = .ok (.getfield 70, 3) := by decide +kernel
theorem dX2_putPilgrim_29 : decode cX2_putPilgrim 29 = .ok (.iastore, 1) := by decide +kernel
theorem dX2_putPilgrim_30 : decode cX2_putPilgrim 30 = .ok (.aload_n 0, 1) := by decide +kernel
theorem dX2_putPilgrim_31 : decode cX2_putPilgrim 31 = .ok (.getfield 30, 3) := by decide +kernel
theorem dX2_putPilgrim_34 : decode cX2_putPilgrim 34 = .ok (.iload_n 1, 1) := by decide +kernel
theorem dX2_putPilgrim_35 : decode cX2_putPilgrim 35 = .ok (.aload_n 2, 1) := by decide +kernel
theorem dX2_putPilgrim_36 : decode cX2_putPilgrim 36 = .ok (.getfield 72, 3) := by decide +kernel
theorem dX2_putPilgrim_39 : decode cX2_putPilgrim 39 = .ok (.iastore, 1) := by decide +kernel
theorem dX2_putPilgrim_40 : decode cX2_putPilgrim 40 = .ok (.return_, 1) := by decide +kernel
theorem dX2_getPilgrim_0 : decode cX2_getPilgrim 0 = .ok (.iload_n 1, 1) := by decide +kernel
theorem dX2_getPilgrim_1 : decode cX2_getPilgrim 1 = .ok (.ifCond .lt 39, 3) := by decide +kernel
theorem dX2_getPilgrim_4 : decode cX2_getPilgrim 4 = .ok (.iload_n 1, 1) := by decide +kernel
theorem dX2_getPilgrim_5 : decode cX2_getPilgrim 5 = .ok (.bipush 6, 2) := by decide +kernel
theorem dX2_getPilgrim_7 : decode cX2_getPilgrim 7 = .ok (.if_icmp .ge 33, 3) := by decide +kernel
theorem dX2_getPilgrim_10 : decode cX2_getPilgrim 10 = .ok (.aload_n 2, 1) := by decide +kernel
theorem dX2_getPilgrim_11 : decode cX2_getPilgrim 11 = .ok (.aload_n 0, 1) := by decide +kernel
theorem dX2_getPilgrim_12 : decode cX2_getPilgrim 12 = .ok (.getfield 24, 3) := by decide +kernel
theorem dX2_getPilgrim_15 : decode cX2_getPilgrim 15 = .ok (.iload_n 1, 1) := by decide +kernel
theorem dX2_getPilgrim_16 : decode cX2_getPilgrim 16 = .ok (.iaload, 1) := by decide +kernel
theorem dX2_getPilgrim_17 : decode cX2_getPilgrim 17 = .ok (.putfield 66, 3) := by decide +kernel
theorem dX2_getPilgrim_20 : decode cX2_getPilgrim 20 = .ok (.aload_n 2, 1) := by decide +kernel
theorem dX2_getPilgrim_21 : decode cX2_getPilgrim 21 = .ok (.aload_n 0, 1) := by decide +kernel
theorem dX2_getPilgrim_22 : decode cX2_getPilgrim 22 = .ok (.getfield 27, 3) := by decide +kernel
theorem dX2_getPilgrim_25 : decode cX2_getPilgrim 25 = .ok (.iload_n 1, 1) := by decide +kernel
theorem dX2_getPilgrim_26 : decode cX2_getPilgrim 26 = .ok (.iaload, 1) := by decide +kernel
theorem dX2_getPilgrim_27 : decode cX2_getPilgrim 27 = .ok (.putfield 70, 3) := by decide +kernel
theorem dX2_getPilgrim_30 : decode cX2_getPilgrim 30 = .ok (.aload_n 2, 1) := by decide +kernel
theorem dX2_getPilgrim_31 : decode cX2_getPilgrim 31 = .ok (.aload_n 0, 1) := by decide +kernel
theorem dX2_getPilgrim_32 : decode cX2_getPilgrim 32 = .ok (.getfield 30, 3) := by decide +kernel
theorem dX2_getPilgrim_35 : decode cX2_getPilgrim 35 = .ok (.iload_n 1, 1) := by decide +kernel
theorem dX2_getPilgrim_36 : decode cX2_getPilgrim 36 = .ok (.iaload, 1) := by decide +kernel
theorem dX2_getPilgrim_37 : decode cX2_getPilgrim 37 = .ok (.putfield 72, 3) := by decide +kernel
theorem dX2_getPilgrim_40 : decode cX2_getPilgrim 40 = .ok (.return_, 1) := by decide +kernel
theorem dX3_init_0 : decode cX3_init 0 = .ok (.aload_n 0, 1) := by decide +kernel
theorem dX3_init_1 : decode cX3_init 1 = .ok (.invokespecial 5, 3) := by decide +kernel
theorem dX3_init_4 : decode cX3_init 4 = .ok (.aload_n 0, 1) := by decide +kernel
theorem dX3_init_5 : decode cX3_init 5 = .ok (.bipush 40, 2) := by decide +kernel
theorem dX3_init_7 : decode cX3_init 7 = .ok (.newarray .int, 2) := by decide +kernel
theorem dX3_init_9 : decode cX3_init 9 = .ok (.putfield 11, 3) := by decide +kernel
theorem dX3_init_12 : decode cX3_init 12 = .ok (.aload_n 0, 1) := by decide +kernel
theorem dX3_init_13 : decode cX3_init 13 = .ok (.bipush 40, 2) := by decide +kernel
theorem dX3_init_15 : decode cX3_init 15 = .ok (.newarray .int, 2) := by decide +kernel
theorem dX3_init_17 : decode cX3_init 17 = .ok (.putfield 15, 3) := by decide +kernel
theorem dX3_init_20 : decode cX3_init 20 = .ok (.aload_n 0, 1) := by decide +kernel
theorem dX3_init_21 : decode cX3_init 21 = .ok (.bipush 41, 2) := by decide +kernel
theorem dX3_init_23 : decode cX3_init 23 = .ok (.newarray .int, 2) := by decide +kernel
theorem dX3_init_25 : decode cX3_init 25 = .ok (.putfield 18, 3) := by decide +kernel
theorem dX3_init_28 : decode cX3_init 28 = .ok (.aload_n 0, 1) := by decide +kernel
theorem dX3_init_29 : decode cX3_init 29 = .ok (.iconst 0, 1) := by decide +kernel
theorem dX3_init_30 : decode cX3_init 30 = .ok (.putfield 21, 3) := by decide +kernel
theorem dX3_init_33 : decode cX3_init 33 = .ok (.aload_n 0, 1) := by decide +kernel
theorem dX3_init_34 : decode cX3_init 34 = .ok (.iconst 0, 1) := by decide +kernel
theorem dX3_init_35 : decode cX3_init 35 = .ok (.putfield 25, 3) := by decide +kernel
theorem dX3_init_38 : decode cX3_init 38 = .ok (.aload_n 0, 1) := by decide +kernel
theorem dX3_init_39 : decode cX3_init 39 = .ok (.iconst 0, 1) := by decide +kernel
theorem dX3_init_40 : decode cX3_init 40 = .ok (.putfield 28, 3) := by decide +kernel
theorem dX3_init_43 : decode cX3_init 43 = .ok (.aload_n 0, 1) := by decide +kernel
theorem dX3_init_44 : decode cX3_init 44 = .ok (.iconst 0, 1) := by decide +kernel
theorem dX3_init_45 : decode cX3_init 45 = .ok (.putfield 31, 3) := by decide +kernel
theorem dX3_init_48 : decode cX3_init 48 = .ok (.aload_n 0, 1) := by decide +kernel
theorem dX3_init_49 : decode cX3_init 49 = .ok (.iconst 0, 1) := by decide +kernel
theorem dX3_init_50 : decode cX3_init 50 = .ok (.putfield 34, 3) := by decide +kernel
theorem dX3_init_53 : decode cX3_init 53 = .ok (.aload_n 0, 1) := by decide +kernel
theorem dX3_init_54 : decode cX3_init 54 = .ok (.iconst (-1), 1) := by decide +kernel
theorem dX3_init_55 : decode cX3_init 55 = .ok (.putfield 37, 3) := by decide +kernel
theorem dX3_init_58 : decode cX3_init 58 = .ok (.return_, 1) := by decide +kernel
theorem dX3_isTold_0 : decode cX3_isTold 0 = .ok (.aload_n 0, 1) := by decide +kernel
theorem dX3_isTold_1 : decode cX3_isTold 1 = .ok (.getfield 21, 3) := by decide +kernel
theorem dX3_isTold_4 : decode cX3_isTold 4 = .ok (.ifCond .le 7, 3) := by decide +kernel
theorem dX3_isTold_7 : decode cX3_isTold 7 = .ok (.iconst 1, 1) := by decide +kernel
theorem dX3_isTold_8 : decode cX3_isTold 8 = .ok (.goto 4, 3) := by decide +kernel
theorem dX3_isTold_11 : decode cX3_isTold 11 = .ok (.iconst 0, 1) := by decide +kernel
theorem dX3_isTold_12 : decode cX3_isTold 12 = .ok (.ireturn, 1) := by decide +kernel
theorem dX3_names_0 : decode cX3_names 0 = .ok (.aload_n 0, 1) := by decide +kernel
theorem dX3_names_1 : decode cX3_names 1 = .ok (.invokevirtual 40, 3) := by decide +kernel
theorem dX3_names_4 : decode cX3_names 4 = .ok (.ifCond .eq 18, 3) := by decide +kernel
theorem dX3_names_7 : decode cX3_names 7 = .ok (.aload_n 0, 1) := by decide +kernel
theorem dX3_names_8 : decode cX3_names 8 = .ok (.getfield 25, 3) := by decide +kernel
theorem dX3_names_11 : decode cX3_names 11 = .ok (.iload_n 1, 1) := by decide +kernel
theorem dX3_names_12 : decode cX3_names 12 = .ok (.ishr, 1) := by decide +kernel
theorem dX3_names_13 : decode cX3_names 13 = .ok (.iconst 1, 1) := by decide +kernel
theorem dX3_names_14 : decode cX3_names 14 = .ok (.iand, 1) := by decide +kernel
theorem dX3_names_15 : decode cX3_names 15 = .ok (.ifCond .eq 7, 3) := by decide +kernel
theorem dX3_names_18 : decode cX3_names 18 = .ok (.iconst 1, 1) := by decide +kernel
theorem dX3_names_19 : decode cX3_names 19 = .ok (.goto 4, 3) := by decide +kernel
theorem dX3_names_22 : decode cX3_names 22 = .ok (.iconst 0, 1) := by decide +kernel
theorem dX3_names_23 : decode cX3_names 23 = .ok (.ireturn, 1) := by decide +kernel
abbrev mX3_read_0_e0 : ByteArray := .mk #[0x2a, 0x03, 0xb5, 0x00, 0x1c, 0x2a, 0x03, 0xb5, 0x00, 0x1f, 0x2a, 0x02, 0xb5, 0x00, 0x25, 0x2a, 0x2b, 0xb4, 0x00, 0x2c, 0x10, 0x28, 0xb8, 0x00, 0x2f, 0xb5, 0x00, 0x22, 0x2b, 0xb4, 0x00, 0x2c, 0x9e, 0x00, 0x2d, 0x2a, 0x2b, 0x03, 0xb6, 0x00, 0x35, 0x2a, 0xb4, 0x00, 0x25, 0x02, 0xa0, 0x00, 0x1f, 0x2a, 0xb4, 0x00, 0x1f, 0x2a, 0xb4, 0x00, 0x22, 0xa1, 0x00, 0x0c, 0x2b, 0xb4, 0x00, 0x2c, 0x10, 0x28, 0xa4, 0x00, 0x0b, 0x2a, 0x2a, 0xb4]
theorem kmX3_read_0_e0 : CK cX3_read 0 mX3_read_0_e0 := ck_of (by decide +kernel)
theorem dX3_read_0 : decode cX3_read 0 = .ok (.aload_n 0, 1) := rd_chunk (k := 0) (i := 0) kmX3_read_0_e0 (by decide +kernel)
theorem dX3_read_1 : decode cX3_read 1 = .ok (.iconst 0, 1) := rd_chunk (k := 0) (i := 1) kmX3_read_0_e0 (by decide +kernel)
theorem dX3_read_2 : decode cX3_read 2 = .ok (.putfield 28, 3) := rd_chunk (k := 0) (i := 2) kmX3_read_0_e0 (by decide +kernel)
theorem dX3_read_5 : decode cX3_read 5 = .ok (.aload_n 0, 1) := rd_chunk (k := 0) (i := 5) kmX3_read_0_e0 (by decide +kernel)
theorem dX3_read_6 : decode cX3_read 6 = .ok (.iconst 0, 1) := rd_chunk (k := 0) (i := 6) kmX3_read_0_e0 (by decide +kernel)
theorem dX3_read_7 : decode cX3_read 7 = .ok (.putfield 31, 3) := rd_chunk (k := 0) (i := 7) kmX3_read_0_e0 (by decide +kernel)
theorem dX3_read_10 : decode cX3_read 10 = .ok (.aload_n 0, 1) := rd_chunk (k := 0) (i := 10) kmX3_read_0_e0 (by decide +kernel)
theorem dX3_read_11 : decode cX3_read 11 = .ok (.iconst (-1), 1) := rd_chunk (k := 0) (i := 11) kmX3_read_0_e0 (by decide +kernel)
theorem dX3_read_12 : decode cX3_read 12 = .ok (.putfield 37, 3) := rd_chunk (k := 0) (i := 12) kmX3_read_0_e0 (by decide +kernel)
theorem dX3_read_15 : decode cX3_read 15 = .ok (.aload_n 0, 1) := rd_chunk (k := 0) (i := 15) kmX3_read_0_e0 (by decide +kernel)
theorem dX3_read_16 : decode cX3_read 16 = .ok (.aload_n 1, 1) := rd_chunk (k := 0) (i := 16) kmX3_read_0_e0 (by decide +kernel)
theorem dX3_read_17 : decode cX3_read 17 = .ok (.getfield 44, 3) := rd_chunk (k := 0) (i := 17) kmX3_read_0_e0 (by decide +kernel)
theorem dX3_read_20 : decode cX3_read 20 = .ok (.bipush 40, 2) := rd_chunk (k := 0) (i := 20) kmX3_read_0_e0 (by decide +kernel)
theorem dX3_read_22 : decode cX3_read 22 = .ok (.invokestatic 47, 3) := rd_chunk (k := 0) (i := 22) kmX3_read_0_e0 (by decide +kernel)
theorem dX3_read_25 : decode cX3_read 25 = .ok (.putfield 34, 3) := rd_chunk (k := 0) (i := 25) kmX3_read_0_e0 (by decide +kernel)
theorem dX3_read_28 : decode cX3_read 28 = .ok (.aload_n 1, 1) := rd_chunk (k := 0) (i := 28) kmX3_read_0_e0 (by decide +kernel)
theorem dX3_read_29 : decode cX3_read 29 = .ok (.getfield 44, 3) := rd_chunk (k := 0) (i := 29) kmX3_read_0_e0 (by decide +kernel)
theorem dX3_read_32 : decode cX3_read 32 = .ok (.ifCond .le 45, 3) := rd_chunk (k := 0) (i := 32) kmX3_read_0_e0 (by decide +kernel)
theorem dX3_read_35 : decode cX3_read 35 = .ok (.aload_n 0, 1) := rd_chunk (k := 0) (i := 35) kmX3_read_0_e0 (by decide +kernel)
theorem dX3_read_36 : decode cX3_read 36 = .ok (.aload_n 1, 1) := rd_chunk (k := 0) (i := 36) kmX3_read_0_e0 (by decide +kernel)
theorem dX3_read_37 : decode cX3_read 37 = .ok (.iconst 0, 1) := rd_chunk (k := 0) (i := 37) kmX3_read_0_e0 (by decide +kernel)
theorem dX3_read_38 : decode cX3_read 38 = .ok (.invokevirtual 53, 3) := rd_chunk (k := 0) (i := 38) kmX3_read_0_e0 (by decide +kernel)
theorem dX3_read_41 : decode cX3_read 41 = .ok (.aload_n 0, 1) := rd_chunk (k := 0) (i := 41) kmX3_read_0_e0 (by decide +kernel)
theorem dX3_read_42 : decode cX3_read 42 = .ok (.getfield 37, 3) := rd_chunk (k := 0) (i := 42) kmX3_read_0_e0 (by decide +kernel)
theorem dX3_read_45 : decode cX3_read 45 = .ok (.iconst (-1), 1) := rd_chunk (k := 0) (i := 45) kmX3_read_0_e0 (by decide +kernel)
theorem dX3_read_46 : decode cX3_read 46 = .ok (.if_icmp .ne 31, 3) := rd_chunk (k := 0) (i := 46) kmX3_read_0_e0 (by decide +kernel)
theorem dX3_read_49 : decode cX3_read 49 = .ok (.aload_n 0, 1) := rd_chunk (k := 0) (i := 49) kmX3_read_0_e0 (by decide +kernel)
theorem dX3_read_50 : decode cX3_read 50 = .ok (.getfield 31, 3) := rd_chunk (k := 0) (i := 50) kmX3_read_0_e0 (by decide +kernel)
theorem dX3_read_53 : decode cX3_read 53 = .ok (.aload_n 0, 1) := rd_chunk (k := 0) (i := 53) kmX3_read_0_e0 (by decide +kernel)
theorem dX3_read_54 : decode cX3_read 54 = .ok (.getfield 34, 3) := rd_chunk (k := 0) (i := 54) kmX3_read_0_e0 (by decide +kernel)
theorem dX3_read_57 : decode cX3_read 57 = .ok (.if_icmp .lt 12, 3) := rd_chunk (k := 0) (i := 57) kmX3_read_0_e0 (by decide +kernel)
theorem dX3_read_60 : decode cX3_read 60 = .ok (.aload_n 1, 1) := rd_chunk (k := 0) (i := 60) kmX3_read_0_e0 (by decide +kernel)
theorem dX3_read_61 : decode cX3_read 61 = .ok (.getfield 44, 3) := rd_chunk (k := 0) (i := 61) kmX3_read_0_e0 (by decide +kernel)
abbrev mX3_read_64_e0 : ByteArray := .mk #[0x10, 0x28, 0xa4, 0x00, 0x0b, 0x2a, 0x2a, 0xb4, 0x00, 0x1f, 0xb5, 0x00, 0x25, 0x2a, 0xb4, 0x00, 0x25, 0x02, 0x9f, 0x00, 0x0a, 0x02, 0x2a, 0xb4, 0x00, 0x25, 0x64, 0xac, 0x2a, 0xb4, 0x00, 0x0f, 0x03, 0x2a, 0xb4, 0x00, 0x0b, 0x03, 0x10, 0x28, 0xb8, 0x00, 0x39, 0x2a, 0x2a, 0xb4, 0x00, 0x1c, 0xb5, 0x00, 0x15, 0x2a, 0x03, 0xb5, 0x00, 0x19, 0x03, 0x3d, 0x1c, 0x2a, 0xb4, 0x00, 0x15, 0xa2, 0x00, 0x3a, 0x2a, 0x59, 0xb4, 0x00, 0x19, 0x2a]
theorem kmX3_read_64_e0 : CK cX3_read 64 mX3_read_64_e0 := ck_of (by decide +kernel)
theorem dX3_read_64 : decode cX3_read 64 = .ok (.bipush 40, 2) := rd_chunk (k := 64) (i := 0) kmX3_read_64_e0 (by decide +kernel)
theorem dX3_read_66 : decode cX3_read 66 = .ok (.if_icmp .le 11, 3) := rd_chunk (k := 64) (i := 2) kmX3_read_64_e0 (by decide +kernel)
theorem dX3_read_69 : decode cX3_read 69 = .ok (.aload_n 0, 1) := rd_chunk (k := 64) (i := 5) kmX3_read_64_e0 (by decide +kernel)
theorem dX3_read_70 : decode cX3_read 70 = .ok (.aload_n 0, 1) := rd_chunk (k := 64) (i := 6) kmX3_read_64_e0 (by decide +kernel)
theorem dX3_read_71 : decode cX3_read 71 = .ok (.getfield 31, 3) := rd_chunk (k := 64) (i := 7) kmX3_read_64_e0 (by decide +kernel)
theorem dX3_read_74 : decode cX3_read 74 = .ok (.putfield 37, 3) := rd_chunk (k := 64) (i := 10) kmX3_read_64_e0 (by decide +kernel)
theorem dX3_read_77 : decode cX3_read 77 = .ok (.aload_n 0, 1) := rd_chunk (k := 64) (i := 13) kmX3_read_64_e0 (by decide +kernel)
theorem dX3_read_78 : decode cX3_read 78 = .ok (.getfield 37, 3) := rd_chunk (k := 64) (i := 14) kmX3_read_64_e0 (by decide +kernel)
theorem dX3_read_81 : decode cX3_read 81 = .ok (.iconst (-1), 1) := rd_chunk (k := 64) (i := 17) kmX3_read_64_e0 (by decide +kernel)
theorem dX3_read_82 : decode cX3_read 82 = .ok (.if_icmp .eq 10, 3) := rd_chunk (k := 64) (i := 18) kmX3_read_64_e0 (by decide +kernel)
theorem dX3_read_85 : decode cX3_read 85 = .ok (.iconst (-1), 1) := rd_chunk (k := 64) (i := 21) kmX3_read_64_e0 (by decide +kernel)
theorem dX3_read_86 : decode cX3_read 86 = .ok (.aload_n 0, 1) := rd_chunk (k := 64) (i := 22) kmX3_read_64_e0 (by decide +kernel)
theorem dX3_read_87 : decode cX3_read 87 = .ok (.getfield 37, 3) := rd_chunk (k := 64) (i := 23) kmX3_read_64_e0 (by decide +kernel)
theorem dX3_read_90 : decode cX3_read 90 = .ok (.isub, 1) := rd_chunk (k := 64) (i := 26) kmX3_read_64_e0 (by decide +kernel)
theorem dX3_read_91 : decode cX3_read 91 = .ok (.ireturn, 1) := rd_chunk (k := 64) (i := 27) kmX3_read_64_e0 (by decide +kernel)
theorem dX3_read_92 : decode cX3_read 92 = .ok (.aload_n 0, 1) := rd_chunk (k := 64) (i := 28) kmX3_read_64_e0 (by decide +kernel)
theorem dX3_read_93 : decode cX3_read 93 = .ok (.getfield 15, 3) := rd_chunk (k := 64) (i := 29) kmX3_read_64_e0 (by decide +kernel)
theorem dX3_read_96 : decode cX3_read 96 = .ok (.iconst 0, 1) := rd_chunk (k := 64) (i := 32) kmX3_read_64_e0 (by decide +kernel)
theorem dX3_read_97 : decode cX3_read 97 = .ok (.aload_n 0, 1) := rd_chunk (k := 64) (i := 33) kmX3_read_64_e0 (by decide +kernel)
theorem dX3_read_98 : decode cX3_read 98 = .ok (.getfield 11, 3) := rd_chunk (k := 64) (i := 34) kmX3_read_64_e0 (by decide +kernel)
theorem dX3_read_101 : decode cX3_read 101 = .ok (.iconst 0, 1) := rd_chunk (k := 64) (i := 37) kmX3_read_64_e0 (by decide +kernel)
theorem dX3_read_102 : decode cX3_read 102 = .ok (.bipush 40, 2) := rd_chunk (k := 64) (i := 38) kmX3_read_64_e0 (by decide +kernel)
theorem dX3_read_104 : decode cX3_read 104 = .ok (.invokestatic 57, 3) := rd_chunk (k := 64) (i := 40) kmX3_read_64_e0 (by decide +kernel)
theorem dX3_read_107 : decode cX3_read 107 = .ok (.aload_n 0, 1) := rd_chunk (k := 64) (i := 43) kmX3_read_64_e0 (by decide +kernel)
theorem dX3_read_108 : decode cX3_read 108 = .ok (.aload_n 0, 1) := rd_chunk (k := 64) (i := 44) kmX3_read_64_e0 (by decide +kernel)
theorem dX3_read_109 : decode cX3_read 109 = .ok (.getfield 28, 3) := rd_chunk (k := 64) (i := 45) kmX3_read_64_e0 (by decide +kernel)
theorem dX3_read_112 : decode cX3_read 112 = .ok (.putfield 21, 3) := rd_chunk (k := 64) (i := 48) kmX3_read_64_e0 (by decide +kernel)
theorem dX3_read_115 : decode cX3_read 115 = .ok (.aload_n 0, 1) := rd_chunk (k := 64) (i := 51) kmX3_read_64_e0 (by decide +kernel)
theorem dX3_read_116 : decode cX3_read 116 = .ok (.iconst 0, 1) := rd_chunk (k := 64) (i := 52) kmX3_read_64_e0 (by decide +kernel)
theorem dX3_read_117 : decode cX3_read 117 = .ok (.putfield 25, 3) := rd_chunk (k := 64) (i := 53) kmX3_read_64_e0 (by decide +kernel)
theorem dX3_read_120 : decode cX3_read 120 = .ok (.iconst 0, 1) := rd_chunk (k := 64) (i := 56) kmX3_read_64_e0 (by decide +kernel)
theorem dX3_read_121 : decode cX3_read 121 = .ok (.istore_n 2, 1) := rd_chunk (k := 64) (i := 57) kmX3_read_64_e0 (by decide +kernel)
theorem dX3_read_122 : decode cX3_read 122 = .ok (.iload_n 2, 1) := rd_chunk (k := 64) (i := 58) kmX3_read_64_e0 (by decide +kernel)
theorem dX3_read_123 : decode cX3_read 123 = .ok (.aload_n 0, 1) := rd_chunk (k := 64) (i := 59) kmX3_read_64_e0 (by decide +kernel)
theorem dX3_read_124 : decode cX3_read 124 = .ok (.getfield 21, 3) := rd_chunk (k := 64) (i := 60) kmX3_read_64_e0 (by decide +kernel)
theorem dX3_read_127 : decode cX3_read 127 = .ok (.if_icmp .ge 58, 3) := rd_chunk (k := 64) (i := 63) kmX3_read_64_e0 (by decide +kernel)
abbrev mX3_read_128_e0 : ByteArray := .mk #[0x00, 0x3a, 0x2a, 0x59, 0xb4, 0x00, 0x19, 0x2a, 0xb4, 0x00, 0x0b, 0x1c, 0x2e, 0x11, 0x03, 0xe8, 0xa1, 0x00, 0x1e, 0x2a, 0xb4, 0x00, 0x0b, 0x1c, 0x2e, 0x11, 0x07, 0xd0, 0xa2, 0x00, 0x12, 0x04, 0x2a, 0xb4, 0x00, 0x0b, 0x1c, 0x2e, 0x11, 0x03, 0xe8, 0x64, 0x78, 0xa7, 0x00, 0x04, 0x03, 0x80, 0xb5, 0x00, 0x19, 0x84, 0x02, 0x01, 0xa7, 0xff, 0xc4, 0x03, 0xac]
theorem kmX3_read_128_e0 : CK cX3_read 128 mX3_read_128_e0 := ck_of (by decide +kernel)
theorem dX3_read_130 : decode cX3_read 130 = .ok (.aload_n 0, 1) := rd_chunk (k := 128) (i := 2) kmX3_read_128_e0 (by decide +kernel)
theorem dX3_read_131 : decode cX3_read 131 = .ok (.dup, 1) := rd_chunk (k := 128) (i := 3) kmX3_read_128_e0 (by decide +kernel)
theorem dX3_read_132 : decode cX3_read 132 = .ok (.getfield 25, 3) := rd_chunk (k := 128) (i := 4) kmX3_read_128_e0 (by decide +kernel)
theorem dX3_read_135 : decode cX3_read 135 = .ok (.aload_n 0, 1) := rd_chunk (k := 128) (i := 7) kmX3_read_128_e0 (by decide +kernel)
theorem dX3_read_136 : decode cX3_read 136 = .ok (.getfield 11, 3) := rd_chunk (k := 128) (i := 8) kmX3_read_128_e0 (by decide +kernel)
theorem dX3_read_139 : decode cX3_read 139 = .ok (.iload_n 2, 1) := rd_chunk (k := 128) (i := 11) kmX3_read_128_e0 (by decide +kernel)
theorem dX3_read_140 : decode cX3_read 140 = .ok (.iaload, 1) := rd_chunk (k := 128) (i := 12) kmX3_read_128_e0 (by decide +kernel)
theorem dX3_read_141 : decode cX3_read 141 = .ok (.sipush 1000, 3) := rd_chunk (k := 128) (i := 13) kmX3_read_128_e0 (by decide +kernel)
theorem dX3_read_144 : decode cX3_read 144 = .ok (.if_icmp .lt 30, 3) := rd_chunk (k := 128) (i := 16) kmX3_read_128_e0 (by decide +kernel)
theorem dX3_read_147 : decode cX3_read 147 = .ok (.aload_n 0, 1) := rd_chunk (k := 128) (i := 19) kmX3_read_128_e0 (by decide +kernel)
theorem dX3_read_148 : decode cX3_read 148 = .ok (.getfield 11, 3) := rd_chunk (k := 128) (i := 20) kmX3_read_128_e0 (by decide +kernel)
theorem dX3_read_151 : decode cX3_read 151 = .ok (.iload_n 2, 1) := rd_chunk (k := 128) (i := 23) kmX3_read_128_e0 (by decide +kernel)
theorem dX3_read_152 : decode cX3_read 152 = .ok (.iaload, 1) := rd_chunk (k := 128) (i := 24) kmX3_read_128_e0 (by decide +kernel)
theorem dX3_read_153 : decode cX3_read 153 = .ok (.sipush 2000, 3) := rd_chunk (k := 128) (i := 25) kmX3_read_128_e0 (by decide +kernel)
theorem dX3_read_156 : decode cX3_read 156 = .ok (.if_icmp .ge 18, 3) := rd_chunk (k := 128) (i := 28) kmX3_read_128_e0 (by decide +kernel)
theorem dX3_read_159 : decode cX3_read 159 = .ok (.iconst 1, 1) := rd_chunk (k := 128) (i := 31) kmX3_read_128_e0 (by decide +kernel)
theorem dX3_read_160 : decode cX3_read 160 = .ok (.aload_n 0, 1) := rd_chunk (k := 128) (i := 32) kmX3_read_128_e0 (by decide +kernel)
theorem dX3_read_161 : decode cX3_read 161 = .ok (.getfield 11, 3) := rd_chunk (k := 128) (i := 33) kmX3_read_128_e0 (by decide +kernel)
theorem dX3_read_164 : decode cX3_read 164 = .ok (.iload_n 2, 1) := rd_chunk (k := 128) (i := 36) kmX3_read_128_e0 (by decide +kernel)
theorem dX3_read_165 : decode cX3_read 165 = .ok (.iaload, 1) := rd_chunk (k := 128) (i := 37) kmX3_read_128_e0 (by decide +kernel)
theorem dX3_read_166 : decode cX3_read 166 = .ok (.sipush 1000, 3) := rd_chunk (k := 128) (i := 38) kmX3_read_128_e0 (by decide +kernel)
theorem dX3_read_169 : decode cX3_read 169 = .ok (.isub, 1) := rd_chunk (k := 128) (i := 41) kmX3_read_128_e0 (by decide +kernel)
theorem dX3_read_170 : decode cX3_read 170 = .ok (.ishl, 1) := rd_chunk (k := 128) (i := 42) kmX3_read_128_e0 (by decide +kernel)
theorem dX3_read_171 : decode cX3_read 171 = .ok (.goto 4, 3) := rd_chunk (k := 128) (i := 43) kmX3_read_128_e0 (by decide +kernel)
theorem dX3_read_174 : decode cX3_read 174 = .ok (.iconst 0, 1) := rd_chunk (k := 128) (i := 46) kmX3_read_128_e0 (by decide +kernel)
theorem dX3_read_175 : decode cX3_read 175 = .ok (.ior, 1) := rd_chunk (k := 128) (i := 47) kmX3_read_128_e0 (by decide +kernel)
theorem dX3_read_176 : decode cX3_read 176 = .ok (.putfield 25, 3) := rd_chunk (k := 128) (i := 48) kmX3_read_128_e0 (by decide +kernel)
theorem dX3_read_179 : decode cX3_read 179 = .ok (.iinc 2 1, 3) := rd_chunk (k := 128) (i := 51) kmX3_read_128_e0 (by decide +kernel)
theorem dX3_read_182 : decode cX3_read 182 = .ok (.goto (-60), 3) := rd_chunk (k := 128) (i := 54) kmX3_read_128_e0 (by decide +kernel)
theorem dX3_read_185 : decode cX3_read 185 = .ok (.iconst 0, 1) := rd_chunk (k := 128) (i := 57) kmX3_read_128_e0 (by decide +kernel)
theorem dX3_read_186 : decode cX3_read 186 = .ok (.ireturn, 1) := rd_chunk (k := 128) (i := 58) kmX3_read_128_e0 (by decide +kernel)
theorem dX3_look_0 : decode cX3_look 0 = .ok (.aload_n 0, 1) := by decide +kernel
theorem dX3_look_1 : decode cX3_look 1 = .ok (.getfield 31, 3) := by decide +kernel
theorem dX3_look_4 : decode cX3_look 4 = .ok (.aload_n 0, 1) := by decide +kernel
theorem dX3_look_5 : decode cX3_look 5 = .ok (.getfield 34, 3) := by decide +kernel
theorem dX3_look_8 : decode cX3_look 8 = .ok (.if_icmp .ge 14, 3) := by decide +kernel
theorem dX3_look_11 : decode cX3_look 11 = .ok (.aload_n 1, 1) := by decide +kernel
theorem dX3_look_12 : decode cX3_look 12 = .ok (.aload_n 0, 1) := by decide +kernel
theorem dX3_look_13 : decode cX3_look 13 = .ok (.getfield 31, 3) := by decide +kernel
theorem dX3_look_16 : decode cX3_look 16 = .ok (.invokevirtual 63, 3) := by decide +kernel
theorem dX3_look_19 : decode cX3_look 19 = .ok (.goto 4, 3) := by decide +kernel
theorem dX3_look_22 : decode cX3_look 22 = .ok (.iconst (-1), 1) := by decide +kernel
theorem dX3_look_23 : decode cX3_look 23 = .ok (.ireturn, 1) := by decide +kernel
theorem dX3_isAhead_0 : decode cX3_isAhead 0 = .ok (.aload_n 0, 1) := by decide +kernel
theorem dX3_isAhead_1 : decode cX3_isAhead 1 = .ok (.aload_n 1, 1) := by decide +kernel
theorem dX3_isAhead_2 : decode cX3_isAhead 2 = .ok (.invokevirtual 67, 3) := by decide +kernel
theorem dX3_isAhead_5 : decode cX3_isAhead 5 = .ok (.istore 4, 2) := by decide +kernel
theorem dX3_isAhead_7 : decode cX3_isAhead 7 = .ok (.aload_n 0, 1) := by decide +kernel
theorem dX3_isAhead_8 : decode cX3_isAhead 8 = .ok (.getfield 37, 3) := by decide +kernel
theorem dX3_isAhead_11 : decode cX3_isAhead 11 = .ok (.iconst (-1), 1) := by decide +kernel
theorem dX3_isAhead_12 : decode cX3_isAhead 12 = .ok (.if_icmp .ne 19, 3) := by decide +kernel
theorem dX3_isAhead_15 : decode cX3_isAhead 15 = .ok (.iload 4, 2) := by decide +kernel
theorem dX3_isAhead_17 : decode cX3_isAhead 17 = .ok (.iload_n 2, 1) := by decide +kernel
theorem dX3_isAhead_18 : decode cX3_isAhead 18 = .ok (.if_icmp .eq 9, 3) := by decide +kernel
theorem dX3_isAhead_21 : decode cX3_isAhead 21 = .ok (.iload 4, 2) := by decide +kernel
theorem dX3_isAhead_23 : decode cX3_isAhead 23 = .ok (.iload_n 3, 1) := by decide +kernel
theorem dX3_isAhead_24 : decode cX3_isAhead 24 = .ok (.if_icmp .ne 7, 3) := by decide +kernel
theorem dX3_isAhead_27 : decode cX3_isAhead 27 = .ok (.iconst 1, 1) := by decide +kernel
theorem dX3_isAhead_28 : decode cX3_isAhead 28 = .ok (.goto 4, 3) := by decide +kernel
theorem dX3_isAhead_31 : decode cX3_isAhead 31 = .ok (.iconst 0, 1) := by decide +kernel
theorem dX3_isAhead_32 : decode cX3_isAhead 32 = .ok (.ireturn, 1) := by decide +kernel
theorem dX3_emit_0 : decode cX3_emit 0 = .ok (.aload_n 0, 1) := by decide +kernel
theorem dX3_emit_1 : decode cX3_emit 1 = .ok (.getfield 37, 3) := by decide +kernel
theorem dX3_emit_4 : decode cX3_emit 4 = .ok (.iconst (-1), 1) := by decide +kernel
theorem dX3_emit_5 : decode cX3_emit 5 = .ok (.if_icmp .ne 32, 3) := by decide +kernel
theorem dX3_emit_8 : decode cX3_emit 8 = .ok (.aload_n 0, 1) := by decide +kernel
theorem dX3_emit_9 : decode cX3_emit 9 = .ok (.getfield 28, 3) := by decide +kernel
theorem dX3_emit_12 : decode cX3_emit 12 = .ok (.bipush 40, 2) := by decide +kernel
theorem dX3_emit_14 : decode cX3_emit 14 = .ok (.if_icmp .ge 23, 3) := by decide +kernel
theorem dX3_emit_17 : decode cX3_emit 17 = .ok (.aload_n 0, 1) := by decide +kernel
theorem dX3_emit_18 : decode cX3_emit 18 = .ok (.getfield 15, 3) := by decide +kernel
theorem dX3_emit_21 : decode cX3_emit 21 = .ok (.aload_n 0, 1) := by decide +kernel
theorem dX3_emit_22 : decode cX3_emit 22 = .ok (.getfield 28, 3) := by decide +kernel
theorem dX3_emit_25 : decode cX3_emit 25 = .ok (.iload_n 1, 1) := by decide +kernel
theorem dX3_emit_26 : decode cX3_emit 26 = .ok (.iastore, 1) := by decide +kernel
theorem dX3_emit_27 : decode cX3_emit 27 = .ok (.aload_n 0, 1) := by decide +kernel
theorem dX3_emit_28 : decode cX3_emit 28 = .ok (.dup, 1) := by decide +kernel
theorem dX3_emit_29 : decode cX3_emit 29 = .ok (.getfield 28, 3) := by decide +kernel
theorem dX3_emit_32 : decode cX3_emit 32 = .ok (.iconst 1, 1) := by decide +kernel
theorem dX3_emit_33 : decode cX3_emit 33 = .ok (.iadd, 1) := by decide +kernel
theorem dX3_emit_34 : decode cX3_emit 34 = .ok (.putfield 28, 3) := by decide +kernel
theorem dX3_emit_37 : decode cX3_emit 37 = .ok (.return_, 1) := by decide +kernel
theorem dX3_readExpression_0 : decode cX3_readExpression 0 = .ok (.aload_n 0, 1) := by decide +kernel
theorem dX3_readExpression_1 : decode cX3_readExpression 1 = .ok (.aload_n 1, 1) := by decide +kernel
theorem dX3_readExpression_2 : decode cX3_readExpression 2 = .ok (.iload_n 2, 1) := by decide +kernel
theorem dX3_readExpression_3 : decode cX3_readExpression 3 = .ok (.invokevirtual 71, 3) := by decide +kernel
theorem dX3_readExpression_6 : decode cX3_readExpression 6 = .ok (.aload_n 0, 1) := by decide +kernel
theorem dX3_readExpression_7 : decode cX3_readExpression 7 = .ok (.aload_n 1, 1) := by decide +kernel
theorem dX3_readExpression_8 : decode cX3_readExpression 8 = .ok (.bipush 60, 2) := by decide +kernel
theorem dX3_readExpression_10 : decode cX3_readExpression 10 = .ok (.bipush 62, 2) := by decide +kernel
theorem dX3_readExpression_12 : decode cX3_readExpression 12 = .ok (.invokevirtual 74, 3) := by decide +kernel
theorem dX3_readExpression_15 : decode cX3_readExpression 15 = .ok (.ifCond .ne 15, 3) := by decide +kernel
theorem dX3_readExpression_18 : decode cX3_readExpression 18 = .ok (.aload_n 0, 1) := by decide +kernel
theorem dX3_readExpression_19 : decode cX3_readExpression 19 = .ok (.aload_n 1, 1) := by decide +kernel
theorem dX3_readExpression_20 : decode cX3_readExpression 20 = .ok (.bipush 61, 2) := by decide +kernel
theorem dX3_readExpression_22 : decode cX3_readExpression 22 = .ok (.bipush 61, 2) := by decide +kernel
theorem dX3_readExpression_24 : decode cX3_readExpression 24 = .ok (.invokevirtual 74, 3) := by decide +kernel
theorem dX3_readExpression_27 : decode cX3_readExpression 27 = .ok (.ifCond .eq 34, 3) := by decide +kernel
theorem dX3_readExpression_30 : decode cX3_readExpression 30 = .ok (.aload_n 0, 1) := by decide +kernel
theorem dX3_readExpression_31 : decode cX3_readExpression 31 = .ok (.aload_n 1, 1) := by decide +kernel
theorem dX3_readExpression_32 : decode cX3_readExpression 32 = .ok (.invokevirtual 67, 3) := by decide +kernel
theorem dX3_readExpression_35 : decode cX3_readExpression 35 = .ok (.istore_n 3, 1) := by decide +kernel
theorem dX3_readExpression_36 : decode cX3_readExpression 36 = .ok (.aload_n 0, 1) := by decide +kernel
theorem dX3_readExpression_37 : decode cX3_readExpression 37 = .ok (.dup, 1) := by decide +kernel
theorem dX3_readExpression_38 : decode cX3_readExpression 38 = .ok (.getfield 31, 3) := by decide +kernel
theorem dX3_readExpression_41 : decode cX3_readExpression 41 = .ok (.iconst 1, 1) := by decide +kernel
theorem dX3_readExpression_42 : decode cX3_readExpression 42 = .ok (.iadd, 1) := by decide +kernel
theorem dX3_readExpression_43 : decode cX3_readExpression 43 = .ok (.putfield 31, 3) := by decide +kernel
theorem dX3_readExpression_46 : decode cX3_readExpression 46 = .ok (.aload_n 0, 1) := by decide +kernel
theorem dX3_readExpression_47 : decode cX3_readExpression 47 = .ok (.aload_n 1, 1) := by decide +kernel
theorem dX3_readExpression_48 : decode cX3_readExpression 48 = .ok (.iload_n 2, 1) := by decide +kernel
theorem dX3_readExpression_49 : decode cX3_readExpression 49 = .ok (.invokevirtual 71, 3) := by decide +kernel
theorem dX3_readExpression_52 : decode cX3_readExpression 52 = .ok (.aload_n 0, 1) := by decide +kernel
theorem dX3_readExpression_53 : decode cX3_readExpression 53 = .ok (.sipush 2000, 3) := by decide +kernel
theorem dX3_readExpression_56 : decode cX3_readExpression 56 = .ok (.iload_n 3, 1) := by decide +kernel
theorem dX3_readExpression_57 : decode cX3_readExpression 57 = .ok (.iadd, 1) := by decide +kernel
theorem dX3_readExpression_58 : decode cX3_readExpression 58 = .ok (.invokevirtual 78, 3) := by decide +kernel
theorem dX3_readExpression_61 : decode cX3_readExpression 61 = .ok (.return_, 1) := by decide +kernel
theorem dX3_readSum_0 : decode cX3_readSum 0 = .ok (.aload_n 0, 1) := by decide +kernel
theorem dX3_readSum_1 : decode cX3_readSum 1 = .ok (.aload_n 1, 1) := by decide +kernel
theorem dX3_readSum_2 : decode cX3_readSum 2 = .ok (.iload_n 2, 1) := by decide +kernel
theorem dX3_readSum_3 : decode cX3_readSum 3 = .ok (.invokevirtual 82, 3) := by decide +kernel
theorem dX3_readSum_6 : decode cX3_readSum 6 = .ok (.iconst 0, 1) := by decide +kernel
theorem dX3_readSum_7 : decode cX3_readSum 7 = .ok (.istore_n 3, 1) := by decide +kernel
theorem dX3_readSum_8 : decode cX3_readSum 8 = .ok (.iload_n 3, 1) := by decide +kernel
theorem dX3_readSum_9 : decode cX3_readSum 9 = .ok (.bipush 40, 2) := by decide +kernel
theorem dX3_readSum_11 : decode cX3_readSum 11 = .ok (.if_icmp .ge 54, 3) := by decide +kernel
theorem dX3_readSum_14 : decode cX3_readSum 14 = .ok (.aload_n 0, 1) := by decide +kernel
theorem dX3_readSum_15 : decode cX3_readSum 15 = .ok (.aload_n 1, 1) := by decide +kernel
theorem dX3_readSum_16 : decode cX3_readSum 16 = .ok (.bipush 43, 2) := by decide +kernel
theorem dX3_readSum_18 : decode cX3_readSum 18 = .ok (.bipush 45, 2) := by decide +kernel
theorem dX3_readSum_20 : decode cX3_readSum 20 = .ok (.invokevirtual 74, 3) := by decide +kernel
theorem dX3_readSum_23 : decode cX3_readSum 23 = .ok (.ifCond .eq 42, 3) := by decide +kernel
theorem dX3_readSum_26 : decode cX3_readSum 26 = .ok (.aload_n 0, 1) := by decide +kernel
theorem dX3_readSum_27 : decode cX3_readSum 27 = .ok (.aload_n 1, 1) := by decide +kernel
theorem dX3_readSum_28 : decode cX3_readSum 28 = .ok (.invokevirtual 67, 3) := by decide +kernel
theorem dX3_readSum_31 : decode cX3_readSum 31 = .ok (.istore 4, 2) := by decide +kernel
theorem dX3_readSum_33 : decode cX3_readSum 33 = .ok (.aload_n 0, 1) := by decide +kernel
theorem dX3_readSum_34 : decode cX3_readSum 34 = .ok (.dup, 1) := by decide +kernel
theorem dX3_readSum_35 : decode cX3_readSum 35 = .ok (.getfield 31, 3) := by decide +kernel
theorem dX3_readSum_38 : decode cX3_readSum 38 = .ok (.iconst 1, 1) := by decide +kernel
theorem dX3_readSum_39 : decode cX3_readSum 39 = .ok (.iadd, 1) := by decide +kernel
theorem dX3_readSum_40 : decode cX3_readSum 40 = .ok (.putfield 31, 3) := by decide +kernel
theorem dX3_readSum_43 : decode cX3_readSum 43 = .ok (.aload_n 0, 1) := by decide +kernel
theorem dX3_readSum_44 : decode cX3_readSum 44 = .ok (.aload_n 1, 1) := by decide +kernel
theorem dX3_readSum_45 : decode cX3_readSum 45 = .ok (.iload_n 2, 1) := by decide +kernel
theorem dX3_readSum_46 : decode cX3_readSum 46 = .ok (.invokevirtual 82, 3) := by decide +kernel
theorem dX3_readSum_49 : decode cX3_readSum 49 = .ok (.aload_n 0, 1) := by decide +kernel
theorem dX3_readSum_50 : decode cX3_readSum 50 = .ok (.sipush 2000, 3) := by decide +kernel
theorem dX3_readSum_53 : decode cX3_readSum 53 = .ok (.iload 4, 2) := by decide +kernel
theorem dX3_readSum_55 : decode cX3_readSum 55 = .ok (.iadd, 1) := by decide +kernel
theorem dX3_readSum_56 : decode cX3_readSum 56 = .ok (.invokevirtual 78, 3) := by decide +kernel
theorem dX3_readSum_59 : decode cX3_readSum 59 = .ok (.iinc 3 1, 3) := by decide +kernel
theorem dX3_readSum_62 : decode cX3_readSum 62 = .ok (.goto (-54), 3) := by decide +kernel
theorem dX3_readSum_65 : decode cX3_readSum 65 = .ok (.return_, 1) := by decide +kernel
theorem dX3_readProduct_0 : decode cX3_readProduct 0 = .ok (.aload_n 0, 1) := by decide +kernel
theorem dX3_readProduct_1 : decode cX3_readProduct 1 = .ok (.aload_n 1, 1) := by decide +kernel
theorem dX3_readProduct_2 : decode cX3_readProduct 2 = .ok (.iload_n 2, 1) := by decide +kernel
theorem dX3_readProduct_3 : decode cX3_readProduct 3 = .ok (.invokevirtual 85, 3) := by decide +kernel
theorem dX3_readProduct_6 : decode cX3_readProduct 6 = .ok (.iconst 0, 1) := by decide +kernel
theorem dX3_readProduct_7 : decode cX3_readProduct 7 = .ok (.istore_n 3, 1) := by decide +kernel
theorem dX3_readProduct_8 : decode cX3_readProduct 8 = .ok (.iload_n 3, 1) := by decide +kernel
theorem dX3_readProduct_9 : decode cX3_readProduct 9 = .ok (.bipush 40, 2) := by decide +kernel
theorem dX3_readProduct_11 : decode cX3_readProduct 11 = .ok (.if_icmp .ge 54, 3) := by decide +kernel
theorem dX3_readProduct_14 : decode cX3_readProduct 14 = .ok (.aload_n 0, 1) := by decide +kernel
theorem dX3_readProduct_15 : decode cX3_readProduct 15 = .ok (.aload_n 1, 1) := by decide +kernel
theorem dX3_readProduct_16 : decode cX3_readProduct 16 = .ok (.bipush 42, 2) := by decide +kernel
theorem dX3_readProduct_18 : decode cX3_readProduct 18 = .ok (.bipush 47, 2) := by decide +kernel
theorem dX3_readProduct_20 : decode cX3_readProduct 20 = .ok (.invokevirtual 74, 3) := by decide +kernel
theorem dX3_readProduct_23 : decode cX3_readProduct 23 = .ok (.ifCond .eq 42, 3) := by decide +kernel
theorem dX3_readProduct_26 : decode cX3_readProduct 26 = .ok (.aload_n 0, 1) := by decide +kernel
theorem dX3_readProduct_27 : decode cX3_readProduct 27 = .ok (.aload_n 1, 1) := by decide +kernel
theorem dX3_readProduct_28 : decode cX3_readProduct 28 = .ok (.invokevirtual 67, 3) := by decide +kernel
theorem dX3_readProduct_31 : decode cX3_readProduct 31 = .ok (.istore 4, 2) := by decide +kernel
theorem dX3_readProduct_33 : decode cX3_readProduct 33 = .ok (.aload_n 0, 1) := by decide +kernel
theorem dX3_readProduct_34 : decode cX3_readProduct 34 = .ok (.dup, 1) := by decide +kernel
theorem dX3_readProduct_35 : decode cX3_readProduct 35 = .ok (.getfield 31, 3) := by decide +kernel
theorem dX3_readProduct_38 : decode cX3_readProduct 38 = .ok (.iconst 1, 1) := by decide +kernel
theorem dX3_readProduct_39 : decode cX3_readProduct 39 = .ok (.iadd, 1) := by decide +kernel
theorem dX3_readProduct_40 : decode cX3_readProduct 40 = .ok (.putfield 31, 3) := by decide +kernel
theorem dX3_readProduct_43 : decode cX3_readProduct 43 = .ok (.aload_n 0, 1) := by decide +kernel
theorem dX3_readProduct_44 : decode cX3_readProduct 44 = .ok (.aload_n 1, 1) := by decide +kernel
theorem dX3_readProduct_45 : decode cX3_readProduct 45 = .ok (.iload_n 2, 1) := by decide +kernel
theorem dX3_readProduct_46 : decode cX3_readProduct 46 = .ok (.invokevirtual 85, 3) := by decide +kernel
theorem dX3_readProduct_49 : decode cX3_readProduct 49 = .ok (.aload_n 0, 1) := by decide +kernel
theorem dX3_readProduct_50 : decode cX3_readProduct 50 = .ok (.sipush 2000, 3) := by decide +kernel
theorem dX3_readProduct_53 : decode cX3_readProduct 53 = .ok (.iload 4, 2) := by decide +kernel
theorem dX3_readProduct_55 : decode cX3_readProduct 55 = .ok (.iadd, 1) := by decide +kernel
theorem dX3_readProduct_56 : decode cX3_readProduct 56 = .ok (.invokevirtual 78, 3) := by decide +kernel
theorem dX3_readProduct_59 : decode cX3_readProduct 59 = .ok (.iinc 3 1, 3) := by decide +kernel
theorem dX3_readProduct_62 : decode cX3_readProduct 62 = .ok (.goto (-54), 3) := by decide +kernel
theorem dX3_readProduct_65 : decode cX3_readProduct 65 = .ok (.return_, 1) := by decide +kernel
theorem dX3_readSigned_0 : decode cX3_readSigned 0 = .ok (.iconst 0, 1) := by decide +kernel
theorem dX3_readSigned_1 : decode cX3_readSigned 1 = .ok (.istore_n 3, 1) := by decide +kernel
theorem dX3_readSigned_2 : decode cX3_readSigned 2 = .ok (.iconst 0, 1) := by decide +kernel
theorem dX3_readSigned_3 : decode cX3_readSigned 3 = .ok (.istore 4, 2) := by decide +kernel
theorem dX3_readSigned_5 : decode cX3_readSigned 5 = .ok (.iload 4, 2) := by decide +kernel
theorem dX3_readSigned_7 : decode cX3_readSigned 7 = .ok (.bipush 40, 2) := by decide +kernel
theorem dX3_readSigned_9 : decode cX3_readSigned 9 = .ok (.if_icmp .ge 41, 3) := by decide +kernel
theorem dX3_readSigned_12 : decode cX3_readSigned 12 = .ok (.aload_n 0, 1) := by decide +kernel
theorem dX3_readSigned_13 : decode cX3_readSigned 13 = .ok (.aload_n 1, 1) := by decide +kernel
theorem dX3_readSigned_14 : decode cX3_readSigned 14 = .ok (.bipush 45, 2) := by decide +kernel
theorem dX3_readSigned_16 : decode cX3_readSigned 16 = .ok (.bipush 45, 2) := by decide +kernel
theorem dX3_readSigned_18 : decode cX3_readSigned 18 = .ok (.invokevirtual 74, 3) := by decide +kernel
theorem dX3_readSigned_21 : decode cX3_readSigned 21 = .ok (.ifCond .eq 29, 3) := by decide +kernel
theorem dX3_readSigned_24 : decode cX3_readSigned 24 = .ok (.iload_n 3, 1) := by decide +kernel
theorem dX3_readSigned_25 : decode cX3_readSigned 25 = .ok (.ifCond .ne 7, 3) := by decide +kernel
theorem dX3_readSigned_28 : decode cX3_readSigned 28 = .ok (.iconst 1, 1) := by decide +kernel
theorem dX3_readSigned_29 : decode cX3_readSigned 29 = .ok (.goto 4, 3) := by decide +kernel
theorem dX3_readSigned_32 : decode cX3_readSigned 32 = .ok (.iconst 0, 1) := by decide +kernel
theorem dX3_readSigned_33 : decode cX3_readSigned 33 = .ok (.istore_n 3, 1) := by decide +kernel
theorem dX3_readSigned_34 : decode cX3_readSigned 34 = .ok (.aload_n 0, 1) := by decide +kernel
theorem dX3_readSigned_35 : decode cX3_readSigned 35 = .ok (.dup, 1) := by decide +kernel
theorem dX3_readSigned_36 : decode cX3_readSigned 36 = .ok (.getfield 31, 3) := by decide +kernel
theorem dX3_readSigned_39 : decode cX3_readSigned 39 = .ok (.iconst 1, 1) := by decide +kernel
theorem dX3_readSigned_40 : decode cX3_readSigned 40 = .ok (.iadd, 1) := by decide +kernel
theorem dX3_readSigned_41 : decode cX3_readSigned 41 = .ok (.putfield 31, 3) := by decide +kernel
theorem dX3_readSigned_44 : decode cX3_readSigned 44 = .ok (.iinc 4 1, 3) := by decide +kernel
theorem dX3_readSigned_47 : decode cX3_readSigned 47 = .ok (.goto (-42), 3) := by decide +kernel
theorem dX3_readSigned_50 : decode cX3_readSigned 50 = .ok (.aload_n 0, 1) := by decide +kernel
theorem dX3_readSigned_51 : decode cX3_readSigned 51 = .ok (.aload_n 1, 1) := by decide +kernel
theorem dX3_readSigned_52 : decode cX3_readSigned 52 = .ok (.iload_n 2, 1) := by decide +kernel
theorem dX3_readSigned_53 : decode cX3_readSigned 53 = .ok (.invokevirtual 88, 3) := by decide +kernel
theorem dX3_readSigned_56 : decode cX3_readSigned 56 = .ok (.iload_n 3, 1) := by decide +kernel
theorem dX3_readSigned_57 : decode cX3_readSigned 57 = .ok (.ifCond .eq 10, 3) := by decide +kernel
theorem dX3_readSigned_60 : decode cX3_readSigned 60 = .ok (.aload_n 0, 1) := by decide +kernel
theorem dX3_readSigned_61 : decode cX3_readSigned 61 = .ok (.sipush 2000, 3) := by decide +kernel
theorem dX3_readSigned_64 : decode cX3_readSigned 64 = .ok (.invokevirtual 78, 3) := by decide +kernel
theorem dX3_readSigned_67 : decode cX3_readSigned 67 = .ok (.return_, 1) := by decide +kernel
abbrev mX3_readThing_0_e0 : ByteArray := .mk #[0x2a, 0x2b, 0xb6, 0x00, 0x43, 0x3e, 0x1d, 0x02, 0xa0, 0x00, 0x07, 0x02, 0xa7, 0x00, 0x0a, 0x12, 0x5b, 0x1d, 0x92, 0xb6, 0x00, 0x5d, 0x36, 0x04, 0x2a, 0xb4, 0x00, 0x25, 0x02, 0x9f, 0x00, 0x04, 0xb1, 0x1d, 0xb8, 0x00, 0x62, 0x99, 0x00, 0x0b, 0x2a, 0x2b, 0xb6, 0x00, 0x66, 0xa7, 0x00, 0x4c, 0x15, 0x04, 0x9b, 0x00, 0x1a, 0x2a, 0x59, 0xb4, 0x00, 0x1f, 0x04, 0x60, 0xb5, 0x00, 0x1f, 0x2a, 0x11, 0x03, 0xe8, 0x15, 0x04, 0x60, 0xb6, 0x00]
theorem kmX3_readThing_0_e0 : CK cX3_readThing 0 mX3_readThing_0_e0 := ck_of (by decide +kernel)
theorem dX3_readThing_0 : decode cX3_readThing 0 = .ok (.aload_n 0, 1) := rd_chunk (k := 0) (i := 0) kmX3_readThing_0_e0 (by decide +kernel)
theorem dX3_readThing_1 : decode cX3_readThing 1 = .ok (.aload_n 1, 1) := rd_chunk (k := 0) (i := 1) kmX3_readThing_0_e0 (by decide +kernel)
theorem dX3_readThing_2 : decode cX3_readThing 2 = .ok (.invokevirtual 67, 3) := rd_chunk (k := 0) (i := 2) kmX3_readThing_0_e0 (by decide +kernel)
theorem dX3_readThing_5 : decode cX3_readThing 5 = .ok (.istore_n 3, 1) := rd_chunk (k := 0) (i := 5) kmX3_readThing_0_e0 (by decide +kernel)
theorem dX3_readThing_6 : decode cX3_readThing 6 = .ok (.iload_n 3, 1) := rd_chunk (k := 0) (i := 6) kmX3_readThing_0_e0 (by decide +kernel)
theorem dX3_readThing_7 : decode cX3_readThing 7 = .ok (.iconst (-1), 1) := rd_chunk (k := 0) (i := 7) kmX3_readThing_0_e0 (by decide +kernel)
theorem dX3_readThing_8 : decode cX3_readThing 8 = .ok (.if_icmp .ne 7, 3) := rd_chunk (k := 0) (i := 8) kmX3_readThing_0_e0 (by decide +kernel)
theorem dX3_readThing_11 : decode cX3_readThing 11 = .ok (.iconst (-1), 1) := rd_chunk (k := 0) (i := 11) kmX3_readThing_0_e0 (by decide +kernel)
theorem dX3_readThing_12 : decode cX3_readThing 12 = .ok (.goto 10, 3) := rd_chunk (k := 0) (i := 12) kmX3_readThing_0_e0 (by decide +kernel)
theorem dX3_readThing_15 : decode cX3_readThing 15 = .ok (.ldc 91, 2) := rd_chunk (k := 0) (i := 15) kmX3_readThing_0_e0 (by decide +kernel)
theorem dX3_readThing_17 : decode cX3_readThing 17 = .ok (.iload_n 3, 1) := rd_chunk (k := 0) (i := 17) kmX3_readThing_0_e0 (by decide +kernel)
theorem dX3_readThing_18 : decode cX3_readThing 18 = .ok (.i2c, 1) := rd_chunk (k := 0) (i := 18) kmX3_readThing_0_e0 (by decide +kernel)
theorem dX3_readThing_19 : decode cX3_readThing 19 = .ok (.invokevirtual 93, 3) := rd_chunk (k := 0) (i := 19) kmX3_readThing_0_e0 (by decide +kernel)
theorem dX3_readThing_22 : decode cX3_readThing 22 = .ok (.istore 4, 2) := rd_chunk (k := 0) (i := 22) kmX3_readThing_0_e0 (by decide +kernel)
theorem dX3_readThing_24 : decode cX3_readThing 24 = .ok (.aload_n 0, 1) := rd_chunk (k := 0) (i := 24) kmX3_readThing_0_e0 (by decide +kernel)
theorem dX3_readThing_25 : decode cX3_readThing 25 = .ok (.getfield 37, 3) := rd_chunk (k := 0) (i := 25) kmX3_readThing_0_e0 (by decide +kernel)
theorem dX3_readThing_28 : decode cX3_readThing 28 = .ok (.iconst (-1), 1) := rd_chunk (k := 0) (i := 28) kmX3_readThing_0_e0 (by decide +kernel)
theorem dX3_readThing_29 : decode cX3_readThing 29 = .ok (.if_icmp .eq 4, 3) := rd_chunk (k := 0) (i := 29) kmX3_readThing_0_e0 (by decide +kernel)
theorem dX3_readThing_32 : decode cX3_readThing 32 = .ok (.return_, 1) := rd_chunk (k := 0) (i := 32) kmX3_readThing_0_e0 (by decide +kernel)
theorem dX3_readThing_33 : decode cX3_readThing 33 = .ok (.iload_n 3, 1) := rd_chunk (k := 0) (i := 33) kmX3_readThing_0_e0 (by decide +kernel)
theorem dX3_readThing_34 : decode cX3_readThing 34 = .ok (.invokestatic 98, 3) := rd_chunk (k := 0) (i := 34) kmX3_readThing_0_e0 (by decide +kernel)
theorem dX3_readThing_37 : decode cX3_readThing 37 = .ok (.ifCond .eq 11, 3) := rd_chunk (k := 0) (i := 37) kmX3_readThing_0_e0 (by decide +kernel)
theorem dX3_readThing_40 : decode cX3_readThing 40 = .ok (.aload_n 0, 1) := rd_chunk (k := 0) (i := 40) kmX3_readThing_0_e0 (by decide +kernel)
theorem dX3_readThing_41 : decode cX3_readThing 41 = .ok (.aload_n 1, 1) := rd_chunk (k := 0) (i := 41) kmX3_readThing_0_e0 (by decide +kernel)
theorem dX3_readThing_42 : decode cX3_readThing 42 = .ok (.invokevirtual 102, 3) := rd_chunk (k := 0) (i := 42) kmX3_readThing_0_e0 (by decide +kernel)
theorem dX3_readThing_45 : decode cX3_readThing 45 = .ok (.goto 76, 3) := rd_chunk (k := 0) (i := 45) kmX3_readThing_0_e0 (by decide +kernel)
theorem dX3_readThing_48 : decode cX3_readThing 48 = .ok (.iload 4, 2) := rd_chunk (k := 0) (i := 48) kmX3_readThing_0_e0 (by decide +kernel)
theorem dX3_readThing_50 : decode cX3_readThing 50 = .ok (.ifCond .lt 26, 3) := rd_chunk (k := 0) (i := 50) kmX3_readThing_0_e0 (by decide +kernel)
theorem dX3_readThing_53 : decode cX3_readThing 53 = .ok (.aload_n 0, 1) := rd_chunk (k := 0) (i := 53) kmX3_readThing_0_e0 (by decide +kernel)
theorem dX3_readThing_54 : decode cX3_readThing 54 = .ok (.dup, 1) := rd_chunk (k := 0) (i := 54) kmX3_readThing_0_e0 (by decide +kernel)
theorem dX3_readThing_55 : decode cX3_readThing 55 = .ok (.getfield 31, 3) := rd_chunk (k := 0) (i := 55) kmX3_readThing_0_e0 (by decide +kernel)
theorem dX3_readThing_58 : decode cX3_readThing 58 = .ok (.iconst 1, 1) := rd_chunk (k := 0) (i := 58) kmX3_readThing_0_e0 (by decide +kernel)
theorem dX3_readThing_59 : decode cX3_readThing 59 = .ok (.iadd, 1) := rd_chunk (k := 0) (i := 59) kmX3_readThing_0_e0 (by decide +kernel)
theorem dX3_readThing_60 : decode cX3_readThing 60 = .ok (.putfield 31, 3) := rd_chunk (k := 0) (i := 60) kmX3_readThing_0_e0 (by decide +kernel)
theorem dX3_readThing_63 : decode cX3_readThing 63 = .ok (.aload_n 0, 1) := rd_chunk (k := 0) (i := 63) kmX3_readThing_0_e0 (by decide +kernel)
abbrev mX3_readThing_64_e0 : ByteArray := .mk #[0x11, 0x03, 0xe8, 0x15, 0x04, 0x60, 0xb6, 0x00, 0x4e, 0xa7, 0x00, 0x30, 0x1d, 0x10, 0x28, 0xa0, 0x00, 0x22, 0x1c, 0x07, 0xa2, 0x00, 0x1d, 0x2a, 0x59, 0xb4, 0x00, 0x1f, 0x04, 0x60, 0xb5, 0x00, 0x1f, 0x2a, 0x2b, 0x1c, 0x04, 0x60, 0xb6, 0x00, 0x35, 0x2a, 0x2b, 0xb6, 0x00, 0x6a, 0xa7, 0x00, 0x0b, 0x2a, 0x2a, 0xb4, 0x00, 0x1f, 0xb5, 0x00, 0x25, 0xb1]
theorem kmX3_readThing_64_e0 : CK cX3_readThing 64 mX3_readThing_64_e0 := ck_of (by decide +kernel)
theorem dX3_readThing_64 : decode cX3_readThing 64 = .ok (.sipush 1000, 3) := rd_chunk (k := 64) (i := 0) kmX3_readThing_64_e0 (by decide +kernel)
theorem dX3_readThing_67 : decode cX3_readThing 67 = .ok (.iload 4, 2) := rd_chunk (k := 64) (i := 3) kmX3_readThing_64_e0 (by decide +kernel)
theorem dX3_readThing_69 : decode cX3_readThing 69 = .ok (.iadd, 1) := rd_chunk (k := 64) (i := 5) kmX3_readThing_64_e0 (by decide +kernel)
theorem dX3_readThing_70 : decode cX3_readThing 70 = .ok (.invokevirtual 78, 3) := rd_chunk (k := 64) (i := 6) kmX3_readThing_64_e0 (by decide +kernel)
theorem dX3_readThing_73 : decode cX3_readThing 73 = .ok (.goto 48, 3) := rd_chunk (k := 64) (i := 9) kmX3_readThing_64_e0 (by decide +kernel)
theorem dX3_readThing_76 : decode cX3_readThing 76 = .ok (.iload_n 3, 1) := rd_chunk (k := 64) (i := 12) kmX3_readThing_64_e0 (by decide +kernel)
theorem dX3_readThing_77 : decode cX3_readThing 77 = .ok (.bipush 40, 2) := rd_chunk (k := 64) (i := 13) kmX3_readThing_64_e0 (by decide +kernel)
theorem dX3_readThing_79 : decode cX3_readThing 79 = .ok (.if_icmp .ne 34, 3) := rd_chunk (k := 64) (i := 15) kmX3_readThing_64_e0 (by decide +kernel)
theorem dX3_readThing_82 : decode cX3_readThing 82 = .ok (.iload_n 2, 1) := rd_chunk (k := 64) (i := 18) kmX3_readThing_64_e0 (by decide +kernel)
theorem dX3_readThing_83 : decode cX3_readThing 83 = .ok (.iconst 4, 1) := rd_chunk (k := 64) (i := 19) kmX3_readThing_64_e0 (by decide +kernel)
theorem dX3_readThing_84 : decode cX3_readThing 84 = .ok (.if_icmp .ge 29, 3) := rd_chunk (k := 64) (i := 20) kmX3_readThing_64_e0 (by decide +kernel)
theorem dX3_readThing_87 : decode cX3_readThing 87 = .ok (.aload_n 0, 1) := rd_chunk (k := 64) (i := 23) kmX3_readThing_64_e0 (by decide +kernel)
theorem dX3_readThing_88 : decode cX3_readThing 88 = .ok (.dup, 1) := rd_chunk (k := 64) (i := 24) kmX3_readThing_64_e0 (by decide +kernel)
theorem dX3_readThing_89 : decode cX3_readThing 89 = .ok (.getfield 31, 3) := rd_chunk (k := 64) (i := 25) kmX3_readThing_64_e0 (by decide +kernel)
theorem dX3_readThing_92 : decode cX3_readThing 92 = .ok (.iconst 1, 1) := rd_chunk (k := 64) (i := 28) kmX3_readThing_64_e0 (by decide +kernel)
theorem dX3_readThing_93 : decode cX3_readThing 93 = .ok (.iadd, 1) := rd_chunk (k := 64) (i := 29) kmX3_readThing_64_e0 (by decide +kernel)
theorem dX3_readThing_94 : decode cX3_readThing 94 = .ok (.putfield 31, 3) := rd_chunk (k := 64) (i := 30) kmX3_readThing_64_e0 (by decide +kernel)
theorem dX3_readThing_97 : decode cX3_readThing 97 = .ok (.aload_n 0, 1) := rd_chunk (k := 64) (i := 33) kmX3_readThing_64_e0 (by decide +kernel)
theorem dX3_readThing_98 : decode cX3_readThing 98 = .ok (.aload_n 1, 1) := rd_chunk (k := 64) (i := 34) kmX3_readThing_64_e0 (by decide +kernel)
theorem dX3_readThing_99 : decode cX3_readThing 99 = .ok (.iload_n 2, 1) := rd_chunk (k := 64) (i := 35) kmX3_readThing_64_e0 (by decide +kernel)
theorem dX3_readThing_100 : decode cX3_readThing 100 = .ok (.iconst 1, 1) := rd_chunk (k := 64) (i := 36) kmX3_readThing_64_e0 (by decide +kernel)
theorem dX3_readThing_101 : decode cX3_readThing 101 = .ok (.iadd, 1) := rd_chunk (k := 64) (i := 37) kmX3_readThing_64_e0 (by decide +kernel)
theorem dX3_readThing_102 : decode cX3_readThing 102 = .ok (.invokevirtual 53, 3) := rd_chunk (k := 64) (i := 38) kmX3_readThing_64_e0 (by decide +kernel)
theorem dX3_readThing_105 : decode cX3_readThing 105 = .ok (.aload_n 0, 1) := rd_chunk (k := 64) (i := 41) kmX3_readThing_64_e0 (by decide +kernel)
theorem dX3_readThing_106 : decode cX3_readThing 106 = .ok (.aload_n 1, 1) := rd_chunk (k := 64) (i := 42) kmX3_readThing_64_e0 (by decide +kernel)
theorem dX3_readThing_107 : decode cX3_readThing 107 = .ok (.invokevirtual 106, 3) := rd_chunk (k := 64) (i := 43) kmX3_readThing_64_e0 (by decide +kernel)
theorem dX3_readThing_110 : decode cX3_readThing 110 = .ok (.goto 11, 3) := rd_chunk (k := 64) (i := 46) kmX3_readThing_64_e0 (by decide +kernel)
theorem dX3_readThing_113 : decode cX3_readThing 113 = .ok (.aload_n 0, 1) := rd_chunk (k := 64) (i := 49) kmX3_readThing_64_e0 (by decide +kernel)
theorem dX3_readThing_114 : decode cX3_readThing 114 = .ok (.aload_n 0, 1) := rd_chunk (k := 64) (i := 50) kmX3_readThing_64_e0 (by decide +kernel)
theorem dX3_readThing_115 : decode cX3_readThing 115 = .ok (.getfield 31, 3) := rd_chunk (k := 64) (i := 51) kmX3_readThing_64_e0 (by decide +kernel)
theorem dX3_readThing_118 : decode cX3_readThing 118 = .ok (.putfield 37, 3) := rd_chunk (k := 64) (i := 54) kmX3_readThing_64_e0 (by decide +kernel)
theorem dX3_readThing_121 : decode cX3_readThing 121 = .ok (.return_, 1) := rd_chunk (k := 64) (i := 57) kmX3_readThing_64_e0 (by decide +kernel)
theorem dX3_readClosing_0 : decode cX3_readClosing 0 = .ok (.aload_n 0, 1) := by decide +kernel
theorem dX3_readClosing_1 : decode cX3_readClosing 1 = .ok (.aload_n 1, 1) := by decide +kernel
theorem dX3_readClosing_2 : decode cX3_readClosing 2 = .ok (.bipush 41, 2) := by decide +kernel
theorem dX3_readClosing_4 : decode cX3_readClosing 4 = .ok (.bipush 41, 2) := by decide +kernel
theorem dX3_readClosing_6 : decode cX3_readClosing 6 = .ok (.invokevirtual 74, 3) := by decide +kernel
theorem dX3_readClosing_9 : decode cX3_readClosing 9 = .ok (.ifCond .eq 16, 3) := by decide +kernel
theorem dX3_readClosing_12 : decode cX3_readClosing 12 = .ok (.aload_n 0, 1) := by decide +kernel
theorem dX3_readClosing_13 : decode cX3_readClosing 13 = .ok (.dup, 1) := by decide +kernel
theorem dX3_readClosing_14 : decode cX3_readClosing 14 = .ok (.getfield 31, 3) := by decide +kernel
theorem dX3_readClosing_17 : decode cX3_readClosing 17 = .ok (.iconst 1, 1) := by decide +kernel
theorem dX3_readClosing_18 : decode cX3_readClosing 18 = .ok (.iadd, 1) := by decide +kernel
theorem dX3_readClosing_19 : decode cX3_readClosing 19 = .ok (.putfield 31, 3) := by decide +kernel
theorem dX3_readClosing_22 : decode cX3_readClosing 22 = .ok (.goto 19, 3) := by decide +kernel
theorem dX3_readClosing_25 : decode cX3_readClosing 25 = .ok (.aload_n 0, 1) := by decide +kernel
theorem dX3_readClosing_26 : decode cX3_readClosing 26 = .ok (.getfield 37, 3) := by decide +kernel
theorem dX3_readClosing_29 : decode cX3_readClosing 29 = .ok (.iconst (-1), 1) := by decide +kernel
theorem dX3_readClosing_30 : decode cX3_readClosing 30 = .ok (.if_icmp .ne 11, 3) := by decide +kernel
theorem dX3_readClosing_33 : decode cX3_readClosing 33 = .ok (.aload_n 0, 1) := by decide +kernel
theorem dX3_readClosing_34 : decode cX3_readClosing 34 = .ok (.aload_n 0, 1) := by decide +kernel
theorem dX3_readClosing_35 : decode cX3_readClosing 35 = .ok (.getfield 31, 3) := by decide +kernel
theorem dX3_readClosing_38 : decode cX3_readClosing 38 = .ok (.putfield 37, 3) := by decide +kernel
theorem dX3_readClosing_41 : decode cX3_readClosing 41 = .ok (.return_, 1) := by decide +kernel
theorem dX3_readNumber_0 : decode cX3_readNumber 0 = .ok (.iconst 0, 1) := by decide +kernel
theorem dX3_readNumber_1 : decode cX3_readNumber 1 = .ok (.istore_n 2, 1) := by decide +kernel
theorem dX3_readNumber_2 : decode cX3_readNumber 2 = .ok (.iconst 0, 1) := by decide +kernel
theorem dX3_readNumber_3 : decode cX3_readNumber 3 = .ok (.istore_n 3, 1) := by decide +kernel
theorem dX3_readNumber_4 : decode cX3_readNumber 4 = .ok (.iload_n 3, 1) := by decide +kernel
theorem dX3_readNumber_5 : decode cX3_readNumber 5 = .ok (.iconst 3, 1) := by decide +kernel
theorem dX3_readNumber_6 : decode cX3_readNumber 6 = .ok (.if_icmp .ge 44, 3) := by decide +kernel
theorem dX3_readNumber_9 : decode cX3_readNumber 9 = .ok (.aload_n 0, 1) := by decide +kernel
theorem dX3_readNumber_10 : decode cX3_readNumber 10 = .ok (.aload_n 1, 1) := by decide +kernel
theorem dX3_readNumber_11 : decode cX3_readNumber 11 = .ok (.invokevirtual 67, 3) := by decide +kernel
theorem dX3_readNumber_14 : decode cX3_readNumber 14 = .ok (.invokestatic 98, 3) := by decide +kernel
theorem dX3_readNumber_17 : decode cX3_readNumber 17 = .ok (.ifCond .eq 33, 3) := by decide +kernel
theorem dX3_readNumber_20 : decode cX3_readNumber 20 = .ok (.iload_n 2, 1) := by decide +kernel
theorem dX3_readNumber_21 : decode cX3_readNumber 21 = .ok (.bipush 10, 2) := by decide +kernel
theorem dX3_readNumber_23 : decode cX3_readNumber 23 = .ok (.imul, 1) := by decide +kernel
theorem dX3_readNumber_24 : decode cX3_readNumber 24 = .ok (.aload_n 0, 1) := by decide +kernel
theorem dX3_readNumber_25 : decode cX3_readNumber 25 = .ok (.aload_n 1, 1) := by decide +kernel
theorem dX3_readNumber_26 : decode cX3_readNumber 26 = .ok (.invokevirtual 67, 3) := by decide +kernel
theorem dX3_readNumber_29 : decode cX3_readNumber 29 = .ok (.iadd, 1) := by decide +kernel
theorem dX3_readNumber_30 : decode cX3_readNumber 30 = .ok (.bipush 48, 2) := by decide +kernel
theorem dX3_readNumber_32 : decode cX3_readNumber 32 = .ok (.isub, 1) := by decide +kernel
theorem dX3_readNumber_33 : decode cX3_readNumber 33 = .ok (.istore_n 2, 1) := by decide +kernel
theorem dX3_readNumber_34 : decode cX3_readNumber 34 = .ok (.aload_n 0, 1) := by decide +kernel
theorem dX3_readNumber_35 : decode cX3_readNumber 35 = .ok (.dup, 1) := by decide +kernel
theorem dX3_readNumber_36 : decode cX3_readNumber 36 = .ok (.getfield 31, 3) := by decide +kernel
theorem dX3_readNumber_39 : decode cX3_readNumber 39 = .ok (.iconst 1, 1) := by decide +kernel
theorem dX3_readNumber_40 : decode cX3_readNumber 40 = .ok (.iadd, 1) := by decide +kernel
theorem dX3_readNumber_41 : decode cX3_readNumber 41 = .ok (.putfield 31, 3) := by decide +kernel
theorem dX3_readNumber_44 : decode cX3_readNumber 44 = .ok (.iinc 3 1, 3) := by decide +kernel
theorem dX3_readNumber_47 : decode cX3_readNumber 47 = .ok (.goto (-43), 3) := by decide +kernel
theorem dX3_readNumber_50 : decode cX3_readNumber 50 = .ok (.aload_n 0, 1) := by decide +kernel
theorem dX3_readNumber_51 : decode cX3_readNumber 51 = .ok (.iload_n 2, 1) := by decide +kernel
theorem dX3_readNumber_52 : decode cX3_readNumber 52 = .ok (.invokevirtual 78, 3) := by decide +kernel
theorem dX3_readNumber_55 : decode cX3_readNumber 55 = .ok (.return_, 1) := by decide +kernel
abbrev mX3_priceFor_0_e0 : ByteArray := .mk #[0x03, 0x3d, 0x03, 0x3e, 0x1d, 0x2a, 0xb4, 0x00, 0x15, 0xa2, 0x00, 0x93, 0x1d, 0x10, 0x28, 0xa2, 0x00, 0x8d, 0x2a, 0xb4, 0x00, 0x0b, 0x1d, 0x2e, 0x36, 0x04, 0x15, 0x04, 0x11, 0x07, 0xd0, 0xa2, 0x00, 0x30, 0x15, 0x04, 0x11, 0x03, 0xe8, 0x64, 0x36, 0x05, 0x2a, 0xb4, 0x00, 0x12, 0x1c, 0x15, 0x05, 0x9c, 0x00, 0x08, 0x15, 0x04, 0xa7, 0x00, 0x12, 0x15, 0x05, 0x2b, 0xbe, 0xa2, 0x00, 0x0a, 0x2b, 0x15, 0x05, 0x2e, 0xa7, 0x00, 0x04, 0x03]
theorem kmX3_priceFor_0_e0 : CK cX3_priceFor 0 mX3_priceFor_0_e0 := ck_of (by decide +kernel)
theorem dX3_priceFor_0 : decode cX3_priceFor 0 = .ok (.iconst 0, 1) := rd_chunk (k := 0) (i := 0) kmX3_priceFor_0_e0 (by decide +kernel)
theorem dX3_priceFor_1 : decode cX3_priceFor 1 = .ok (.istore_n 2, 1) := rd_chunk (k := 0) (i := 1) kmX3_priceFor_0_e0 (by decide +kernel)
theorem dX3_priceFor_2 : decode cX3_priceFor 2 = .ok (.iconst 0, 1) := rd_chunk (k := 0) (i := 2) kmX3_priceFor_0_e0 (by decide +kernel)
theorem dX3_priceFor_3 : decode cX3_priceFor 3 = .ok (.istore_n 3, 1) := rd_chunk (k := 0) (i := 3) kmX3_priceFor_0_e0 (by decide +kernel)
theorem dX3_priceFor_4 : decode cX3_priceFor 4 = .ok (.iload_n 3, 1) := rd_chunk (k := 0) (i := 4) kmX3_priceFor_0_e0 (by decide +kernel)
theorem dX3_priceFor_5 : decode cX3_priceFor 5 = .ok (.aload_n 0, 1) := rd_chunk (k := 0) (i := 5) kmX3_priceFor_0_e0 (by decide +kernel)
theorem dX3_priceFor_6 : decode cX3_priceFor 6 = .ok (.getfield 21, 3) := rd_chunk (k := 0) (i := 6) kmX3_priceFor_0_e0 (by decide +kernel)
theorem dX3_priceFor_9 : decode cX3_priceFor 9 = .ok (.if_icmp .ge 147, 3) := rd_chunk (k := 0) (i := 9) kmX3_priceFor_0_e0 (by decide +kernel)
theorem dX3_priceFor_12 : decode cX3_priceFor 12 = .ok (.iload_n 3, 1) := rd_chunk (k := 0) (i := 12) kmX3_priceFor_0_e0 (by decide +kernel)
theorem dX3_priceFor_13 : decode cX3_priceFor 13 = .ok (.bipush 40, 2) := rd_chunk (k := 0) (i := 13) kmX3_priceFor_0_e0 (by decide +kernel)
theorem dX3_priceFor_15 : decode cX3_priceFor 15 = .ok (.if_icmp .ge 141, 3) := rd_chunk (k := 0) (i := 15) kmX3_priceFor_0_e0 (by decide +kernel)
theorem dX3_priceFor_18 : decode cX3_priceFor 18 = .ok (.aload_n 0, 1) := rd_chunk (k := 0) (i := 18) kmX3_priceFor_0_e0 (by decide +kernel)
theorem dX3_priceFor_19 : decode cX3_priceFor 19 = .ok (.getfield 11, 3) := rd_chunk (k := 0) (i := 19) kmX3_priceFor_0_e0 (by decide +kernel)
theorem dX3_priceFor_22 : decode cX3_priceFor 22 = .ok (.iload_n 3, 1) := rd_chunk (k := 0) (i := 22) kmX3_priceFor_0_e0 (by decide +kernel)
theorem dX3_priceFor_23 : decode cX3_priceFor 23 = .ok (.iaload, 1) := rd_chunk (k := 0) (i := 23) kmX3_priceFor_0_e0 (by decide +kernel)
theorem dX3_priceFor_24 : decode cX3_priceFor 24 = .ok (.istore 4, 2) := rd_chunk (k := 0) (i := 24) kmX3_priceFor_0_e0 (by decide +kernel)
theorem dX3_priceFor_26 : decode cX3_priceFor 26 = .ok (.iload 4, 2) := rd_chunk (k := 0) (i := 26) kmX3_priceFor_0_e0 (by decide +kernel)
theorem dX3_priceFor_28 : decode cX3_priceFor 28 = .ok (.sipush 2000, 3) := rd_chunk (k := 0) (i := 28) kmX3_priceFor_0_e0 (by decide +kernel)
theorem dX3_priceFor_31 : decode cX3_priceFor 31 = .ok (.if_icmp .ge 48, 3) := rd_chunk (k := 0) (i := 31) kmX3_priceFor_0_e0 (by decide +kernel)
theorem dX3_priceFor_34 : decode cX3_priceFor 34 = .ok (.iload 4, 2) := rd_chunk (k := 0) (i := 34) kmX3_priceFor_0_e0 (by decide +kernel)
theorem dX3_priceFor_36 : decode cX3_priceFor 36 = .ok (.sipush 1000, 3) := rd_chunk (k := 0) (i := 36) kmX3_priceFor_0_e0 (by decide +kernel)
theorem dX3_priceFor_39 : decode cX3_priceFor 39 = .ok (.isub, 1) := rd_chunk (k := 0) (i := 39) kmX3_priceFor_0_e0 (by decide +kernel)
theorem dX3_priceFor_40 : decode cX3_priceFor 40 = .ok (.istore 5, 2) := rd_chunk (k := 0) (i := 40) kmX3_priceFor_0_e0 (by decide +kernel)
theorem dX3_priceFor_42 : decode cX3_priceFor 42 = .ok (.aload_n 0, 1) := rd_chunk (k := 0) (i := 42) kmX3_priceFor_0_e0 (by decide +kernel)
theorem dX3_priceFor_43 : decode cX3_priceFor 43 = .ok (.getfield 18, 3) := rd_chunk (k := 0) (i := 43) kmX3_priceFor_0_e0 (by decide +kernel)
theorem dX3_priceFor_46 : decode cX3_priceFor 46 = .ok (.iload_n 2, 1) := rd_chunk (k := 0) (i := 46) kmX3_priceFor_0_e0 (by decide +kernel)
theorem dX3_priceFor_47 : decode cX3_priceFor 47 = .ok (.iload 5, 2) := rd_chunk (k := 0) (i := 47) kmX3_priceFor_0_e0 (by decide +kernel)
theorem dX3_priceFor_49 : decode cX3_priceFor 49 = .ok (.ifCond .ge 8, 3) := rd_chunk (k := 0) (i := 49) kmX3_priceFor_0_e0 (by decide +kernel)
theorem dX3_priceFor_52 : decode cX3_priceFor 52 = .ok (.iload 4, 2) := rd_chunk (k := 0) (i := 52) kmX3_priceFor_0_e0 (by decide +kernel)
theorem dX3_priceFor_54 : decode cX3_priceFor 54 = .ok (.goto 18, 3) := rd_chunk (k := 0) (i := 54) kmX3_priceFor_0_e0 (by decide +kernel)
theorem dX3_priceFor_57 : decode cX3_priceFor 57 = .ok (.iload 5, 2) := rd_chunk (k := 0) (i := 57) kmX3_priceFor_0_e0 (by decide +kernel)
theorem dX3_priceFor_59 : decode cX3_priceFor 59 = .ok (.aload_n 1, 1) := rd_chunk (k := 0) (i := 59) kmX3_priceFor_0_e0 (by decide +kernel)
theorem dX3_priceFor_60 : decode cX3_priceFor 60 = .ok (.arraylength, 1) := rd_chunk (k := 0) (i := 60) kmX3_priceFor_0_e0 (by decide +kernel)
theorem dX3_priceFor_61 : decode cX3_priceFor 61 = .ok (.if_icmp .ge 10, 3) := rd_chunk (k := 0) (i := 61) kmX3_priceFor_0_e0 (by decide +kernel)
abbrev mX3_priceFor_64_e0 : ByteArray := .mk #[0x2b, 0x15, 0x05, 0x2e, 0xa7, 0x00, 0x04, 0x03, 0x4f, 0x84, 0x02, 0x01, 0xa7, 0x00, 0x4a, 0x15, 0x04, 0x11, 0x07, 0xd0, 0xa0, 0x00, 0x1b, 0x1c, 0x9e, 0x00, 0x17, 0x2a, 0xb4, 0x00, 0x12, 0x1c, 0x04, 0x64, 0x2a, 0xb4, 0x00, 0x12, 0x1c, 0x04, 0x64, 0x2e, 0x74, 0x4f, 0xa7, 0x00, 0x2a, 0x1c, 0x04, 0xa4, 0x00, 0x25, 0x84, 0x02, 0xff, 0x2a, 0xb4, 0x00, 0x12, 0x1c, 0x04, 0x64, 0x15, 0x04, 0x11, 0x07, 0xd0, 0x64, 0x2a, 0xb4, 0x00, 0x12]
theorem kmX3_priceFor_64_e0 : CK cX3_priceFor 64 mX3_priceFor_64_e0 := ck_of (by decide +kernel)
theorem dX3_priceFor_64 : decode cX3_priceFor 64 = .ok (.aload_n 1, 1) := rd_chunk (k := 64) (i := 0) kmX3_priceFor_64_e0 (by decide +kernel)
theorem dX3_priceFor_65 : decode cX3_priceFor 65 = .ok (.iload 5, 2) := rd_chunk (k := 64) (i := 1) kmX3_priceFor_64_e0 (by decide +kernel)
theorem dX3_priceFor_67 : decode cX3_priceFor 67 = .ok (.iaload, 1) := rd_chunk (k := 64) (i := 3) kmX3_priceFor_64_e0 (by decide +kernel)
theorem dX3_priceFor_68 : decode cX3_priceFor 68 = .ok (.goto 4, 3) := rd_chunk (k := 64) (i := 4) kmX3_priceFor_64_e0 (by decide +kernel)
theorem dX3_priceFor_71 : decode cX3_priceFor 71 = .ok (.iconst 0, 1) := rd_chunk (k := 64) (i := 7) kmX3_priceFor_64_e0 (by decide +kernel)
theorem dX3_priceFor_72 : decode cX3_priceFor 72 = .ok (.iastore, 1) := rd_chunk (k := 64) (i := 8) kmX3_priceFor_64_e0 (by decide +kernel)
theorem dX3_priceFor_73 : decode cX3_priceFor 73 = .ok (.iinc 2 1, 3) := rd_chunk (k := 64) (i := 9) kmX3_priceFor_64_e0 (by decide +kernel)
theorem dX3_priceFor_76 : decode cX3_priceFor 76 = .ok (.goto 74, 3) := rd_chunk (k := 64) (i := 12) kmX3_priceFor_64_e0 (by decide +kernel)
theorem dX3_priceFor_79 : decode cX3_priceFor 79 = .ok (.iload 4, 2) := rd_chunk (k := 64) (i := 15) kmX3_priceFor_64_e0 (by decide +kernel)
theorem dX3_priceFor_81 : decode cX3_priceFor 81 = .ok (.sipush 2000, 3) := rd_chunk (k := 64) (i := 17) kmX3_priceFor_64_e0 (by decide +kernel)
theorem dX3_priceFor_84 : decode cX3_priceFor 84 = .ok (.if_icmp .ne 27, 3) := rd_chunk (k := 64) (i := 20) kmX3_priceFor_64_e0 (by decide +kernel)
theorem dX3_priceFor_87 : decode cX3_priceFor 87 = .ok (.iload_n 2, 1) := rd_chunk (k := 64) (i := 23) kmX3_priceFor_64_e0 (by decide +kernel)
theorem dX3_priceFor_88 : decode cX3_priceFor 88 = .ok (.ifCond .le 23, 3) := rd_chunk (k := 64) (i := 24) kmX3_priceFor_64_e0 (by decide +kernel)
theorem dX3_priceFor_91 : decode cX3_priceFor 91 = .ok (.aload_n 0, 1) := rd_chunk (k := 64) (i := 27) kmX3_priceFor_64_e0 (by decide +kernel)
theorem dX3_priceFor_92 : decode cX3_priceFor 92 = .ok (.getfield 18, 3) := rd_chunk (k := 64) (i := 28) kmX3_priceFor_64_e0 (by decide +kernel)
theorem dX3_priceFor_95 : decode cX3_priceFor 95 = .ok (.iload_n 2, 1) := rd_chunk (k := 64) (i := 31) kmX3_priceFor_64_e0 (by decide +kernel)
theorem dX3_priceFor_96 : decode cX3_priceFor 96 = .ok (.iconst 1, 1) := rd_chunk (k := 64) (i := 32) kmX3_priceFor_64_e0 (by decide +kernel)
theorem dX3_priceFor_97 : decode cX3_priceFor 97 = .ok (.isub, 1) := rd_chunk (k := 64) (i := 33) kmX3_priceFor_64_e0 (by decide +kernel)
theorem dX3_priceFor_98 : decode cX3_priceFor 98 = .ok (.aload_n 0, 1) := rd_chunk (k := 64) (i := 34) kmX3_priceFor_64_e0 (by decide +kernel)
theorem dX3_priceFor_99 : decode cX3_priceFor 99 = .ok (.getfield 18, 3) := rd_chunk (k := 64) (i := 35) kmX3_priceFor_64_e0 (by decide +kernel)
theorem dX3_priceFor_102 : decode cX3_priceFor 102 = .ok (.iload_n 2, 1) := rd_chunk (k := 64) (i := 38) kmX3_priceFor_64_e0 (by decide +kernel)
theorem dX3_priceFor_103 : decode cX3_priceFor 103 = .ok (.iconst 1, 1) := rd_chunk (k := 64) (i := 39) kmX3_priceFor_64_e0 (by decide +kernel)
theorem dX3_priceFor_104 : decode cX3_priceFor 104 = .ok (.isub, 1) := rd_chunk (k := 64) (i := 40) kmX3_priceFor_64_e0 (by decide +kernel)
theorem dX3_priceFor_105 : decode cX3_priceFor 105 = .ok (.iaload, 1) := rd_chunk (k := 64) (i := 41) kmX3_priceFor_64_e0 (by decide +kernel)
theorem dX3_priceFor_106 : decode cX3_priceFor 106 = .ok (.ineg, 1) := rd_chunk (k := 64) (i := 42) kmX3_priceFor_64_e0 (by decide +kernel)
theorem dX3_priceFor_107 : decode cX3_priceFor 107 = .ok (.iastore, 1) := rd_chunk (k := 64) (i := 43) kmX3_priceFor_64_e0 (by decide +kernel)
theorem dX3_priceFor_108 : decode cX3_priceFor 108 = .ok (.goto 42, 3) := rd_chunk (k := 64) (i := 44) kmX3_priceFor_64_e0 (by decide +kernel)
theorem dX3_priceFor_111 : decode cX3_priceFor 111 = .ok (.iload_n 2, 1) := rd_chunk (k := 64) (i := 47) kmX3_priceFor_64_e0 (by decide +kernel)
theorem dX3_priceFor_112 : decode cX3_priceFor 112 = .ok (.iconst 1, 1) := rd_chunk (k := 64) (i := 48) kmX3_priceFor_64_e0 (by decide +kernel)
theorem dX3_priceFor_113 : decode cX3_priceFor 113 = .ok (.if_icmp .le 37, 3) := rd_chunk (k := 64) (i := 49) kmX3_priceFor_64_e0 (by decide +kernel)
theorem dX3_priceFor_116 : decode cX3_priceFor 116 = .ok (.iinc 2 (-1), 3) := rd_chunk (k := 64) (i := 52) kmX3_priceFor_64_e0 (by decide +kernel)
theorem dX3_priceFor_119 : decode cX3_priceFor 119 = .ok (.aload_n 0, 1) := rd_chunk (k := 64) (i := 55) kmX3_priceFor_64_e0 (by decide +kernel)
theorem dX3_priceFor_120 : decode cX3_priceFor 120 = .ok (.getfield 18, 3) := rd_chunk (k := 64) (i := 56) kmX3_priceFor_64_e0 (by decide +kernel)
theorem dX3_priceFor_123 : decode cX3_priceFor 123 = .ok (.iload_n 2, 1) := rd_chunk (k := 64) (i := 59) kmX3_priceFor_64_e0 (by decide +kernel)
theorem dX3_priceFor_124 : decode cX3_priceFor 124 = .ok (.iconst 1, 1) := rd_chunk (k := 64) (i := 60) kmX3_priceFor_64_e0 (by decide +kernel)
theorem dX3_priceFor_125 : decode cX3_priceFor 125 = .ok (.isub, 1) := rd_chunk (k := 64) (i := 61) kmX3_priceFor_64_e0 (by decide +kernel)
theorem dX3_priceFor_126 : decode cX3_priceFor 126 = .ok (.iload 4, 2) := rd_chunk (k := 64) (i := 62) kmX3_priceFor_64_e0 (by decide +kernel)
abbrev mX3_priceFor_128_e0 : ByteArray := .mk #[0x11, 0x07, 0xd0, 0x64, 0x2a, 0xb4, 0x00, 0x12, 0x1c, 0x04, 0x64, 0x2e, 0x2a, 0xb4, 0x00, 0x12, 0x1c, 0x2e, 0xb8, 0x00, 0x6d, 0x4f, 0x84, 0x03, 0x01, 0xa7, 0xff, 0x6b, 0x1c, 0x9a, 0x00, 0x07, 0x03, 0xa7, 0x00, 0x14, 0x03, 0x10, 0x63, 0x2a, 0xb4, 0x00, 0x12, 0x1c, 0x04, 0x64, 0x2e, 0xb8, 0x00, 0x2f, 0xb8, 0x00, 0x71, 0xac]
theorem kmX3_priceFor_128_e0 : CK cX3_priceFor 128 mX3_priceFor_128_e0 := ck_of (by decide +kernel)
theorem dX3_priceFor_128 : decode cX3_priceFor 128 = .ok (.sipush 2000, 3) := rd_chunk (k := 128) (i := 0) kmX3_priceFor_128_e0 (by decide +kernel)
theorem dX3_priceFor_131 : decode cX3_priceFor 131 = .ok (.isub, 1) := rd_chunk (k := 128) (i := 3) kmX3_priceFor_128_e0 (by decide +kernel)
theorem dX3_priceFor_132 : decode cX3_priceFor 132 = .ok (.aload_n 0, 1) := rd_chunk (k := 128) (i := 4) kmX3_priceFor_128_e0 (by decide +kernel)
theorem dX3_priceFor_133 : decode cX3_priceFor 133 = .ok (.getfield 18, 3) := rd_chunk (k := 128) (i := 5) kmX3_priceFor_128_e0 (by decide +kernel)
theorem dX3_priceFor_136 : decode cX3_priceFor 136 = .ok (.iload_n 2, 1) := rd_chunk (k := 128) (i := 8) kmX3_priceFor_128_e0 (by decide +kernel)
theorem dX3_priceFor_137 : decode cX3_priceFor 137 = .ok (.iconst 1, 1) := rd_chunk (k := 128) (i := 9) kmX3_priceFor_128_e0 (by decide +kernel)
theorem dX3_priceFor_138 : decode cX3_priceFor 138 = .ok (.isub, 1) := rd_chunk (k := 128) (i := 10) kmX3_priceFor_128_e0 (by decide +kernel)
theorem dX3_priceFor_139 : decode cX3_priceFor 139 = .ok (.iaload, 1) := rd_chunk (k := 128) (i := 11) kmX3_priceFor_128_e0 (by decide +kernel)
theorem dX3_priceFor_140 : decode cX3_priceFor 140 = .ok (.aload_n 0, 1) := rd_chunk (k := 128) (i := 12) kmX3_priceFor_128_e0 (by decide +kernel)
theorem dX3_priceFor_141 : decode cX3_priceFor 141 = .ok (.getfield 18, 3) := rd_chunk (k := 128) (i := 13) kmX3_priceFor_128_e0 (by decide +kernel)
theorem dX3_priceFor_144 : decode cX3_priceFor 144 = .ok (.iload_n 2, 1) := rd_chunk (k := 128) (i := 16) kmX3_priceFor_128_e0 (by decide +kernel)
theorem dX3_priceFor_145 : decode cX3_priceFor 145 = .ok (.iaload, 1) := rd_chunk (k := 128) (i := 17) kmX3_priceFor_128_e0 (by decide +kernel)
theorem dX3_priceFor_146 : decode cX3_priceFor 146 = .ok (.invokestatic 109, 3) := rd_chunk (k := 128) (i := 18) kmX3_priceFor_128_e0 (by decide +kernel)
theorem dX3_priceFor_149 : decode cX3_priceFor 149 = .ok (.iastore, 1) := rd_chunk (k := 128) (i := 21) kmX3_priceFor_128_e0 (by decide +kernel)
theorem dX3_priceFor_150 : decode cX3_priceFor 150 = .ok (.iinc 3 1, 3) := rd_chunk (k := 128) (i := 22) kmX3_priceFor_128_e0 (by decide +kernel)
theorem dX3_priceFor_153 : decode cX3_priceFor 153 = .ok (.goto (-149), 3) := rd_chunk (k := 128) (i := 25) kmX3_priceFor_128_e0 (by decide +kernel)
theorem dX3_priceFor_156 : decode cX3_priceFor 156 = .ok (.iload_n 2, 1) := rd_chunk (k := 128) (i := 28) kmX3_priceFor_128_e0 (by decide +kernel)
theorem dX3_priceFor_157 : decode cX3_priceFor 157 = .ok (.ifCond .ne 7, 3) := rd_chunk (k := 128) (i := 29) kmX3_priceFor_128_e0 (by decide +kernel)
theorem dX3_priceFor_160 : decode cX3_priceFor 160 = .ok (.iconst 0, 1) := rd_chunk (k := 128) (i := 32) kmX3_priceFor_128_e0 (by decide +kernel)
theorem dX3_priceFor_161 : decode cX3_priceFor 161 = .ok (.goto 20, 3) := rd_chunk (k := 128) (i := 33) kmX3_priceFor_128_e0 (by decide +kernel)
theorem dX3_priceFor_164 : decode cX3_priceFor 164 = .ok (.iconst 0, 1) := rd_chunk (k := 128) (i := 36) kmX3_priceFor_128_e0 (by decide +kernel)
theorem dX3_priceFor_165 : decode cX3_priceFor 165 = .ok (.bipush 99, 2) := rd_chunk (k := 128) (i := 37) kmX3_priceFor_128_e0 (by decide +kernel)
theorem dX3_priceFor_167 : decode cX3_priceFor 167 = .ok (.aload_n 0, 1) := rd_chunk (k := 128) (i := 39) kmX3_priceFor_128_e0 (by decide +kernel)
theorem dX3_priceFor_168 : decode cX3_priceFor 168 = .ok (.getfield 18, 3) := rd_chunk (k := 128) (i := 40) kmX3_priceFor_128_e0 (by decide +kernel)
theorem dX3_priceFor_171 : decode cX3_priceFor 171 = .ok (.iload_n 2, 1) := rd_chunk (k := 128) (i := 43) kmX3_priceFor_128_e0 (by decide +kernel)
theorem dX3_priceFor_172 : decode cX3_priceFor 172 = .ok (.iconst 1, 1) := rd_chunk (k := 128) (i := 44) kmX3_priceFor_128_e0 (by decide +kernel)
theorem dX3_priceFor_173 : decode cX3_priceFor 173 = .ok (.isub, 1) := rd_chunk (k := 128) (i := 45) kmX3_priceFor_128_e0 (by decide +kernel)
theorem dX3_priceFor_174 : decode cX3_priceFor 174 = .ok (.iaload, 1) := rd_chunk (k := 128) (i := 46) kmX3_priceFor_128_e0 (by decide +kernel)
theorem dX3_priceFor_175 : decode cX3_priceFor 175 = .ok (.invokestatic 47, 3) := rd_chunk (k := 128) (i := 47) kmX3_priceFor_128_e0 (by decide +kernel)
theorem dX3_priceFor_178 : decode cX3_priceFor 178 = .ok (.invokestatic 113, 3) := rd_chunk (k := 128) (i := 50) kmX3_priceFor_128_e0 (by decide +kernel)
theorem dX3_priceFor_181 : decode cX3_priceFor 181 = .ok (.ireturn, 1) := rd_chunk (k := 128) (i := 53) kmX3_priceFor_128_e0 (by decide +kernel)
abbrev mX3_join_0_e0 : ByteArray := .mk #[0x1a, 0xab, 0x00, 0x00, 0x00, 0x00, 0x00, 0x68, 0x00, 0x00, 0x00, 0x06, 0x00, 0x00, 0x00, 0x2a, 0x00, 0x00, 0x00, 0x64, 0x00, 0x00, 0x00, 0x2b, 0x00, 0x00, 0x00, 0x5c, 0x00, 0x00, 0x00, 0x2d, 0x00, 0x00, 0x00, 0x60, 0x00, 0x00, 0x00, 0x3c, 0x00, 0x00, 0x00, 0x3b, 0x00, 0x00, 0x00, 0x3d, 0x00, 0x00, 0x00, 0x51, 0x00, 0x00, 0x00, 0x3e, 0x00, 0x00, 0x00, 0x46, 0x1b, 0x1c, 0xa2, 0x00, 0x07, 0x04, 0xa7, 0x00, 0x04, 0x03, 0xac, 0x1b]
theorem kmX3_join_0_e0 : CK cX3_join 0 mX3_join_0_e0 := ck_of (by decide +kernel)
theorem dX3_join_0 : decode cX3_join 0 = .ok (.iload_n 0, 1) := rd_chunk (k := 0) (i := 0) kmX3_join_0_e0 (by decide +kernel)
theorem dX3_join_1 : decode cX3_join 1 = .ok (.lookupswitch 104 #[(42, 100), (43, 92), (45, 96), (60, 59), (61, 81), (62, 70)], 59) := by decide +kernel
theorem dX3_join_60 : decode cX3_join 60 = .ok (.iload_n 1, 1) := rd_chunk (k := 0) (i := 60) kmX3_join_0_e0 (by decide +kernel)
theorem dX3_join_61 : decode cX3_join 61 = .ok (.iload_n 2, 1) := rd_chunk (k := 0) (i := 61) kmX3_join_0_e0 (by decide +kernel)
theorem dX3_join_62 : decode cX3_join 62 = .ok (.if_icmp .ge 7, 3) := rd_chunk (k := 0) (i := 62) kmX3_join_0_e0 (by decide +kernel)
abbrev mX3_join_64_e0 : ByteArray := .mk #[0x07, 0x04, 0xa7, 0x00, 0x04, 0x03, 0xac, 0x1b, 0x1c, 0xa4, 0x00, 0x07, 0x04, 0xa7, 0x00, 0x04, 0x03, 0xac, 0x1b, 0x1c, 0xa0, 0x00, 0x07, 0x04, 0xa7, 0x00, 0x04, 0x03, 0xac, 0x1b, 0x1c, 0x60, 0xac, 0x1b, 0x1c, 0x64, 0xac, 0x1b, 0x1c, 0x68, 0xac, 0x1c, 0x9a, 0x00, 0x07, 0x03, 0xa7, 0x00, 0x06, 0x1b, 0x1c, 0x6c, 0xac]
theorem kmX3_join_64_e0 : CK cX3_join 64 mX3_join_64_e0 := ck_of (by decide +kernel)
theorem dX3_join_65 : decode cX3_join 65 = .ok (.iconst 1, 1) := rd_chunk (k := 64) (i := 1) kmX3_join_64_e0 (by decide +kernel)
theorem dX3_join_66 : decode cX3_join 66 = .ok (.goto 4, 3) := rd_chunk (k := 64) (i := 2) kmX3_join_64_e0 (by decide +kernel)
theorem dX3_join_69 : decode cX3_join 69 = .ok (.iconst 0, 1) := rd_chunk (k := 64) (i := 5) kmX3_join_64_e0 (by decide +kernel)
theorem dX3_join_70 : decode cX3_join 70 = .ok (.ireturn, 1) := rd_chunk (k := 64) (i := 6) kmX3_join_64_e0 (by decide +kernel)
theorem dX3_join_71 : decode cX3_join 71 = .ok (.iload_n 1, 1) := rd_chunk (k := 64) (i := 7) kmX3_join_64_e0 (by decide +kernel)
theorem dX3_join_72 : decode cX3_join 72 = .ok (.iload_n 2, 1) := rd_chunk (k := 64) (i := 8) kmX3_join_64_e0 (by decide +kernel)
theorem dX3_join_73 : decode cX3_join 73 = .ok (.if_icmp .le 7, 3) := rd_chunk (k := 64) (i := 9) kmX3_join_64_e0 (by decide +kernel)
theorem dX3_join_76 : decode cX3_join 76 = .ok (.iconst 1, 1) := rd_chunk (k := 64) (i := 12) kmX3_join_64_e0 (by decide +kernel)
theorem dX3_join_77 : decode cX3_join 77 = .ok (.goto 4, 3) := rd_chunk (k := 64) (i := 13) kmX3_join_64_e0 (by decide +kernel)
theorem dX3_join_80 : decode cX3_join 80 = .ok (.iconst 0, 1) := rd_chunk (k := 64) (i := 16) kmX3_join_64_e0 (by decide +kernel)
theorem dX3_join_81 : decode cX3_join 81 = .ok (.ireturn, 1) := rd_chunk (k := 64) (i := 17) kmX3_join_64_e0 (by decide +kernel)
theorem dX3_join_82 : decode cX3_join 82 = .ok (.iload_n 1, 1) := rd_chunk (k := 64) (i := 18) kmX3_join_64_e0 (by decide +kernel)
theorem dX3_join_83 : decode cX3_join 83 = .ok (.iload_n 2, 1) := rd_chunk (k := 64) (i := 19) kmX3_join_64_e0 (by decide +kernel)
theorem dX3_join_84 : decode cX3_join 84 = .ok (.if_icmp .ne 7, 3) := rd_chunk (k := 64) (i := 20) kmX3_join_64_e0 (by decide +kernel)
theorem dX3_join_87 : decode cX3_join 87 = .ok (.iconst 1, 1) := rd_chunk (k := 64) (i := 23) kmX3_join_64_e0 (by decide +kernel)
theorem dX3_join_88 : decode cX3_join 88 = .ok (.goto 4, 3) := rd_chunk (k := 64) (i := 24) kmX3_join_64_e0 (by decide +kernel)
theorem dX3_join_91 : decode cX3_join 91 = .ok (.iconst 0, 1) := rd_chunk (k := 64) (i := 27) kmX3_join_64_e0 (by decide +kernel)
theorem dX3_join_92 : decode cX3_join 92 = .ok (.ireturn, 1) := rd_chunk (k := 64) (i := 28) kmX3_join_64_e0 (by decide +kernel)
theorem dX3_join_93 : decode cX3_join 93 = .ok (.iload_n 1, 1) := rd_chunk (k := 64) (i := 29) kmX3_join_64_e0 (by decide +kernel)
theorem dX3_join_94 : decode cX3_join 94 = .ok (.iload_n 2, 1) := rd_chunk (k := 64) (i := 30) kmX3_join_64_e0 (by decide +kernel)
theorem dX3_join_95 : decode cX3_join 95 = .ok (.iadd, 1) := rd_chunk (k := 64) (i := 31) kmX3_join_64_e0 (by decide +kernel)
theorem dX3_join_96 : decode cX3_join 96 = .ok (.ireturn, 1) := rd_chunk (k := 64) (i := 32) kmX3_join_64_e0 (by decide +kernel)
theorem dX3_join_97 : decode cX3_join 97 = .ok (.iload_n 1, 1) := rd_chunk (k := 64) (i := 33) kmX3_join_64_e0 (by decide +kernel)
theorem dX3_join_98 : decode cX3_join 98 = .ok (.iload_n 2, 1) := rd_chunk (k := 64) (i := 34) kmX3_join_64_e0 (by decide +kernel)
theorem dX3_join_99 : decode cX3_join 99 = .ok (.isub, 1) := rd_chunk (k := 64) (i := 35) kmX3_join_64_e0 (by decide +kernel)
theorem dX3_join_100 : decode cX3_join 100 = .ok (.ireturn, 1) := rd_chunk (k := 64) (i := 36) kmX3_join_64_e0 (by decide +kernel)
theorem dX3_join_101 : decode cX3_join 101 = .ok (.iload_n 1, 1) := rd_chunk (k := 64) (i := 37) kmX3_join_64_e0 (by decide +kernel)
theorem dX3_join_102 : decode cX3_join 102 = .ok (.iload_n 2, 1) := rd_chunk (k := 64) (i := 38) kmX3_join_64_e0 (by decide +kernel)
theorem dX3_join_103 : decode cX3_join 103 = .ok (.imul, 1) := rd_chunk (k := 64) (i := 39) kmX3_join_64_e0 (by decide +kernel)
theorem dX3_join_104 : decode cX3_join 104 = .ok (.ireturn, 1) := rd_chunk (k := 64) (i := 40) kmX3_join_64_e0 (by decide +kernel)
theorem dX3_join_105 : decode cX3_join 105 = .ok (.iload_n 2, 1) := rd_chunk (k := 64) (i := 41) kmX3_join_64_e0 (by decide +kernel)
theorem dX3_join_106 : decode cX3_join 106 = .ok (.ifCond .ne 7, 3) := rd_chunk (k := 64) (i := 42) kmX3_join_64_e0 (by decide +kernel)
theorem dX3_join_109 : decode cX3_join 109 = .ok (.iconst 0, 1) := rd_chunk (k := 64) (i := 45) kmX3_join_64_e0 (by decide +kernel)
theorem dX3_join_110 : decode cX3_join 110 = .ok (.goto 6, 3) := rd_chunk (k := 64) (i := 46) kmX3_join_64_e0 (by decide +kernel)
theorem dX3_join_113 : decode cX3_join 113 = .ok (.iload_n 1, 1) := rd_chunk (k := 64) (i := 49) kmX3_join_64_e0 (by decide +kernel)
theorem dX3_join_114 : decode cX3_join 114 = .ok (.iload_n 2, 1) := rd_chunk (k := 64) (i := 50) kmX3_join_64_e0 (by decide +kernel)
theorem dX3_join_115 : decode cX3_join 115 = .ok (.idiv, 1) := rd_chunk (k := 64) (i := 51) kmX3_join_64_e0 (by decide +kernel)
theorem dX3_join_116 : decode cX3_join 116 = .ok (.ireturn, 1) := rd_chunk (k := 64) (i := 52) kmX3_join_64_e0 (by decide +kernel)
theorem dX4_init_0 : decode cX4_init 0 = .ok (.aload_n 0, 1) := by decide +kernel
theorem dX4_init_1 : decode cX4_init 1 = .ok (.invokespecial 3, 3) := by decide +kernel
theorem dX4_init_4 : decode cX4_init 4 = .ok (.aload_n 0, 1) := by decide +kernel
theorem dX4_init_5 : decode cX4_init 5 = .ok (.sipush 192, 3) := by decide +kernel
theorem dX4_init_8 : decode cX4_init 8 = .ok (.newarray .int, 2) := by decide +kernel
theorem dX4_init_10 : decode cX4_init 10 = .ok (.putfield 9, 3) := by decide +kernel
theorem dX4_init_13 : decode cX4_init 13 = .ok (.aload_n 0, 1) := by decide +kernel
theorem dX4_init_14 : decode cX4_init 14 = .ok (.bipush 24, 2) := by decide +kernel
theorem dX4_init_16 : decode cX4_init 16 = .ok (.newarray .int, 2) := by decide +kernel
theorem dX4_init_18 : decode cX4_init 18 = .ok (.putfield 15, 3) := by decide +kernel
theorem dX4_init_21 : decode cX4_init 21 = .ok (.aload_n 0, 1) := by decide +kernel
theorem dX4_init_22 : decode cX4_init 22 = .ok (.sipush 1536, 3) := by decide +kernel
theorem dX4_init_25 : decode cX4_init 25 = .ok (.newarray .int, 2) := by decide +kernel
theorem dX4_init_27 : decode cX4_init 27 = .ok (.putfield 18, 3) := by decide +kernel
theorem dX4_init_30 : decode cX4_init 30 = .ok (.aload_n 0, 1) := by decide +kernel
theorem dX4_init_31 : decode cX4_init 31 = .ok (.iconst 0, 1) := by decide +kernel
theorem dX4_init_32 : decode cX4_init 32 = .ok (.putfield 21, 3) := by decide +kernel
theorem dX4_init_35 : decode cX4_init 35 = .ok (.aload_n 0, 1) := by decide +kernel
theorem dX4_init_36 : decode cX4_init 36 = .ok (.iconst 0, 1) := by decide +kernel
theorem dX4_init_37 : decode cX4_init 37 = .ok (.putfield 25, 3) := by decide +kernel
theorem dX4_init_40 : decode cX4_init 40 = .ok (.return_, 1) := by decide +kernel
theorem dX4_deal_0 : decode cX4_deal 0 = .ok (.aload_n 0, 1) := by decide +kernel
theorem dX4_deal_1 : decode cX4_deal 1 = .ok (.getfield 9, 3) := by decide +kernel
theorem dX4_deal_4 : decode cX4_deal 4 = .ok (.iconst 0, 1) := by decide +kernel
theorem dX4_deal_5 : decode cX4_deal 5 = .ok (.invokestatic 28, 3) := by decide +kernel
theorem dX4_deal_8 : decode cX4_deal 8 = .ok (.iconst 0, 1) := by decide +kernel
theorem dX4_deal_9 : decode cX4_deal 9 = .ok (.istore_n 3, 1) := by decide +kernel
theorem dX4_deal_10 : decode cX4_deal 10 = .ok (.iload_n 3, 1) := by decide +kernel
theorem dX4_deal_11 : decode cX4_deal 11 = .ok (.iload_n 2, 1) := by decide +kernel
theorem dX4_deal_12 : decode cX4_deal 12 = .ok (.if_icmp .ge 46, 3) := by decide +kernel
theorem dX4_deal_15 : decode cX4_deal 15 = .ok (.iload_n 3, 1) := by decide +kernel
theorem dX4_deal_16 : decode cX4_deal 16 = .ok (.aload_n 1, 1) := by decide +kernel
theorem dX4_deal_17 : decode cX4_deal 17 = .ok (.arraylength, 1) := by decide +kernel
theorem dX4_deal_18 : decode cX4_deal 18 = .ok (.if_icmp .ge 40, 3) := by decide +kernel
theorem dX4_deal_21 : decode cX4_deal 21 = .ok (.iload_n 3, 1) := by decide +kernel
theorem dX4_deal_22 : decode cX4_deal 22 = .ok (.bipush 24, 2) := by decide +kernel
theorem dX4_deal_24 : decode cX4_deal 24 = .ok (.if_icmp .ge 34, 3) := by decide +kernel
theorem dX4_deal_27 : decode cX4_deal 27 = .ok (.aload_n 1, 1) := by decide +kernel
theorem dX4_deal_28 : decode cX4_deal 28 = .ok (.iload_n 3, 1) := by decide +kernel
theorem dX4_deal_29 : decode cX4_deal 29 = .ok (.iaload, 1) := by decide +kernel
theorem dX4_deal_30 : decode cX4_deal 30 = .ok (.invokestatic 34, 3) := by decide +kernel
theorem dX4_deal_33 : decode cX4_deal 33 = .ok (.ifCond .eq 19, 3) := by decide +kernel
theorem dX4_deal_36 : decode cX4_deal 36 = .ok (.aload_n 0, 1) := by decide +kernel
theorem dX4_deal_37 : decode cX4_deal 37 = .ok (.getfield 9, 3) := by decide +kernel
theorem dX4_deal_40 : decode cX4_deal 40 = .ok (.iload_n 3, 1) := by decide +kernel
theorem dX4_deal_41 : decode cX4_deal 41 = .ok (.bipush 8, 2) := by decide +kernel
theorem dX4_deal_43 : decode cX4_deal 43 = .ok (.imul, 1) := by decide +kernel
theorem dX4_deal_44 : decode cX4_deal 44 = .ok (.aload_n 1, 1) := by decide +kernel
theorem dX4_deal_45 : decode cX4_deal 45 = .ok (.iload_n 3, 1) := by decide +kernel
theorem dX4_deal_46 : decode cX4_deal 46 = .ok (.iaload, 1) := by decide +kernel
theorem dX4_deal_47 : decode cX4_deal 47 = .ok (.iadd, 1) := by decide +kernel
theorem dX4_deal_48 : decode cX4_deal 48 = .ok (.sipush 720, 3) := by decide +kernel
theorem dX4_deal_51 : decode cX4_deal 51 = .ok (.iastore, 1) := by decide +kernel
theorem dX4_deal_52 : decode cX4_deal 52 = .ok (.iinc 3 1, 3) := by decide +kernel
theorem dX4_deal_55 : decode cX4_deal 55 = .ok (.goto (-45), 3) := by decide +kernel
theorem dX4_deal_58 : decode cX4_deal 58 = .ok (.aload_n 0, 1) := by decide +kernel
theorem dX4_deal_59 : decode cX4_deal 59 = .ok (.iconst 0, 1) := by decide +kernel
theorem dX4_deal_60 : decode cX4_deal 60 = .ok (.putfield 25, 3) := by decide +kernel
theorem dX4_deal_63 : decode cX4_deal 63 = .ok (.aload_n 0, 1) := by decide +kernel
theorem dX4_deal_64 : decode cX4_deal 64 = .ok (.invokevirtual 38, 3) := by decide +kernel
theorem dX4_deal_67 : decode cX4_deal 67 = .ok (.return_, 1) := by decide +kernel
theorem dX4_restore_0 : decode cX4_restore 0 = .ok (.aload_n 1, 1) := by decide +kernel
theorem dX4_restore_1 : decode cX4_restore 1 = .ok (.iconst 0, 1) := by decide +kernel
theorem dX4_restore_2 : decode cX4_restore 2 = .ok (.aload_n 0, 1) := by decide +kernel
theorem dX4_restore_3 : decode cX4_restore 3 = .ok (.getfield 9, 3) := by decide +kernel
theorem dX4_restore_6 : decode cX4_restore 6 = .ok (.iconst 0, 1) := by decide +kernel
theorem dX4_restore_7 : decode cX4_restore 7 = .ok (.sipush 192, 3) := by decide +kernel
theorem dX4_restore_10 : decode cX4_restore 10 = .ok (.invokestatic 41, 3) := by decide +kernel
theorem dX4_restore_13 : decode cX4_restore 13 = .ok (.aload_n 0, 1) := by decide +kernel
theorem dX4_restore_14 : decode cX4_restore 14 = .ok (.iconst 0, 1) := by decide +kernel
theorem dX4_restore_15 : decode cX4_restore 15 = .ok (.putfield 25, 3) := by decide +kernel
theorem dX4_restore_18 : decode cX4_restore 18 = .ok (.aload_n 0, 1) := by decide +kernel
theorem dX4_restore_19 : decode cX4_restore 19 = .ok (.invokevirtual 38, 3) := by decide +kernel
theorem dX4_restore_22 : decode cX4_restore 22 = .ok (.return_, 1) := by decide +kernel
theorem dX4_findMains_0 : decode cX4_findMains 0 = .ok (.iconst 0, 1) := by decide +kernel
theorem dX4_findMains_1 : decode cX4_findMains 1 = .ok (.istore_n 1, 1) := by decide +kernel
theorem dX4_findMains_2 : decode cX4_findMains 2 = .ok (.iload_n 1, 1) := by decide +kernel
theorem dX4_findMains_3 : decode cX4_findMains 3 = .ok (.bipush 24, 2) := by decide +kernel
theorem dX4_findMains_5 : decode cX4_findMains 5 = .ok (.if_icmp .ge 14, 3) := by decide +kernel
theorem dX4_findMains_8 : decode cX4_findMains 8 = .ok (.aload_n 0, 1) := by decide +kernel
theorem dX4_findMains_9 : decode cX4_findMains 9 = .ok (.iload_n 1, 1) := by decide +kernel
theorem dX4_findMains_10 : decode cX4_findMains 10 = .ok (.invokevirtual 47, 3) := by decide +kernel
theorem dX4_findMains_13 : decode cX4_findMains 13 = .ok (.iinc 1 1, 3) := by decide +kernel
theorem dX4_findMains_16 : decode cX4_findMains 16 = .ok (.goto (-14), 3) := by decide +kernel
theorem dX4_findMains_19 : decode cX4_findMains 19 = .ok (.return_, 1) := by decide +kernel
theorem dX4_findMain_0 : decode cX4_findMain 0 = .ok (.iconst 0, 1) := by decide +kernel
theorem dX4_findMain_1 : decode cX4_findMain 1 = .ok (.istore_n 2, 1) := by decide +kernel
theorem dX4_findMain_2 : decode cX4_findMain 2 = .ok (.iconst 1, 1) := by decide +kernel
theorem dX4_findMain_3 : decode cX4_findMain 3 = .ok (.istore_n 3, 1) := by decide +kernel
theorem dX4_findMain_4 : decode cX4_findMain 4 = .ok (.iload_n 3, 1) := by decide +kernel
theorem dX4_findMain_5 : decode cX4_findMain 5 = .ok (.bipush 8, 2) := by decide +kernel
theorem dX4_findMain_7 : decode cX4_findMain 7 = .ok (.if_icmp .ge 40, 3) := by decide +kernel
theorem dX4_findMain_10 : decode cX4_findMain 10 = .ok (.aload_n 0, 1) := by decide +kernel
theorem dX4_findMain_11 : decode cX4_findMain 11 = .ok (.getfield 9, 3) := by decide +kernel
theorem dX4_findMain_14 : decode cX4_findMain 14 = .ok (.iload_n 1, 1) := by decide +kernel
theorem dX4_findMain_15 : decode cX4_findMain 15 = .ok (.bipush 8, 2) := by decide +kernel
theorem dX4_findMain_17 : decode cX4_findMain 17 = .ok (.imul, 1) := by decide +kernel
theorem dX4_findMain_18 : decode cX4_findMain 18 = .ok (.iload_n 3, 1) := by decide +kernel
theorem dX4_findMain_19 : decode cX4_findMain 19 = .ok (.iadd, 1) := by decide +kernel
theorem dX4_findMain_20 : decode cX4_findMain 20 = .ok (.iaload, 1) := by decide +kernel
theorem dX4_findMain_21 : decode cX4_findMain 21 = .ok (.aload_n 0, 1) := by decide +kernel
theorem dX4_findMain_22 : decode cX4_findMain 22 = .ok (.getfield 9, 3) := by decide +kernel
theorem dX4_findMain_25 : decode cX4_findMain 25 = .ok (.iload_n 1, 1) := by decide +kernel
theorem dX4_findMain_26 : decode cX4_findMain 26 = .ok (.bipush 8, 2) := by decide +kernel
theorem dX4_findMain_28 : decode cX4_findMain 28 = .ok (.imul, 1) := by decide +kernel
theorem dX4_findMain_29 : decode cX4_findMain 29 = .ok (.iload_n 2, 1) := by decide +kernel
theorem dX4_findMain_30 : decode cX4_findMain 30 = .ok (.iadd, 1) := by decide +kernel
theorem dX4_findMain_31 : decode cX4_findMain 31 = .ok (.iaload, 1) := by decide +kernel
theorem dX4_findMain_32 : decode cX4_findMain 32 = .ok (.if_icmp .le 7, 3) := by decide +kernel
theorem dX4_findMain_35 : decode cX4_findMain 35 = .ok (.iload_n 3, 1) := by decide +kernel
theorem dX4_findMain_36 : decode cX4_findMain 36 = .ok (.goto 4, 3) := by decide +kernel
theorem dX4_findMain_39 : decode cX4_findMain 39 = .ok (.iload_n 2, 1) := by decide +kernel
theorem dX4_findMain_40 : decode cX4_findMain 40 = .ok (.istore_n 2, 1) := by decide +kernel
theorem dX4_findMain_41 : decode cX4_findMain 41 = .ok (.iinc 3 1, 3) := by decide +kernel
theorem dX4_findMain_44 : decode cX4_findMain 44 = .ok (.goto (-40), 3) := by decide +kernel
theorem dX4_findMain_47 : decode cX4_findMain 47 = .ok (.aload_n 0, 1) := by decide +kernel
theorem dX4_findMain_48 : decode cX4_findMain 48 = .ok (.getfield 15, 3) := by decide +kernel
theorem dX4_findMain_51 : decode cX4_findMain 51 = .ok (.iload_n 1, 1) := by decide +kernel
theorem dX4_findMain_52 : decode cX4_findMain 52 = .ok (.iload_n 2, 1) := by decide +kernel
theorem dX4_findMain_53 : decode cX4_findMain 53 = .ok (.iastore, 1) := by decide +kernel
theorem dX4_findMain_54 : decode cX4_findMain 54 = .ok (.return_, 1) := by decide +kernel
theorem dX4_mainOf_0 : decode cX4_mainOf 0 = .ok (.iload_n 1, 1) := by decide +kernel
theorem dX4_mainOf_1 : decode cX4_mainOf 1 = .ok (.ifCond .lt 18, 3) := by decide +kernel
theorem dX4_mainOf_4 : decode cX4_mainOf 4 = .ok (.iload_n 1, 1) := by decide +kernel
theorem dX4_mainOf_5 : decode cX4_mainOf 5 = .ok (.bipush 24, 2) := by decide +kernel
theorem dX4_mainOf_7 : decode cX4_mainOf 7 = .ok (.if_icmp .ge 12, 3) := by decide +kernel
theorem dX4_mainOf_10 : decode cX4_mainOf 10 = .ok (.aload_n 0, 1) := by decide +kernel
theorem dX4_mainOf_11 : decode cX4_mainOf 11 = .ok (.getfield 15, 3) := by decide +kernel
theorem dX4_mainOf_14 : decode cX4_mainOf 14 = .ok (.iload_n 1, 1) := by decide +kernel
theorem dX4_mainOf_15 : decode cX4_mainOf 15 = .ok (.iaload, 1) := by decide +kernel
theorem dX4_mainOf_16 : decode cX4_mainOf 16 = .ok (.goto 4, 3) := by decide +kernel
theorem dX4_mainOf_19 : decode cX4_mainOf 19 = .ok (.iconst 0, 1) := by decide +kernel
theorem dX4_mainOf_20 : decode cX4_mainOf 20 = .ok (.ireturn, 1) := by decide +kernel
theorem dX4_shareOf_0 : decode cX4_shareOf 0 = .ok (.iload_n 1, 1) := by decide +kernel
theorem dX4_shareOf_1 : decode cX4_shareOf 1 = .ok (.ifCond .lt 30, 3) := by decide +kernel
theorem dX4_shareOf_4 : decode cX4_shareOf 4 = .ok (.iload_n 1, 1) := by decide +kernel
theorem dX4_shareOf_5 : decode cX4_shareOf 5 = .ok (.bipush 24, 2) := by decide +kernel
theorem dX4_shareOf_7 : decode cX4_shareOf 7 = .ok (.if_icmp .ge 24, 3) := by decide +kernel
theorem dX4_shareOf_10 : decode cX4_shareOf 10 = .ok (.iload_n 2, 1) := by decide +kernel
theorem dX4_shareOf_11 : decode cX4_shareOf 11 = .ok (.invokestatic 34, 3) := by decide +kernel
theorem dX4_shareOf_14 : decode cX4_shareOf 14 = .ok (.ifCond .eq 17, 3) := by decide +kernel
theorem dX4_shareOf_17 : decode cX4_shareOf 17 = .ok (.aload_n 0, 1) := by decide +kernel
theorem dX4_shareOf_18 : decode cX4_shareOf 18 = .ok (.getfield 9, 3) := by decide +kernel
theorem dX4_shareOf_21 : decode cX4_shareOf 21 = .ok (.iload_n 1, 1) := by decide +kernel
theorem dX4_shareOf_22 : decode cX4_shareOf 22 = .ok (.bipush 8, 2) := by decide +kernel
theorem dX4_shareOf_24 : decode cX4_shareOf 24 = .ok (.imul, 1) := by decide +kernel
theorem dX4_shareOf_25 : decode cX4_shareOf 25 = .ok (.iload_n 2, 1) := by decide +kernel
theorem dX4_shareOf_26 : decode cX4_shareOf 26 = .ok (.iadd, 1) := by decide +kernel
theorem dX4_shareOf_27 : decode cX4_shareOf 27 = .ok (.iaload, 1) := by decide +kernel
theorem dX4_shareOf_28 : decode cX4_shareOf 28 = .ok (.goto 4, 3) := by decide +kernel
theorem dX4_shareOf_31 : decode cX4_shareOf 31 = .ok (.iconst 0, 1) := by decide +kernel
theorem dX4_shareOf_32 : decode cX4_shareOf 32 = .ok (.ireturn, 1) := by decide +kernel
theorem dX4_sumOf_0 : decode cX4_sumOf 0 = .ok (.iconst 0, 1) := by decide +kernel
theorem dX4_sumOf_1 : decode cX4_sumOf 1 = .ok (.istore_n 2, 1) := by decide +kernel
theorem dX4_sumOf_2 : decode cX4_sumOf 2 = .ok (.iconst 0, 1) := by decide +kernel
theorem dX4_sumOf_3 : decode cX4_sumOf 3 = .ok (.istore_n 3, 1) := by decide +kernel
theorem dX4_sumOf_4 : decode cX4_sumOf 4 = .ok (.iload_n 3, 1) := by decide +kernel
theorem dX4_sumOf_5 : decode cX4_sumOf 5 = .ok (.bipush 24, 2) := by decide +kernel
theorem dX4_sumOf_7 : decode cX4_sumOf 7 = .ok (.if_icmp .ge 18, 3) := by decide +kernel
theorem dX4_sumOf_10 : decode cX4_sumOf 10 = .ok (.iload_n 2, 1) := by decide +kernel
theorem dX4_sumOf_11 : decode cX4_sumOf 11 = .ok (.aload_n 0, 1) := by decide +kernel
theorem dX4_sumOf_12 : decode cX4_sumOf 12 = .ok (.iload_n 3, 1) := by decide +kernel
theorem dX4_sumOf_13 : decode cX4_sumOf 13 = .ok (.iload_n 1, 1) := by decide +kernel
theorem dX4_sumOf_14 : decode cX4_sumOf 14 = .ok (.invokevirtual 51, 3) := by decide +kernel
theorem dX4_sumOf_17 : decode cX4_sumOf 17 = .ok (.iadd, 1) := by decide +kernel
theorem dX4_sumOf_18 : decode cX4_sumOf 18 = .ok (.istore_n 2, 1) := by decide +kernel
theorem dX4_sumOf_19 : decode cX4_sumOf 19 = .ok (.iinc 3 1, 3) := by decide +kernel
theorem dX4_sumOf_22 : decode cX4_sumOf 22 = .ok (.goto (-18), 3) := by decide +kernel
theorem dX4_sumOf_25 : decode cX4_sumOf 25 = .ok (.iload_n 2, 1) := by decide +kernel
theorem dX4_sumOf_26 : decode cX4_sumOf 26 = .ok (.ireturn, 1) := by decide +kernel
theorem dX4_shareInto_0 : decode cX4_shareInto 0 = .ok (.iconst 0, 1) := by decide +kernel
theorem dX4_shareInto_1 : decode cX4_shareInto 1 = .ok (.istore_n 3, 1) := by decide +kernel
theorem dX4_shareInto_2 : decode cX4_shareInto 2 = .ok (.iload_n 3, 1) := by decide +kernel
theorem dX4_shareInto_3 : decode cX4_shareInto 3 = .ok (.bipush 8, 2) := by decide +kernel
theorem dX4_shareInto_5 : decode cX4_shareInto 5 = .ok (.if_icmp .ge 24, 3) := by decide +kernel
theorem dX4_shareInto_8 : decode cX4_shareInto 8 = .ok (.iload_n 3, 1) := by decide +kernel
theorem dX4_shareInto_9 : decode cX4_shareInto 9 = .ok (.aload_n 2, 1) := by decide +kernel
theorem dX4_shareInto_10 : decode cX4_shareInto 10 = .ok (.arraylength, 1) := by decide +kernel
theorem dX4_shareInto_11 : decode cX4_shareInto 11 = .ok (.if_icmp .ge 18, 3) := by decide +kernel
theorem dX4_shareInto_14 : decode cX4_shareInto 14 = .ok (.aload_n 2, 1) := by decide +kernel
theorem dX4_shareInto_15 : decode cX4_shareInto 15 = .ok (.iload_n 3, 1) := by decide +kernel
theorem dX4_shareInto_16 : decode cX4_shareInto 16 = .ok (.aload_n 0, 1) := by decide +kernel
theorem dX4_shareInto_17 : decode cX4_shareInto 17 = .ok (.iload_n 1, 1) := by decide +kernel
theorem dX4_shareInto_18 : decode cX4_shareInto 18 = .ok (.iload_n 3, 1) := by decide +kernel
theorem dX4_shareInto_19 : decode cX4_shareInto 19 = .ok (.invokevirtual 51, 3) := by decide +kernel
theorem dX4_shareInto_22 : decode cX4_shareInto 22 = .ok (.iastore, 1) := by decide +kernel
theorem dX4_shareInto_23 : decode cX4_shareInto 23 = .ok (.iinc 3 1, 3) := by decide +kernel
theorem dX4_shareInto_26 : decode cX4_shareInto 26 = .ok (.goto (-24), 3) := by decide +kernel
theorem dX4_shareInto_29 : decode cX4_shareInto 29 = .ok (.return_, 1) := by decide +kernel
theorem dX4_sumInto_0 : decode cX4_sumInto 0 = .ok (.iconst 0, 1) := by decide +kernel
theorem dX4_sumInto_1 : decode cX4_sumInto 1 = .ok (.istore_n 2, 1) := by decide +kernel
theorem dX4_sumInto_2 : decode cX4_sumInto 2 = .ok (.iload_n 2, 1) := by decide +kernel
theorem dX4_sumInto_3 : decode cX4_sumInto 3 = .ok (.bipush 8, 2) := by decide +kernel
theorem dX4_sumInto_5 : decode cX4_sumInto 5 = .ok (.if_icmp .ge 23, 3) := by decide +kernel
theorem dX4_sumInto_8 : decode cX4_sumInto 8 = .ok (.iload_n 2, 1) := by decide +kernel
theorem dX4_sumInto_9 : decode cX4_sumInto 9 = .ok (.aload_n 1, 1) := by decide +kernel
theorem dX4_sumInto_10 : decode cX4_sumInto 10 = .ok (.arraylength, 1) := by decide +kernel
theorem dX4_sumInto_11 : decode cX4_sumInto 11 = .ok (.if_icmp .ge 17, 3) := by decide +kernel
theorem dX4_sumInto_14 : decode cX4_sumInto 14 = .ok (.aload_n 1, 1) := by decide +kernel
theorem dX4_sumInto_15 : decode cX4_sumInto 15 = .ok (.iload_n 2, 1) := by decide +kernel
theorem dX4_sumInto_16 : decode cX4_sumInto 16 = .ok (.aload_n 0, 1) := by decide +kernel
theorem dX4_sumInto_17 : decode cX4_sumInto 17 = .ok (.iload_n 2, 1) := by decide +kernel
theorem dX4_sumInto_18 : decode cX4_sumInto 18 = .ok (.invokevirtual 55, 3) := by decide +kernel
theorem dX4_sumInto_21 : decode cX4_sumInto 21 = .ok (.iastore, 1) := by decide +kernel
theorem dX4_sumInto_22 : decode cX4_sumInto 22 = .ok (.iinc 2 1, 3) := by decide +kernel
theorem dX4_sumInto_25 : decode cX4_sumInto 25 = .ok (.goto (-23), 3) := by decide +kernel
theorem dX4_sumInto_28 : decode cX4_sumInto 28 = .ok (.return_, 1) := by decide +kernel
theorem dX4_mainsInto_0 : decode cX4_mainsInto 0 = .ok (.aload_n 1, 1) := by decide +kernel
theorem dX4_mainsInto_1 : decode cX4_mainsInto 1 = .ok (.iconst 0, 1) := by decide +kernel
theorem dX4_mainsInto_2 : decode cX4_mainsInto 2 = .ok (.invokestatic 28, 3) := by decide +kernel
theorem dX4_mainsInto_5 : decode cX4_mainsInto 5 = .ok (.iconst 0, 1) := by decide +kernel
theorem dX4_mainsInto_6 : decode cX4_mainsInto 6 = .ok (.istore_n 2, 1) := by decide +kernel
theorem dX4_mainsInto_7 : decode cX4_mainsInto 7 = .ok (.iload_n 2, 1) := by decide +kernel
theorem dX4_mainsInto_8 : decode cX4_mainsInto 8 = .ok (.bipush 24, 2) := by decide +kernel
theorem dX4_mainsInto_10 : decode cX4_mainsInto 10 = .ok (.if_icmp .ge 38, 3) := by decide +kernel
theorem dX4_mainsInto_13 : decode cX4_mainsInto 13 = .ok (.aload_n 0, 1) := by decide +kernel
theorem dX4_mainsInto_14 : decode cX4_mainsInto 14 = .ok (.getfield 15, 3) := by decide +kernel
theorem dX4_mainsInto_17 : decode cX4_mainsInto 17 = .ok (.iload_n 2, 1) := by decide +kernel
theorem dX4_mainsInto_18 : decode cX4_mainsInto 18 = .ok (.iaload, 1) := by decide +kernel
theorem dX4_mainsInto_19 : decode cX4_mainsInto 19 = .ok (.istore_n 3, 1) := by decide +kernel
theorem dX4_mainsInto_20 : decode cX4_mainsInto 20 = .ok (.iload_n 3, 1) := by decide +kernel
theorem dX4_mainsInto_21 : decode cX4_mainsInto 21 = .ok (.aload_n 1, 1) := by decide +kernel
theorem dX4_mainsInto_22 : decode cX4_mainsInto 22 = .ok (.arraylength, 1) := by decide +kernel
theorem dX4_mainsInto_23 : decode cX4_mainsInto 23 = .ok (.if_icmp .ge 19, 3) := by decide +kernel
theorem dX4_mainsInto_26 : decode cX4_mainsInto 26 = .ok (.aload_n 0, 1) := by decide +kernel
theorem dX4_mainsInto_27 : decode cX4_mainsInto 27 = .ok (.iload_n 2, 1) := by decide +kernel
theorem dX4_mainsInto_28 : decode cX4_mainsInto 28 = .ok (.iload_n 3, 1) := by decide +kernel
theorem dX4_mainsInto_29 : decode cX4_mainsInto 29 = .ok (.invokevirtual 51, 3) := by decide +kernel
theorem dX4_mainsInto_32 : decode cX4_mainsInto 32 = .ok (.ifCond .le 10, 3) := by decide +kernel
theorem dX4_mainsInto_35 : decode cX4_mainsInto 35 = .ok (.aload_n 1, 1) := by decide +kernel
theorem dX4_mainsInto_36 : decode cX4_mainsInto 36 = .ok (.iload_n 3, 1) := by decide +kernel
theorem dX4_mainsInto_37 : decode cX4_mainsInto 37 = .ok (.dup2, 1) := by decide +kernel
theorem dX4_mainsInto_38 : decode cX4_mainsInto 38 = .ok (.iaload, 1) := by decide +kernel
theorem dX4_mainsInto_39 : decode cX4_mainsInto 39 = .ok (.iconst 1, 1) := by decide +kernel
theorem dX4_mainsInto_40 : decode cX4_mainsInto 40 = .ok (.iadd, 1) := by decide +kernel
theorem dX4_mainsInto_41 : decode cX4_mainsInto 41 = .ok (.iastore, 1) := by decide +kernel
theorem dX4_mainsInto_42 : decode cX4_mainsInto 42 = .ok (.iinc 2 1, 3) := by decide +kernel
theorem dX4_mainsInto_45 : decode cX4_mainsInto 45 = .ok (.goto (-38), 3) := by decide +kernel
theorem dX4_mainsInto_48 : decode cX4_mainsInto 48 = .ok (.return_, 1) := by decide +kernel
theorem dX4_remember_0 : decode cX4_remember 0 = .ok (.aload_n 0, 1) := by decide +kernel
theorem dX4_remember_1 : decode cX4_remember 1 = .ok (.getfield 25, 3) := by decide +kernel
theorem dX4_remember_4 : decode cX4_remember 4 = .ok (.bipush 8, 2) := by decide +kernel
theorem dX4_remember_6 : decode cX4_remember 6 = .ok (.if_icmp .ne 26, 3) := by decide +kernel
theorem dX4_remember_9 : decode cX4_remember 9 = .ok (.aload_n 0, 1) := by decide +kernel
theorem dX4_remember_10 : decode cX4_remember 10 = .ok (.aload_n 0, 1) := by decide +kernel
theorem dX4_remember_11 : decode cX4_remember 11 = .ok (.getfield 21, 3) := by decide +kernel
theorem dX4_remember_14 : decode cX4_remember 14 = .ok (.iconst 1, 1) := by decide +kernel
theorem dX4_remember_15 : decode cX4_remember 15 = .ok (.iadd, 1) := by decide +kernel
theorem dX4_remember_16 : decode cX4_remember 16 = .ok (.bipush 8, 2) := by decide +kernel
theorem dX4_remember_18 : decode cX4_remember 18 = .ok (.irem, 1) := by decide +kernel
theorem dX4_remember_19 : decode cX4_remember 19 = .ok (.putfield 21, 3) := by decide +kernel
theorem dX4_remember_22 : decode cX4_remember 22 = .ok (.aload_n 0, 1) := by decide +kernel
theorem dX4_remember_23 : decode cX4_remember 23 = .ok (.dup, 1) := by decide +kernel
theorem dX4_remember_24 : decode cX4_remember 24 = .ok (.getfield 25, 3) := by decide +kernel
theorem dX4_remember_27 : decode cX4_remember 27 = .ok (.iconst 1, 1) := by decide +kernel
theorem dX4_remember_28 : decode cX4_remember 28 = .ok (.isub, 1) := by decide +kernel
theorem dX4_remember_29 : decode cX4_remember 29 = .ok (.putfield 25, 3) := by decide +kernel
theorem dX4_remember_32 : decode cX4_remember 32 = .ok (.aload_n 0, 1) := by decide +kernel
theorem dX4_remember_33 : decode cX4_remember 33 = .ok (.getfield 21, 3) := by decide +kernel
theorem dX4_remember_36 : decode cX4_remember 36 = .ok (.aload_n 0, 1) := by decide +kernel
theorem dX4_remember_37 : decode cX4_remember 37 = .ok (.getfield 25, 3) := by decide +kernel
theorem dX4_remember_40 : decode cX4_remember 40 = .ok (.iadd, 1) := by decide +kernel
theorem dX4_remember_41 : decode cX4_remember 41 = .ok (.bipush 8, 2) := by decide +kernel
theorem dX4_remember_43 : decode cX4_remember 43 = .ok (.irem, 1) := by decide +kernel
theorem dX4_remember_44 : decode cX4_remember 44 = .ok (.istore_n 1, 1) := by decide +kernel
theorem dX4_remember_45 : decode cX4_remember 45 = .ok (.aload_n 0, 1) := by decide +kernel
theorem dX4_remember_46 : decode cX4_remember 46 = .ok (.getfield 9, 3) := by decide +kernel
theorem dX4_remember_49 : decode cX4_remember 49 = .ok (.iconst 0, 1) := by decide +kernel
theorem dX4_remember_50 : decode cX4_remember 50 = .ok (.aload_n 0, 1) := by decide +kernel
theorem dX4_remember_51 : decode cX4_remember 51 = .ok (.getfield 18, 3) := by decide +kernel
theorem dX4_remember_54 : decode cX4_remember 54 = .ok (.iload_n 1, 1) := by decide +kernel
theorem dX4_remember_55 : decode cX4_remember 55 = .ok (.sipush 192, 3) := by decide +kernel
theorem dX4_remember_58 : decode cX4_remember 58 = .ok (.imul, 1) := by decide +kernel
theorem dX4_remember_59 : decode cX4_remember 59 = .ok (.sipush 192, 3) := by decide +kernel
theorem dX4_remember_62 : decode cX4_remember 62 = .ok (.invokestatic 41, 3) := by decide +kernel
theorem dX4_remember_65 : decode cX4_remember 65 = .ok (.aload_n 0, 1) := by decide +kernel
theorem dX4_remember_66 : decode cX4_remember 66 = .ok (.dup, 1) := by decide +kernel
theorem dX4_remember_67 : decode cX4_remember 67 = .ok (.getfield 25, 3) := by decide +kernel
theorem dX4_remember_70 : decode cX4_remember 70 = .ok (.iconst 1, 1) := by decide +kernel
theorem dX4_remember_71 : decode cX4_remember 71 = .ok (.iadd, 1) := by decide +kernel
theorem dX4_remember_72 : decode cX4_remember 72 = .ok (.putfield 25, 3) := by decide +kernel
theorem dX4_remember_75 : decode cX4_remember 75 = .ok (.return_, 1) := by decide +kernel
theorem dX4_takeBack_0 : decode cX4_takeBack 0 = .ok (.aload_n 0, 1) := by decide +kernel
theorem dX4_takeBack_1 : decode cX4_takeBack 1 = .ok (.getfield 25, 3) := by decide +kernel
theorem dX4_takeBack_4 : decode cX4_takeBack 4 = .ok (.ifCond .ne 5, 3) := by decide +kernel
theorem dX4_takeBack_7 : decode cX4_takeBack 7 = .ok (.iconst 0, 1) := by decide +kernel
theorem dX4_takeBack_8 : decode cX4_takeBack 8 = .ok (.ireturn, 1) := by decide +kernel
theorem dX4_takeBack_9 : decode cX4_takeBack 9 = .ok (.aload_n 0, 1) := by decide +kernel
theorem dX4_takeBack_10 : decode cX4_takeBack 10 = .ok (.dup, 1) := by decide +kernel
theorem dX4_takeBack_11 : decode cX4_takeBack 11 = .ok (.getfield 25, 3) := by decide +kernel
theorem dX4_takeBack_14 : decode cX4_takeBack 14 = .ok (.iconst 1, 1) := by decide +kernel
theorem dX4_takeBack_15 : decode cX4_takeBack 15 = .ok (.isub, 1) := by decide +kernel
theorem dX4_takeBack_16 : decode cX4_takeBack 16 = .ok (.putfield 25, 3) := by decide +kernel
theorem dX4_takeBack_19 : decode cX4_takeBack 19 = .ok (.aload_n 0, 1) := by decide +kernel
theorem dX4_takeBack_20 : decode cX4_takeBack 20 = .ok (.getfield 21, 3) := by decide +kernel
theorem dX4_takeBack_23 : decode cX4_takeBack 23 = .ok (.aload_n 0, 1) := by decide +kernel
theorem dX4_takeBack_24 : decode cX4_takeBack 24 = .ok (.getfield 25, 3) := by decide +kernel
theorem dX4_takeBack_27 : decode cX4_takeBack 27 = .ok (.iadd, 1) := by decide +kernel
theorem dX4_takeBack_28 : decode cX4_takeBack 28 = .ok (.bipush 8, 2) := by decide +kernel
theorem dX4_takeBack_30 : decode cX4_takeBack 30 = .ok (.irem, 1) := by decide +kernel
theorem dX4_takeBack_31 : decode cX4_takeBack 31 = .ok (.istore_n 1, 1) := by decide +kernel
theorem dX4_takeBack_32 : decode cX4_takeBack 32 = .ok (.aload_n 0, 1) := by decide +kernel
theorem dX4_takeBack_33 : decode cX4_takeBack 33 = .ok (.getfield 18, 3) := by decide +kernel
theorem dX4_takeBack_36 : decode cX4_takeBack 36 = .ok (.iload_n 1, 1) := by decide +kernel
theorem dX4_takeBack_37 : decode cX4_takeBack 37 = .ok (.sipush 192, 3) := by decide +kernel
theorem dX4_takeBack_40 : decode cX4_takeBack 40 = .ok (.imul, 1) := by decide +kernel
theorem dX4_takeBack_41 : decode cX4_takeBack 41 = .ok (.aload_n 0, 1) := by decide +kernel
theorem dX4_takeBack_42 : decode cX4_takeBack 42 = .ok (.getfield 9, 3) := by decide +kernel
theorem dX4_takeBack_45 : decode cX4_takeBack 45 = .ok (.iconst 0, 1) := by decide +kernel
theorem dX4_takeBack_46 : decode cX4_takeBack 46 = .ok (.sipush 192, 3) := by decide +kernel
theorem dX4_takeBack_49 : decode cX4_takeBack 49 = .ok (.invokestatic 41, 3) := by decide +kernel
theorem dX4_takeBack_52 : decode cX4_takeBack 52 = .ok (.aload_n 0, 1) := by decide +kernel
theorem dX4_takeBack_53 : decode cX4_takeBack 53 = .ok (.invokevirtual 38, 3) := by decide +kernel
theorem dX4_takeBack_56 : decode cX4_takeBack 56 = .ok (.iconst 1, 1) := by decide +kernel
theorem dX4_takeBack_57 : decode cX4_takeBack 57 = .ok (.ireturn, 1) := by decide +kernel
theorem dX4_move_0 : decode cX4_move 0 = .ok (.iload_n 1, 1) := by decide +kernel
theorem dX4_move_1 : decode cX4_move 1 = .ok (.ifCond .lt 60, 3) := by decide +kernel
theorem dX4_move_4 : decode cX4_move 4 = .ok (.iload_n 1, 1) := by decide +kernel
theorem dX4_move_5 : decode cX4_move 5 = .ok (.bipush 24, 2) := by decide +kernel
theorem dX4_move_7 : decode cX4_move 7 = .ok (.if_icmp .ge 54, 3) := by decide +kernel
theorem dX4_move_10 : decode cX4_move 10 = .ok (.iload_n 2, 1) := by decide +kernel
theorem dX4_move_11 : decode cX4_move 11 = .ok (.invokestatic 34, 3) := by decide +kernel
theorem dX4_move_14 : decode cX4_move 14 = .ok (.ifCond .eq 47, 3) := by decide +kernel
theorem dX4_move_17 : decode cX4_move 17 = .ok (.iload_n 3, 1) := by decide +kernel
theorem dX4_move_18 : decode cX4_move 18 = .ok (.invokestatic 34, 3) := by decide +kernel
theorem dX4_move_21 : decode cX4_move 21 = .ok (.ifCond .eq 40, 3) := by decide +kernel
theorem dX4_move_24 : decode cX4_move 24 = .ok (.aload_n 0, 1) := by decide +kernel
theorem dX4_move_25 : decode cX4_move 25 = .ok (.getfield 9, 3) := by decide +kernel
theorem dX4_move_28 : decode cX4_move 28 = .ok (.iload_n 1, 1) := by decide +kernel
theorem dX4_move_29 : decode cX4_move 29 = .ok (.bipush 8, 2) := by decide +kernel
theorem dX4_move_31 : decode cX4_move 31 = .ok (.imul, 1) := by decide +kernel
theorem dX4_move_32 : decode cX4_move 32 = .ok (.iload_n 2, 1) := by decide +kernel
theorem dX4_move_33 : decode cX4_move 33 = .ok (.iadd, 1) := by decide +kernel
theorem dX4_move_34 : decode cX4_move 34 = .ok (.dup2, 1) := by decide +kernel
theorem dX4_move_35 : decode cX4_move 35 = .ok (.iaload, 1) := by decide +kernel
theorem dX4_move_36 : decode cX4_move 36 = .ok (.iload 4, 2) := by decide +kernel
theorem dX4_move_38 : decode cX4_move 38 = .ok (.isub, 1) := by decide +kernel
theorem dX4_move_39 : decode cX4_move 39 = .ok (.iastore, 1) := by decide +kernel
theorem dX4_move_40 : decode cX4_move 40 = .ok (.aload_n 0, 1) := by decide +kernel
theorem dX4_move_41 : decode cX4_move 41 = .ok (.getfield 9, 3) := by decide +kernel
theorem dX4_move_44 : decode cX4_move 44 = .ok (.iload_n 1, 1) := by decide +kernel
theorem dX4_move_45 : decode cX4_move 45 = .ok (.bipush 8, 2) := by decide +kernel
theorem dX4_move_47 : decode cX4_move 47 = .ok (.imul, 1) := by decide +kernel
theorem dX4_move_48 : decode cX4_move 48 = .ok (.iload_n 3, 1) := by decide +kernel
theorem dX4_move_49 : decode cX4_move 49 = .ok (.iadd, 1) := by decide +kernel
theorem dX4_move_50 : decode cX4_move 50 = .ok (.dup2, 1) := by decide +kernel
theorem dX4_move_51 : decode cX4_move 51 = .ok (.iaload, 1) := by decide +kernel
theorem dX4_move_52 : decode cX4_move 52 = .ok (.iload 4, 2) := by decide +kernel
theorem dX4_move_54 : decode cX4_move 54 = .ok (.iadd, 1) := by decide +kernel
theorem dX4_move_55 : decode cX4_move 55 = .ok (.iastore, 1) := by decide +kernel
theorem dX4_move_56 : decode cX4_move 56 = .ok (.aload_n 0, 1) := by decide +kernel
theorem dX4_move_57 : decode cX4_move 57 = .ok (.iload_n 1, 1) := by decide +kernel
theorem dX4_move_58 : decode cX4_move 58 = .ok (.invokevirtual 47, 3) := by decide +kernel
theorem dX4_move_61 : decode cX4_move 61 = .ok (.return_, 1) := by decide +kernel
theorem dX4_inherit_0 : decode cX4_inherit 0 = .ok (.aload_n 0, 1) := by decide +kernel
theorem dX4_inherit_1 : decode cX4_inherit 1 = .ok (.iload_n 1, 1) := by decide +kernel
theorem dX4_inherit_2 : decode cX4_inherit 2 = .ok (.iload_n 2, 1) := by decide +kernel
theorem dX4_inherit_3 : decode cX4_inherit 3 = .ok (.invokevirtual 51, 3) := by decide +kernel
theorem dX4_inherit_6 : decode cX4_inherit 6 = .ok (.istore 4, 2) := by decide +kernel
theorem dX4_inherit_8 : decode cX4_inherit 8 = .ok (.iload_n 3, 1) := by decide +kernel
theorem dX4_inherit_9 : decode cX4_inherit 9 = .ok (.invokestatic 59, 3) := by decide +kernel
theorem dX4_inherit_12 : decode cX4_inherit 12 = .ok (.istore 5, 2) := by decide +kernel
theorem dX4_inherit_14 : decode cX4_inherit 14 = .ok (.iload 5, 2) := by decide +kernel
theorem dX4_inherit_16 : decode cX4_inherit 16 = .ok (.ifCond .ne 4, 3) := by decide +kernel
theorem dX4_inherit_19 : decode cX4_inherit 19 = .ok (.return_, 1) := by decide +kernel
theorem dX4_inherit_20 : decode cX4_inherit 20 = .ok (.iload 4, 2) := by decide +kernel
theorem dX4_inherit_22 : decode cX4_inherit 22 = .ok (.iload 5, 2) := by decide +kernel
theorem dX4_inherit_24 : decode cX4_inherit 24 = .ok (.irem, 1) := by decide +kernel
theorem dX4_inherit_25 : decode cX4_inherit 25 = .ok (.istore 6, 2) := by decide +kernel
theorem dX4_inherit_27 : decode cX4_inherit 27 = .ok (.iconst 0, 1) := by decide +kernel
theorem dX4_inherit_28 : decode cX4_inherit 28 = .ok (.istore 7, 2) := by decide +kernel
theorem dX4_inherit_30 : decode cX4_inherit 30 = .ok (.iload 7, 2) := by decide +kernel
theorem dX4_inherit_32 : decode cX4_inherit 32 = .ok (.bipush 8, 2) := by decide +kernel
theorem dX4_inherit_34 : decode cX4_inherit 34 = .ok (.if_icmp .ge 45, 3) := by decide +kernel
theorem dX4_inherit_37 : decode cX4_inherit 37 = .ok (.iload_n 3, 1) := by decide +kernel
theorem dX4_inherit_38 : decode cX4_inherit 38 = .ok (.iload 7, 2) := by decide +kernel
theorem dX4_inherit_40 : decode cX4_inherit 40 = .ok (.ishr, 1) := by decide +kernel
theorem dX4_inherit_41 : decode cX4_inherit 41 = .ok (.iconst 1, 1) := by decide +kernel
theorem dX4_inherit_42 : decode cX4_inherit 42 = .ok (.iand, 1) := by decide +kernel
theorem dX4_inherit_43 : decode cX4_inherit 43 = .ok (.ifCond .eq 30, 3) := by decide +kernel
theorem dX4_inherit_46 : decode cX4_inherit 46 = .ok (.aload_n 0, 1) := by decide +kernel
theorem dX4_inherit_47 : decode cX4_inherit 47 = .ok (.iload_n 1, 1) := by decide +kernel
theorem dX4_inherit_48 : decode cX4_inherit 48 = .ok (.iload_n 2, 1) := by decide +kernel
theorem dX4_inherit_49 : decode cX4_inherit 49 = .ok (.iload 7, 2) := by decide +kernel
theorem dX4_inherit_51 : decode cX4_inherit 51 = .ok (.iload 4, 2) := by decide +kernel
theorem dX4_inherit_53 : decode cX4_inherit 53 = .ok (.iload 5, 2) := by decide +kernel
theorem dX4_inherit_55 : decode cX4_inherit 55 = .ok (.idiv, 1) := by decide +kernel
theorem dX4_inherit_56 : decode cX4_inherit 56 = .ok (.iload 6, 2) := by decide +kernel
theorem dX4_inherit_58 : decode cX4_inherit 58 = .ok (.ifCond .le 7, 3) := by decide +kernel
theorem dX4_inherit_61 : decode cX4_inherit 61 = .ok (.iconst 1, 1) := by decide +kernel
theorem dX4_inherit_62 : decode cX4_inherit 62 = .ok (.goto 4, 3) := by decide +kernel
theorem dX4_inherit_65 : decode cX4_inherit 65 = .ok (.iconst 0, 1) := by decide +kernel
theorem dX4_inherit_66 : decode cX4_inherit 66 = .ok (.iadd, 1) := by decide +kernel
theorem dX4_inherit_67 : decode cX4_inherit 67 = .ok (.invokevirtual 64, 3) := by decide +kernel
theorem dX4_inherit_70 : decode cX4_inherit 70 = .ok (.iinc 6 (-1), 3) := by decide +kernel
theorem dX4_inherit_73 : decode cX4_inherit 73 = .ok (.iinc 7 1, 3) := by decide +kernel
theorem dX4_inherit_76 : decode cX4_inherit 76 = .ok (.goto (-46), 3) := by decide +kernel
theorem dX4_inherit_79 : decode cX4_inherit 79 = .ok (.return_, 1) := by decide +kernel
theorem dX5_init_0 : decode cX5_init 0 = .ok (.aload_n 0, 1) := by decide +kernel
theorem dX5_init_1 : decode cX5_init 1 = .ok (.invokespecial 3, 3) := by decide +kernel
theorem dX5_init_4 : decode cX5_init 4 = .ok (.aload_n 0, 1) := by decide +kernel
theorem dX5_init_5 : decode cX5_init 5 = .ok (.iconst 0, 1) := by decide +kernel
theorem dX5_init_6 : decode cX5_init 6 = .ok (.putfield 9, 3) := by decide +kernel
theorem dX5_init_9 : decode cX5_init 9 = .ok (.aload_n 0, 1) := by decide +kernel
theorem dX5_init_10 : decode cX5_init 10 = .ok (.iconst (-1), 1) := by decide +kernel
theorem dX5_init_11 : decode cX5_init 11 = .ok (.putfield 15, 3) := by decide +kernel
theorem dX5_init_14 : decode cX5_init 14 = .ok (.aload_n 0, 1) := by decide +kernel
theorem dX5_init_15 : decode cX5_init 15 = .ok (.iload_n 2, 1) := by decide +kernel
theorem dX5_init_16 : decode cX5_init 16 = .ok (.putfield 18, 3) := by decide +kernel
theorem dX5_init_19 : decode cX5_init 19 = .ok (.aload_n 0, 1) := by decide +kernel
theorem dX5_init_20 : decode cX5_init 20 = .ok (.iload_n 3, 1) := by decide +kernel
theorem dX5_init_21 : decode cX5_init 21 = .ok (.putfield 21, 3) := by decide +kernel
theorem dX5_init_24 : decode cX5_init 24 = .ok (.aload_n 0, 1) := by decide +kernel
theorem dX5_init_25 : decode cX5_init 25 = .ok (.iload 4, 2) := by decide +kernel
theorem dX5_init_27 : decode cX5_init 27 = .ok (.putfield 24, 3) := by decide +kernel
theorem dX5_init_30 : decode cX5_init 30 = .ok (.aload_n 0, 1) := by decide +kernel
theorem dX5_init_31 : decode cX5_init 31 = .ok (.iload 5, 2) := by decide +kernel
theorem dX5_init_33 : decode cX5_init 33 = .ok (.putfield 27, 3) := by decide +kernel
theorem dX5_init_36 : decode cX5_init 36 = .ok (.aload_n 0, 1) := by decide +kernel
theorem dX5_init_37 : decode cX5_init 37 = .ok (.iload_n 2, 1) := by decide +kernel
theorem dX5_init_38 : decode cX5_init 38 = .ok (.putfield 30, 3) := by decide +kernel
theorem dX5_init_41 : decode cX5_init 41 = .ok (.aload_n 0, 1) := by decide +kernel
theorem dX5_init_42 : decode cX5_init 42 = .ok (.iload_n 3, 1) := by decide +kernel
theorem dX5_init_43 : decode cX5_init 43 = .ok (.putfield 33, 3) := by decide +kernel
theorem dX5_init_46 : decode cX5_init 46 = .ok (.aload_n 0, 1) := by decide +kernel
theorem dX5_init_47 : decode cX5_init 47 = .ok (.new 36, 3) := by decide +kernel
theorem dX5_init_50 : decode cX5_init 50 = .ok (.dup, 1) := by decide +kernel
theorem dX5_init_51 : decode cX5_init 51 = .ok (.aload_n 1, 1) := by decide +kernel
theorem dX5_init_52 : decode cX5_init 52 = .ok (.iload_n 2, 1) := by decide +kernel
theorem dX5_init_53 : decode cX5_init 53 = .ok (.iload_n 3, 1) := by decide +kernel
theorem dX5_init_54 : decode cX5_init 54 = .ok (.iload 4, 2) := by decide +kernel
theorem dX5_init_56 : decode cX5_init 56 = .ok (.invokespecial 38, 3) := by decide +kernel
theorem dX5_init_59 : decode cX5_init 59 = .ok (.putfield 41, 3) := by decide +kernel
theorem dX5_init_62 : decode cX5_init 62 = .ok (.return_, 1) := by decide +kernel
theorem dX5_startAnew_0 : decode cX5_startAnew 0 = .ok (.aload_n 0, 1) := by decide +kernel
theorem dX5_startAnew_1 : decode cX5_startAnew 1 = .ok (.iconst (-1), 1) := by decide +kernel
theorem dX5_startAnew_2 : decode cX5_startAnew 2 = .ok (.putfield 15, 3) := by decide +kernel
theorem dX5_startAnew_5 : decode cX5_startAnew 5 = .ok (.aload_n 0, 1) := by decide +kernel
theorem dX5_startAnew_6 : decode cX5_startAnew 6 = .ok (.aload_n 0, 1) := by decide +kernel
theorem dX5_startAnew_7 : decode cX5_startAnew 7 = .ok (.getfield 18, 3) := by decide +kernel
theorem dX5_startAnew_10 : decode cX5_startAnew 10 = .ok (.putfield 30, 3) := by decide +kernel
theorem dX5_startAnew_13 : decode cX5_startAnew 13 = .ok (.aload_n 0, 1) := by decide +kernel
theorem dX5_startAnew_14 : decode cX5_startAnew 14 = .ok (.aload_n 0, 1) := by decide +kernel
theorem dX5_startAnew_15 : decode cX5_startAnew 15 = .ok (.getfield 21, 3) := by decide +kernel
theorem dX5_startAnew_18 : decode cX5_startAnew 18 = .ok (.putfield 33, 3) := by decide +kernel
theorem dX5_startAnew_21 : decode cX5_startAnew 21 = .ok (.return_, 1) := by decide +kernel
theorem dX5_comesTo_0 : decode cX5_comesTo 0 = .ok (.iload_n 1, 1) := by decide +kernel
theorem dX5_comesTo_1 : decode cX5_comesTo 1 = .ok (.aload_n 0, 1) := by decide +kernel
theorem dX5_comesTo_2 : decode cX5_comesTo 2 = .ok (.getfield 15, 3) := by decide +kernel
theorem dX5_comesTo_5 : decode cX5_comesTo 5 = .ok (.if_icmp .le 20, 3) := by decide +kernel
theorem dX5_comesTo_8 : decode cX5_comesTo 8 = .ok (.iload_n 1, 1) := by decide +kernel
theorem dX5_comesTo_9 : decode cX5_comesTo 9 = .ok (.aload_n 0, 1) := by decide +kernel
theorem dX5_comesTo_10 : decode cX5_comesTo 10 = .ok (.getfield 15, 3) := by decide +kernel
theorem dX5_comesTo_13 : decode cX5_comesTo 13 = .ok (.isub, 1) := by decide +kernel
theorem dX5_comesTo_14 : decode cX5_comesTo 14 = .ok (.aload_n 0, 1) := by decide +kernel
theorem dX5_comesTo_15 : decode cX5_comesTo 15 = .ok (.getfield 24, 3) := by decide +kernel
theorem dX5_comesTo_18 : decode cX5_comesTo 18 = .ok (.if_icmp .gt 7, 3) := by decide +kernel
theorem dX5_comesTo_21 : decode cX5_comesTo 21 = .ok (.iconst 1, 1) := by decide +kernel
theorem dX5_comesTo_22 : decode cX5_comesTo 22 = .ok (.goto 4, 3) := by decide +kernel
theorem dX5_comesTo_25 : decode cX5_comesTo 25 = .ok (.iconst 0, 1) := by decide +kernel
theorem dX5_comesTo_26 : decode cX5_comesTo 26 = .ok (.ireturn, 1) := by decide +kernel
theorem dX5_vowsAgainst_0 : decode cX5_vowsAgainst 0 = .ok (.aload_n 0, 1) := by decide +kernel
theorem dX5_vowsAgainst_1 : decode cX5_vowsAgainst 1 = .ok (.getfield 9, 3) := by decide +kernel
theorem dX5_vowsAgainst_4 : decode cX5_vowsAgainst 4 = .ok (.iload_n 1, 1) := by decide +kernel
theorem dX5_vowsAgainst_5 : decode cX5_vowsAgainst 5 = .ok (.ishr, 1) := by decide +kernel
theorem dX5_vowsAgainst_6 : decode cX5_vowsAgainst 6 = .ok (.iconst 1, 1) := by decide +kernel
theorem dX5_vowsAgainst_7 : decode cX5_vowsAgainst 7 = .ok (.iand, 1) := by decide +kernel
theorem dX5_vowsAgainst_8 : decode cX5_vowsAgainst 8 = .ok (.ifCond .eq 7, 3) := by decide +kernel
theorem dX5_vowsAgainst_11 : decode cX5_vowsAgainst 11 = .ok (.iconst 1, 1) := by decide +kernel
theorem dX5_vowsAgainst_12 : decode cX5_vowsAgainst 12 = .ok (.goto 4, 3) := by decide +kernel
theorem dX5_vowsAgainst_15 : decode cX5_vowsAgainst 15 = .ok (.iconst 0, 1) := by decide +kernel
theorem dX5_vowsAgainst_16 : decode cX5_vowsAgainst 16 = .ok (.ireturn, 1) := by decide +kernel
abbrev mX6_init_0_e0 : ByteArray := .mk #[0x2a, 0xb7, 0x00, 0x03, 0x2a, 0x10, 0x4b, 0xbc, 0x0a, 0xb5, 0x00, 0x09, 0x2a, 0x10, 0x4b, 0xbc, 0x0a, 0xb5, 0x00, 0x0f, 0x2a, 0x10, 0x19, 0xbc, 0x04, 0xb5, 0x00, 0x12, 0x2a, 0x10, 0x19, 0xbc, 0x0a, 0xb5, 0x00, 0x16, 0x2a, 0x10, 0x19, 0xbc, 0x0a, 0xb5, 0x00, 0x19, 0x2a, 0xbb, 0x00, 0x1c, 0x59, 0xb7, 0x00, 0x1e, 0xb5, 0x00, 0x1f, 0x2a, 0xbb, 0x00, 0x1c, 0x59, 0xb7, 0x00, 0x1e, 0xb5, 0x00, 0x23, 0x2a, 0x10, 0x15, 0xbc, 0x0b, 0xb5]
theorem kmX6_init_0_e0 : CK cX6_init 0 mX6_init_0_e0 := ck_of (by decide +kernel)
theorem dX6_init_0 : decode cX6_init 0 = .ok (.aload_n 0, 1) := rd_chunk (k := 0) (i := 0) kmX6_init_0_e0 (by decide +kernel)
theorem dX6_init_1 : decode cX6_init 1 = .ok (.invokespecial 3, 3) := rd_chunk (k := 0) (i := 1) kmX6_init_0_e0 (by decide +kernel)
theorem dX6_init_4 : decode cX6_init 4 = .ok (.aload_n 0, 1) := rd_chunk (k := 0) (i := 4) kmX6_init_0_e0 (by decide +kernel)
theorem dX6_init_5 : decode cX6_init 5 = .ok (.bipush 75, 2) := rd_chunk (k := 0) (i := 5) kmX6_init_0_e0 (by decide +kernel)
theorem dX6_init_7 : decode cX6_init 7 = .ok (.newarray .int, 2) := by decide +kernel
theorem dX6_init_9 : decode cX6_init 9 = .ok (.putfield 9, 3) := rd_chunk (k := 0) (i := 9) kmX6_init_0_e0 (by decide +kernel)
theorem dX6_init_12 : decode cX6_init 12 = .ok (.aload_n 0, 1) := rd_chunk (k := 0) (i := 12) kmX6_init_0_e0 (by decide +kernel)
theorem dX6_init_13 : decode cX6_init 13 = .ok (.bipush 75, 2) := rd_chunk (k := 0) (i := 13) kmX6_init_0_e0 (by decide +kernel)
theorem dX6_init_15 : decode cX6_init 15 = .ok (.newarray .int, 2) := by decide +kernel
theorem dX6_init_17 : decode cX6_init 17 = .ok (.putfield 15, 3) := rd_chunk (k := 0) (i := 17) kmX6_init_0_e0 (by decide +kernel)
theorem dX6_init_20 : decode cX6_init 20 = .ok (.aload_n 0, 1) := rd_chunk (k := 0) (i := 20) kmX6_init_0_e0 (by decide +kernel)
theorem dX6_init_21 : decode cX6_init 21 = .ok (.bipush 25, 2) := rd_chunk (k := 0) (i := 21) kmX6_init_0_e0 (by decide +kernel)
theorem dX6_init_23 : decode cX6_init 23 = .ok (.newarray .boolean, 2) := by decide +kernel
theorem dX6_init_25 : decode cX6_init 25 = .ok (.putfield 18, 3) := rd_chunk (k := 0) (i := 25) kmX6_init_0_e0 (by decide +kernel)
theorem dX6_init_28 : decode cX6_init 28 = .ok (.aload_n 0, 1) := rd_chunk (k := 0) (i := 28) kmX6_init_0_e0 (by decide +kernel)
theorem dX6_init_29 : decode cX6_init 29 = .ok (.bipush 25, 2) := rd_chunk (k := 0) (i := 29) kmX6_init_0_e0 (by decide +kernel)
theorem dX6_init_31 : decode cX6_init 31 = .ok (.newarray .int, 2) := by decide +kernel
theorem dX6_init_33 : decode cX6_init 33 = .ok (.putfield 22, 3) := rd_chunk (k := 0) (i := 33) kmX6_init_0_e0 (by decide +kernel)
theorem dX6_init_36 : decode cX6_init 36 = .ok (.aload_n 0, 1) := rd_chunk (k := 0) (i := 36) kmX6_init_0_e0 (by decide +kernel)
theorem dX6_init_37 : decode cX6_init 37 = .ok (.bipush 25, 2) := rd_chunk (k := 0) (i := 37) kmX6_init_0_e0 (by decide +kernel)
theorem dX6_init_39 : decode cX6_init 39 = .ok (.newarray .int, 2) := by decide +kernel
theorem dX6_init_41 : decode cX6_init 41 = .ok (.putfield 25, 3) := rd_chunk (k := 0) (i := 41) kmX6_init_0_e0 (by decide +kernel)
theorem dX6_init_44 : decode cX6_init 44 = .ok (.aload_n 0, 1) := rd_chunk (k := 0) (i := 44) kmX6_init_0_e0 (by decide +kernel)
theorem dX6_init_45 : decode cX6_init 45 = .ok (.new 28, 3) := rd_chunk (k := 0) (i := 45) kmX6_init_0_e0 (by decide +kernel)
theorem dX6_init_48 : decode cX6_init 48 = .ok (.dup, 1) := rd_chunk (k := 0) (i := 48) kmX6_init_0_e0 (by decide +kernel)
theorem dX6_init_49 : decode cX6_init 49 = .ok (.invokespecial 30, 3) := rd_chunk (k := 0) (i := 49) kmX6_init_0_e0 (by decide +kernel)
theorem dX6_init_52 : decode cX6_init 52 = .ok (.putfield 31, 3) := rd_chunk (k := 0) (i := 52) kmX6_init_0_e0 (by decide +kernel)
theorem dX6_init_55 : decode cX6_init 55 = .ok (.aload_n 0, 1) := rd_chunk (k := 0) (i := 55) kmX6_init_0_e0 (by decide +kernel)
theorem dX6_init_56 : decode cX6_init 56 = .ok (.new 28, 3) := rd_chunk (k := 0) (i := 56) kmX6_init_0_e0 (by decide +kernel)
theorem dX6_init_59 : decode cX6_init 59 = .ok (.dup, 1) := rd_chunk (k := 0) (i := 59) kmX6_init_0_e0 (by decide +kernel)
theorem dX6_init_60 : decode cX6_init 60 = .ok (.invokespecial 30, 3) := rd_chunk (k := 0) (i := 60) kmX6_init_0_e0 (by decide +kernel)
theorem dX6_init_63 : decode cX6_init 63 = .ok (.putfield 35, 3) := rd_chunk (k := 0) (i := 63) kmX6_init_0_e0 (by decide +kernel)
abbrev mX6_init_64_e0 : ByteArray := .mk #[0x00, 0x23, 0x2a, 0x10, 0x15, 0xbc, 0x0b, 0xb5, 0x00, 0x26, 0x2a, 0x10, 0x15, 0xbc, 0x0a, 0xb5, 0x00, 0x2a, 0x2a, 0x10, 0x15, 0xbc, 0x0a, 0xb5, 0x00, 0x2d, 0x2a, 0x03, 0xb5, 0x00, 0x30, 0x2a, 0x03, 0xb5, 0x00, 0x34, 0x2a, 0x2b, 0xb5, 0x00, 0x37, 0x2a, 0x1c, 0xb5, 0x00, 0x3b, 0x2a, 0x1d, 0xb5, 0x00, 0x3e, 0x2a, 0x15, 0x04, 0xb5, 0x00, 0x41, 0xb1]
theorem kmX6_init_64_e0 : CK cX6_init 64 mX6_init_64_e0 := ck_of (by decide +kernel)
theorem dX6_init_66 : decode cX6_init 66 = .ok (.aload_n 0, 1) := rd_chunk (k := 64) (i := 2) kmX6_init_64_e0 (by decide +kernel)
theorem dX6_init_67 : decode cX6_init 67 = .ok (.bipush 21, 2) := rd_chunk (k := 64) (i := 3) kmX6_init_64_e0 (by decide +kernel)
theorem dX6_init_69 : decode cX6_init 69 = .ok (.newarray .long, 2) := by decide +kernel
theorem dX6_init_71 : decode cX6_init 71 = .ok (.putfield 38, 3) := rd_chunk (k := 64) (i := 7) kmX6_init_64_e0 (by decide +kernel)
theorem dX6_init_74 : decode cX6_init 74 = .ok (.aload_n 0, 1) := rd_chunk (k := 64) (i := 10) kmX6_init_64_e0 (by decide +kernel)
theorem dX6_init_75 : decode cX6_init 75 = .ok (.bipush 21, 2) := rd_chunk (k := 64) (i := 11) kmX6_init_64_e0 (by decide +kernel)
theorem dX6_init_77 : decode cX6_init 77 = .ok (.newarray .int, 2) := by decide +kernel
theorem dX6_init_79 : decode cX6_init 79 = .ok (.putfield 42, 3) := rd_chunk (k := 64) (i := 15) kmX6_init_64_e0 (by decide +kernel)
theorem dX6_init_82 : decode cX6_init 82 = .ok (.aload_n 0, 1) := rd_chunk (k := 64) (i := 18) kmX6_init_64_e0 (by decide +kernel)
theorem dX6_init_83 : decode cX6_init 83 = .ok (.bipush 21, 2) := rd_chunk (k := 64) (i := 19) kmX6_init_64_e0 (by decide +kernel)
theorem dX6_init_85 : decode cX6_init 85 = .ok (.newarray .int, 2) := by decide +kernel
theorem dX6_init_87 : decode cX6_init 87 = .ok (.putfield 45, 3) := rd_chunk (k := 64) (i := 23) kmX6_init_64_e0 (by decide +kernel)
theorem dX6_init_90 : decode cX6_init 90 = .ok (.aload_n 0, 1) := rd_chunk (k := 64) (i := 26) kmX6_init_64_e0 (by decide +kernel)
theorem dX6_init_91 : decode cX6_init 91 = .ok (.iconst 0, 1) := rd_chunk (k := 64) (i := 27) kmX6_init_64_e0 (by decide +kernel)
theorem dX6_init_92 : decode cX6_init 92 = .ok (.putfield 48, 3) := rd_chunk (k := 64) (i := 28) kmX6_init_64_e0 (by decide +kernel)
theorem dX6_init_95 : decode cX6_init 95 = .ok (.aload_n 0, 1) := rd_chunk (k := 64) (i := 31) kmX6_init_64_e0 (by decide +kernel)
theorem dX6_init_96 : decode cX6_init 96 = .ok (.iconst 0, 1) := rd_chunk (k := 64) (i := 32) kmX6_init_64_e0 (by decide +kernel)
theorem dX6_init_97 : decode cX6_init 97 = .ok (.putfield 52, 3) := rd_chunk (k := 64) (i := 33) kmX6_init_64_e0 (by decide +kernel)
theorem dX6_init_100 : decode cX6_init 100 = .ok (.aload_n 0, 1) := rd_chunk (k := 64) (i := 36) kmX6_init_64_e0 (by decide +kernel)
theorem dX6_init_101 : decode cX6_init 101 = .ok (.aload_n 1, 1) := rd_chunk (k := 64) (i := 37) kmX6_init_64_e0 (by decide +kernel)
theorem dX6_init_102 : decode cX6_init 102 = .ok (.putfield 55, 3) := rd_chunk (k := 64) (i := 38) kmX6_init_64_e0 (by decide +kernel)
theorem dX6_init_105 : decode cX6_init 105 = .ok (.aload_n 0, 1) := rd_chunk (k := 64) (i := 41) kmX6_init_64_e0 (by decide +kernel)
theorem dX6_init_106 : decode cX6_init 106 = .ok (.iload_n 2, 1) := rd_chunk (k := 64) (i := 42) kmX6_init_64_e0 (by decide +kernel)
theorem dX6_init_107 : decode cX6_init 107 = .ok (.putfield 59, 3) := rd_chunk (k := 64) (i := 43) kmX6_init_64_e0 (by decide +kernel)
theorem dX6_init_110 : decode cX6_init 110 = .ok (.aload_n 0, 1) := rd_chunk (k := 64) (i := 46) kmX6_init_64_e0 (by decide +kernel)
theorem dX6_init_111 : decode cX6_init 111 = .ok (.iload_n 3, 1) := rd_chunk (k := 64) (i := 47) kmX6_init_64_e0 (by decide +kernel)
theorem dX6_init_112 : decode cX6_init 112 = .ok (.putfield 62, 3) := rd_chunk (k := 64) (i := 48) kmX6_init_64_e0 (by decide +kernel)
theorem dX6_init_115 : decode cX6_init 115 = .ok (.aload_n 0, 1) := rd_chunk (k := 64) (i := 51) kmX6_init_64_e0 (by decide +kernel)
theorem dX6_init_116 : decode cX6_init 116 = .ok (.iload 4, 2) := rd_chunk (k := 64) (i := 52) kmX6_init_64_e0 (by decide +kernel)
theorem dX6_init_118 : decode cX6_init 118 = .ok (.putfield 65, 3) := rd_chunk (k := 64) (i := 54) kmX6_init_64_e0 (by decide +kernel)
theorem dX6_init_121 : decode cX6_init 121 = .ok (.return_, 1) := rd_chunk (k := 64) (i := 57) kmX6_init_64_e0 (by decide +kernel)
abbrev mX6_lay_0_e0 : ByteArray := .mk #[0x2a, 0x1b, 0xb5, 0x00, 0x30, 0x2a, 0x2a, 0xb4, 0x00, 0x37, 0xb4, 0x00, 0x44, 0x10, 0x18, 0xb8, 0x00, 0x49, 0xb5, 0x00, 0x34, 0x2a, 0xb4, 0x00, 0x12, 0x03, 0x04, 0x54, 0x04, 0x36, 0x04, 0x15, 0x04, 0x2a, 0xb4, 0x00, 0x34, 0xa3, 0x00, 0x34, 0x15, 0x04, 0x04, 0x64, 0x36, 0x05, 0x2a, 0xb4, 0x00, 0x12, 0x15, 0x04, 0x15, 0x05, 0x1d, 0x9f, 0x00, 0x1a, 0x1c, 0x2a, 0xb4, 0x00, 0x37, 0xb4, 0x00, 0x4f, 0x15, 0x05, 0xb6, 0x00, 0x53, 0x7a]
theorem kmX6_lay_0_e0 : CK cX6_lay 0 mX6_lay_0_e0 := ck_of (by decide +kernel)
theorem dX6_lay_0 : decode cX6_lay 0 = .ok (.aload_n 0, 1) := rd_chunk (k := 0) (i := 0) kmX6_lay_0_e0 (by decide +kernel)
theorem dX6_lay_1 : decode cX6_lay 1 = .ok (.iload_n 1, 1) := rd_chunk (k := 0) (i := 1) kmX6_lay_0_e0 (by decide +kernel)
theorem dX6_lay_2 : decode cX6_lay 2 = .ok (.putfield 48, 3) := rd_chunk (k := 0) (i := 2) kmX6_lay_0_e0 (by decide +kernel)
theorem dX6_lay_5 : decode cX6_lay 5 = .ok (.aload_n 0, 1) := rd_chunk (k := 0) (i := 5) kmX6_lay_0_e0 (by decide +kernel)
theorem dX6_lay_6 : decode cX6_lay 6 = .ok (.aload_n 0, 1) := rd_chunk (k := 0) (i := 6) kmX6_lay_0_e0 (by decide +kernel)
theorem dX6_lay_7 : decode cX6_lay 7 = .ok (.getfield 55, 3) := rd_chunk (k := 0) (i := 7) kmX6_lay_0_e0 (by decide +kernel)
theorem dX6_lay_10 : decode cX6_lay 10 = .ok (.getfield 68, 3) := rd_chunk (k := 0) (i := 10) kmX6_lay_0_e0 (by decide +kernel)
theorem dX6_lay_13 : decode cX6_lay 13 = .ok (.bipush 24, 2) := rd_chunk (k := 0) (i := 13) kmX6_lay_0_e0 (by decide +kernel)
theorem dX6_lay_15 : decode cX6_lay 15 = .ok (.invokestatic 73, 3) := rd_chunk (k := 0) (i := 15) kmX6_lay_0_e0 (by decide +kernel)
theorem dX6_lay_18 : decode cX6_lay 18 = .ok (.putfield 52, 3) := rd_chunk (k := 0) (i := 18) kmX6_lay_0_e0 (by decide +kernel)
theorem dX6_lay_21 : decode cX6_lay 21 = .ok (.aload_n 0, 1) := rd_chunk (k := 0) (i := 21) kmX6_lay_0_e0 (by decide +kernel)
theorem dX6_lay_22 : decode cX6_lay 22 = .ok (.getfield 18, 3) := rd_chunk (k := 0) (i := 22) kmX6_lay_0_e0 (by decide +kernel)
theorem dX6_lay_25 : decode cX6_lay 25 = .ok (.iconst 0, 1) := rd_chunk (k := 0) (i := 25) kmX6_lay_0_e0 (by decide +kernel)
theorem dX6_lay_26 : decode cX6_lay 26 = .ok (.iconst 1, 1) := rd_chunk (k := 0) (i := 26) kmX6_lay_0_e0 (by decide +kernel)
theorem dX6_lay_27 : decode cX6_lay 27 = .ok (.bastore, 1) := rd_chunk (k := 0) (i := 27) kmX6_lay_0_e0 (by decide +kernel)
theorem dX6_lay_28 : decode cX6_lay 28 = .ok (.iconst 1, 1) := rd_chunk (k := 0) (i := 28) kmX6_lay_0_e0 (by decide +kernel)
theorem dX6_lay_29 : decode cX6_lay 29 = .ok (.istore 4, 2) := rd_chunk (k := 0) (i := 29) kmX6_lay_0_e0 (by decide +kernel)
theorem dX6_lay_31 : decode cX6_lay 31 = .ok (.iload 4, 2) := rd_chunk (k := 0) (i := 31) kmX6_lay_0_e0 (by decide +kernel)
theorem dX6_lay_33 : decode cX6_lay 33 = .ok (.aload_n 0, 1) := rd_chunk (k := 0) (i := 33) kmX6_lay_0_e0 (by decide +kernel)
theorem dX6_lay_34 : decode cX6_lay 34 = .ok (.getfield 52, 3) := rd_chunk (k := 0) (i := 34) kmX6_lay_0_e0 (by decide +kernel)
theorem dX6_lay_37 : decode cX6_lay 37 = .ok (.if_icmp .gt 52, 3) := rd_chunk (k := 0) (i := 37) kmX6_lay_0_e0 (by decide +kernel)
theorem dX6_lay_40 : decode cX6_lay 40 = .ok (.iload 4, 2) := rd_chunk (k := 0) (i := 40) kmX6_lay_0_e0 (by decide +kernel)
theorem dX6_lay_42 : decode cX6_lay 42 = .ok (.iconst 1, 1) := rd_chunk (k := 0) (i := 42) kmX6_lay_0_e0 (by decide +kernel)
theorem dX6_lay_43 : decode cX6_lay 43 = .ok (.isub, 1) := rd_chunk (k := 0) (i := 43) kmX6_lay_0_e0 (by decide +kernel)
theorem dX6_lay_44 : decode cX6_lay 44 = .ok (.istore 5, 2) := rd_chunk (k := 0) (i := 44) kmX6_lay_0_e0 (by decide +kernel)
theorem dX6_lay_46 : decode cX6_lay 46 = .ok (.aload_n 0, 1) := rd_chunk (k := 0) (i := 46) kmX6_lay_0_e0 (by decide +kernel)
theorem dX6_lay_47 : decode cX6_lay 47 = .ok (.getfield 18, 3) := rd_chunk (k := 0) (i := 47) kmX6_lay_0_e0 (by decide +kernel)
theorem dX6_lay_50 : decode cX6_lay 50 = .ok (.iload 4, 2) := rd_chunk (k := 0) (i := 50) kmX6_lay_0_e0 (by decide +kernel)
theorem dX6_lay_52 : decode cX6_lay 52 = .ok (.iload 5, 2) := rd_chunk (k := 0) (i := 52) kmX6_lay_0_e0 (by decide +kernel)
theorem dX6_lay_54 : decode cX6_lay 54 = .ok (.iload_n 3, 1) := rd_chunk (k := 0) (i := 54) kmX6_lay_0_e0 (by decide +kernel)
theorem dX6_lay_55 : decode cX6_lay 55 = .ok (.if_icmp .eq 26, 3) := rd_chunk (k := 0) (i := 55) kmX6_lay_0_e0 (by decide +kernel)
theorem dX6_lay_58 : decode cX6_lay 58 = .ok (.iload_n 2, 1) := rd_chunk (k := 0) (i := 58) kmX6_lay_0_e0 (by decide +kernel)
theorem dX6_lay_59 : decode cX6_lay 59 = .ok (.aload_n 0, 1) := rd_chunk (k := 0) (i := 59) kmX6_lay_0_e0 (by decide +kernel)
theorem dX6_lay_60 : decode cX6_lay 60 = .ok (.getfield 55, 3) := rd_chunk (k := 0) (i := 60) kmX6_lay_0_e0 (by decide +kernel)
theorem dX6_lay_63 : decode cX6_lay 63 = .ok (.getfield 79, 3) := rd_chunk (k := 0) (i := 63) kmX6_lay_0_e0 (by decide +kernel)
abbrev mX6_lay_64_e0 : ByteArray := .mk #[0x00, 0x4f, 0x15, 0x05, 0xb6, 0x00, 0x53, 0x7a, 0x04, 0x7e, 0x9a, 0x00, 0x07, 0x04, 0xa7, 0x00, 0x04, 0x03, 0x54, 0x84, 0x04, 0x01, 0xa7, 0xff, 0xc9, 0x2a, 0x04, 0x2a, 0xb4, 0x00, 0x34, 0xb6, 0x00, 0x59, 0x2a, 0xb4, 0x00, 0x34, 0x36, 0x04, 0x15, 0x04, 0x9b, 0x00, 0x16, 0x2a, 0xb4, 0x00, 0x16, 0x15, 0x04, 0x2a, 0x15, 0x04, 0xb6, 0x00, 0x5d, 0x4f, 0x84, 0x04, 0xff, 0xa7, 0xff, 0xeb, 0xb1]
theorem kmX6_lay_64_e0 : CK cX6_lay 64 mX6_lay_64_e0 := ck_of (by decide +kernel)
theorem dX6_lay_66 : decode cX6_lay 66 = .ok (.iload 5, 2) := rd_chunk (k := 64) (i := 2) kmX6_lay_64_e0 (by decide +kernel)
theorem dX6_lay_68 : decode cX6_lay 68 = .ok (.invokevirtual 83, 3) := rd_chunk (k := 64) (i := 4) kmX6_lay_64_e0 (by decide +kernel)
theorem dX6_lay_71 : decode cX6_lay 71 = .ok (.ishr, 1) := rd_chunk (k := 64) (i := 7) kmX6_lay_64_e0 (by decide +kernel)
theorem dX6_lay_72 : decode cX6_lay 72 = .ok (.iconst 1, 1) := rd_chunk (k := 64) (i := 8) kmX6_lay_64_e0 (by decide +kernel)
theorem dX6_lay_73 : decode cX6_lay 73 = .ok (.iand, 1) := rd_chunk (k := 64) (i := 9) kmX6_lay_64_e0 (by decide +kernel)
theorem dX6_lay_74 : decode cX6_lay 74 = .ok (.ifCond .ne 7, 3) := rd_chunk (k := 64) (i := 10) kmX6_lay_64_e0 (by decide +kernel)
theorem dX6_lay_77 : decode cX6_lay 77 = .ok (.iconst 1, 1) := rd_chunk (k := 64) (i := 13) kmX6_lay_64_e0 (by decide +kernel)
theorem dX6_lay_78 : decode cX6_lay 78 = .ok (.goto 4, 3) := rd_chunk (k := 64) (i := 14) kmX6_lay_64_e0 (by decide +kernel)
theorem dX6_lay_81 : decode cX6_lay 81 = .ok (.iconst 0, 1) := rd_chunk (k := 64) (i := 17) kmX6_lay_64_e0 (by decide +kernel)
theorem dX6_lay_82 : decode cX6_lay 82 = .ok (.bastore, 1) := rd_chunk (k := 64) (i := 18) kmX6_lay_64_e0 (by decide +kernel)
theorem dX6_lay_83 : decode cX6_lay 83 = .ok (.iinc 4 1, 3) := rd_chunk (k := 64) (i := 19) kmX6_lay_64_e0 (by decide +kernel)
theorem dX6_lay_86 : decode cX6_lay 86 = .ok (.goto (-55), 3) := rd_chunk (k := 64) (i := 22) kmX6_lay_64_e0 (by decide +kernel)
theorem dX6_lay_89 : decode cX6_lay 89 = .ok (.aload_n 0, 1) := rd_chunk (k := 64) (i := 25) kmX6_lay_64_e0 (by decide +kernel)
theorem dX6_lay_90 : decode cX6_lay 90 = .ok (.iconst 1, 1) := rd_chunk (k := 64) (i := 26) kmX6_lay_64_e0 (by decide +kernel)
theorem dX6_lay_91 : decode cX6_lay 91 = .ok (.aload_n 0, 1) := rd_chunk (k := 64) (i := 27) kmX6_lay_64_e0 (by decide +kernel)
theorem dX6_lay_92 : decode cX6_lay 92 = .ok (.getfield 52, 3) := rd_chunk (k := 64) (i := 28) kmX6_lay_64_e0 (by decide +kernel)
theorem dX6_lay_95 : decode cX6_lay 95 = .ok (.invokevirtual 89, 3) := rd_chunk (k := 64) (i := 31) kmX6_lay_64_e0 (by decide +kernel)
theorem dX6_lay_98 : decode cX6_lay 98 = .ok (.aload_n 0, 1) := rd_chunk (k := 64) (i := 34) kmX6_lay_64_e0 (by decide +kernel)
theorem dX6_lay_99 : decode cX6_lay 99 = .ok (.getfield 52, 3) := rd_chunk (k := 64) (i := 35) kmX6_lay_64_e0 (by decide +kernel)
theorem dX6_lay_102 : decode cX6_lay 102 = .ok (.istore 4, 2) := rd_chunk (k := 64) (i := 38) kmX6_lay_64_e0 (by decide +kernel)
theorem dX6_lay_104 : decode cX6_lay 104 = .ok (.iload 4, 2) := rd_chunk (k := 64) (i := 40) kmX6_lay_64_e0 (by decide +kernel)
theorem dX6_lay_106 : decode cX6_lay 106 = .ok (.ifCond .lt 22, 3) := rd_chunk (k := 64) (i := 42) kmX6_lay_64_e0 (by decide +kernel)
theorem dX6_lay_109 : decode cX6_lay 109 = .ok (.aload_n 0, 1) := rd_chunk (k := 64) (i := 45) kmX6_lay_64_e0 (by decide +kernel)
theorem dX6_lay_110 : decode cX6_lay 110 = .ok (.getfield 22, 3) := rd_chunk (k := 64) (i := 46) kmX6_lay_64_e0 (by decide +kernel)
theorem dX6_lay_113 : decode cX6_lay 113 = .ok (.iload 4, 2) := rd_chunk (k := 64) (i := 49) kmX6_lay_64_e0 (by decide +kernel)
theorem dX6_lay_115 : decode cX6_lay 115 = .ok (.aload_n 0, 1) := rd_chunk (k := 64) (i := 51) kmX6_lay_64_e0 (by decide +kernel)
theorem dX6_lay_116 : decode cX6_lay 116 = .ok (.iload 4, 2) := rd_chunk (k := 64) (i := 52) kmX6_lay_64_e0 (by decide +kernel)
theorem dX6_lay_118 : decode cX6_lay 118 = .ok (.invokevirtual 93, 3) := rd_chunk (k := 64) (i := 54) kmX6_lay_64_e0 (by decide +kernel)
theorem dX6_lay_121 : decode cX6_lay 121 = .ok (.iastore, 1) := rd_chunk (k := 64) (i := 57) kmX6_lay_64_e0 (by decide +kernel)
theorem dX6_lay_122 : decode cX6_lay 122 = .ok (.iinc 4 (-1), 3) := rd_chunk (k := 64) (i := 58) kmX6_lay_64_e0 (by decide +kernel)
theorem dX6_lay_125 : decode cX6_lay 125 = .ok (.goto (-21), 3) := rd_chunk (k := 64) (i := 61) kmX6_lay_64_e0 (by decide +kernel)
abbrev mX6_lay_128_e0 : ByteArray := .mk #[0xb1]
theorem kmX6_lay_128_e0 : CK cX6_lay 128 mX6_lay_128_e0 := ck_of (by decide +kernel)
theorem dX6_lay_128 : decode cX6_lay 128 = .ok (.return_, 1) := rd_chunk (k := 128) (i := 0) kmX6_lay_128_e0 (by decide +kernel)
abbrev mX6_measure_0_e0 : ByteArray := .mk #[0x1b, 0x04, 0xb8, 0x00, 0x60, 0x3e, 0x1d, 0x1c, 0xa3, 0x00, 0x70, 0x1d, 0x2a, 0xb4, 0x00, 0x34, 0xa3, 0x00, 0x68, 0x04, 0x36, 0x04, 0x15, 0x04, 0x2a, 0xb4, 0x00, 0x41, 0xa3, 0x00, 0x56, 0x15, 0x04, 0x1d, 0xa3, 0x00, 0x50, 0x2a, 0xb4, 0x00, 0x12, 0x1d, 0x33, 0x99, 0x00, 0x47, 0x1d, 0x15, 0x04, 0xb8, 0x00, 0x63, 0x36, 0x05, 0x2a, 0xb4, 0x00, 0x09, 0x15, 0x05, 0x2a, 0xb4, 0x00, 0x37, 0x1d, 0x15, 0x04, 0x64, 0x04, 0x64, 0x1d, 0x04]
theorem kmX6_measure_0_e0 : CK cX6_measure 0 mX6_measure_0_e0 := ck_of (by decide +kernel)
theorem dX6_measure_0 : decode cX6_measure 0 = .ok (.iload_n 1, 1) := rd_chunk (k := 0) (i := 0) kmX6_measure_0_e0 (by decide +kernel)
theorem dX6_measure_1 : decode cX6_measure 1 = .ok (.iconst 1, 1) := rd_chunk (k := 0) (i := 1) kmX6_measure_0_e0 (by decide +kernel)
theorem dX6_measure_2 : decode cX6_measure 2 = .ok (.invokestatic 96, 3) := rd_chunk (k := 0) (i := 2) kmX6_measure_0_e0 (by decide +kernel)
theorem dX6_measure_5 : decode cX6_measure 5 = .ok (.istore_n 3, 1) := rd_chunk (k := 0) (i := 5) kmX6_measure_0_e0 (by decide +kernel)
theorem dX6_measure_6 : decode cX6_measure 6 = .ok (.iload_n 3, 1) := rd_chunk (k := 0) (i := 6) kmX6_measure_0_e0 (by decide +kernel)
theorem dX6_measure_7 : decode cX6_measure 7 = .ok (.iload_n 2, 1) := rd_chunk (k := 0) (i := 7) kmX6_measure_0_e0 (by decide +kernel)
theorem dX6_measure_8 : decode cX6_measure 8 = .ok (.if_icmp .gt 112, 3) := rd_chunk (k := 0) (i := 8) kmX6_measure_0_e0 (by decide +kernel)
theorem dX6_measure_11 : decode cX6_measure 11 = .ok (.iload_n 3, 1) := rd_chunk (k := 0) (i := 11) kmX6_measure_0_e0 (by decide +kernel)
theorem dX6_measure_12 : decode cX6_measure 12 = .ok (.aload_n 0, 1) := rd_chunk (k := 0) (i := 12) kmX6_measure_0_e0 (by decide +kernel)
theorem dX6_measure_13 : decode cX6_measure 13 = .ok (.getfield 52, 3) := rd_chunk (k := 0) (i := 13) kmX6_measure_0_e0 (by decide +kernel)
theorem dX6_measure_16 : decode cX6_measure 16 = .ok (.if_icmp .gt 104, 3) := rd_chunk (k := 0) (i := 16) kmX6_measure_0_e0 (by decide +kernel)
theorem dX6_measure_19 : decode cX6_measure 19 = .ok (.iconst 1, 1) := rd_chunk (k := 0) (i := 19) kmX6_measure_0_e0 (by decide +kernel)
theorem dX6_measure_20 : decode cX6_measure 20 = .ok (.istore 4, 2) := rd_chunk (k := 0) (i := 20) kmX6_measure_0_e0 (by decide +kernel)
theorem dX6_measure_22 : decode cX6_measure 22 = .ok (.iload 4, 2) := rd_chunk (k := 0) (i := 22) kmX6_measure_0_e0 (by decide +kernel)
theorem dX6_measure_24 : decode cX6_measure 24 = .ok (.aload_n 0, 1) := rd_chunk (k := 0) (i := 24) kmX6_measure_0_e0 (by decide +kernel)
theorem dX6_measure_25 : decode cX6_measure 25 = .ok (.getfield 65, 3) := rd_chunk (k := 0) (i := 25) kmX6_measure_0_e0 (by decide +kernel)
theorem dX6_measure_28 : decode cX6_measure 28 = .ok (.if_icmp .gt 86, 3) := rd_chunk (k := 0) (i := 28) kmX6_measure_0_e0 (by decide +kernel)
theorem dX6_measure_31 : decode cX6_measure 31 = .ok (.iload 4, 2) := rd_chunk (k := 0) (i := 31) kmX6_measure_0_e0 (by decide +kernel)
theorem dX6_measure_33 : decode cX6_measure 33 = .ok (.iload_n 3, 1) := rd_chunk (k := 0) (i := 33) kmX6_measure_0_e0 (by decide +kernel)
theorem dX6_measure_34 : decode cX6_measure 34 = .ok (.if_icmp .gt 80, 3) := rd_chunk (k := 0) (i := 34) kmX6_measure_0_e0 (by decide +kernel)
theorem dX6_measure_37 : decode cX6_measure 37 = .ok (.aload_n 0, 1) := rd_chunk (k := 0) (i := 37) kmX6_measure_0_e0 (by decide +kernel)
theorem dX6_measure_38 : decode cX6_measure 38 = .ok (.getfield 18, 3) := rd_chunk (k := 0) (i := 38) kmX6_measure_0_e0 (by decide +kernel)
theorem dX6_measure_41 : decode cX6_measure 41 = .ok (.iload_n 3, 1) := rd_chunk (k := 0) (i := 41) kmX6_measure_0_e0 (by decide +kernel)
theorem dX6_measure_42 : decode cX6_measure 42 = .ok (.baload, 1) := rd_chunk (k := 0) (i := 42) kmX6_measure_0_e0 (by decide +kernel)
theorem dX6_measure_43 : decode cX6_measure 43 = .ok (.ifCond .eq 71, 3) := rd_chunk (k := 0) (i := 43) kmX6_measure_0_e0 (by decide +kernel)
theorem dX6_measure_46 : decode cX6_measure 46 = .ok (.iload_n 3, 1) := rd_chunk (k := 0) (i := 46) kmX6_measure_0_e0 (by decide +kernel)
theorem dX6_measure_47 : decode cX6_measure 47 = .ok (.iload 4, 2) := rd_chunk (k := 0) (i := 47) kmX6_measure_0_e0 (by decide +kernel)
theorem dX6_measure_49 : decode cX6_measure 49 = .ok (.invokestatic 99, 3) := rd_chunk (k := 0) (i := 49) kmX6_measure_0_e0 (by decide +kernel)
theorem dX6_measure_52 : decode cX6_measure 52 = .ok (.istore 5, 2) := rd_chunk (k := 0) (i := 52) kmX6_measure_0_e0 (by decide +kernel)
theorem dX6_measure_54 : decode cX6_measure 54 = .ok (.aload_n 0, 1) := rd_chunk (k := 0) (i := 54) kmX6_measure_0_e0 (by decide +kernel)
theorem dX6_measure_55 : decode cX6_measure 55 = .ok (.getfield 9, 3) := rd_chunk (k := 0) (i := 55) kmX6_measure_0_e0 (by decide +kernel)
theorem dX6_measure_58 : decode cX6_measure 58 = .ok (.iload 5, 2) := rd_chunk (k := 0) (i := 58) kmX6_measure_0_e0 (by decide +kernel)
theorem dX6_measure_60 : decode cX6_measure 60 = .ok (.aload_n 0, 1) := rd_chunk (k := 0) (i := 60) kmX6_measure_0_e0 (by decide +kernel)
theorem dX6_measure_61 : decode cX6_measure 61 = .ok (.getfield 55, 3) := rd_chunk (k := 0) (i := 61) kmX6_measure_0_e0 (by decide +kernel)
abbrev mX6_measure_64_e0 : ByteArray := .mk #[0x1d, 0x15, 0x04, 0x64, 0x04, 0x64, 0x1d, 0x04, 0x64, 0x2a, 0xb4, 0x00, 0x30, 0xb6, 0x00, 0x66, 0x4f, 0x2a, 0xb4, 0x00, 0x0f, 0x15, 0x05, 0x2a, 0xb4, 0x00, 0x37, 0x1d, 0x15, 0x04, 0x64, 0x04, 0x64, 0x1d, 0x04, 0x64, 0x2a, 0xb4, 0x00, 0x30, 0xb6, 0x00, 0x6a, 0x4f, 0x84, 0x04, 0x01, 0xa7, 0xff, 0xa7, 0x84, 0x03, 0x01, 0xa7, 0xff, 0x91, 0xb1]
theorem kmX6_measure_64_e0 : CK cX6_measure 64 mX6_measure_64_e0 := ck_of (by decide +kernel)
theorem dX6_measure_64 : decode cX6_measure 64 = .ok (.iload_n 3, 1) := rd_chunk (k := 64) (i := 0) kmX6_measure_64_e0 (by decide +kernel)
theorem dX6_measure_65 : decode cX6_measure 65 = .ok (.iload 4, 2) := rd_chunk (k := 64) (i := 1) kmX6_measure_64_e0 (by decide +kernel)
theorem dX6_measure_67 : decode cX6_measure 67 = .ok (.isub, 1) := rd_chunk (k := 64) (i := 3) kmX6_measure_64_e0 (by decide +kernel)
theorem dX6_measure_68 : decode cX6_measure 68 = .ok (.iconst 1, 1) := rd_chunk (k := 64) (i := 4) kmX6_measure_64_e0 (by decide +kernel)
theorem dX6_measure_69 : decode cX6_measure 69 = .ok (.isub, 1) := rd_chunk (k := 64) (i := 5) kmX6_measure_64_e0 (by decide +kernel)
theorem dX6_measure_70 : decode cX6_measure 70 = .ok (.iload_n 3, 1) := rd_chunk (k := 64) (i := 6) kmX6_measure_64_e0 (by decide +kernel)
theorem dX6_measure_71 : decode cX6_measure 71 = .ok (.iconst 1, 1) := rd_chunk (k := 64) (i := 7) kmX6_measure_64_e0 (by decide +kernel)
theorem dX6_measure_72 : decode cX6_measure 72 = .ok (.isub, 1) := rd_chunk (k := 64) (i := 8) kmX6_measure_64_e0 (by decide +kernel)
theorem dX6_measure_73 : decode cX6_measure 73 = .ok (.aload_n 0, 1) := rd_chunk (k := 64) (i := 9) kmX6_measure_64_e0 (by decide +kernel)
theorem dX6_measure_74 : decode cX6_measure 74 = .ok (.getfield 48, 3) := rd_chunk (k := 64) (i := 10) kmX6_measure_64_e0 (by decide +kernel)
theorem dX6_measure_77 : decode cX6_measure 77 = .ok (.invokevirtual 102, 3) := rd_chunk (k := 64) (i := 13) kmX6_measure_64_e0 (by decide +kernel)
theorem dX6_measure_80 : decode cX6_measure 80 = .ok (.iastore, 1) := rd_chunk (k := 64) (i := 16) kmX6_measure_64_e0 (by decide +kernel)
theorem dX6_measure_81 : decode cX6_measure 81 = .ok (.aload_n 0, 1) := rd_chunk (k := 64) (i := 17) kmX6_measure_64_e0 (by decide +kernel)
theorem dX6_measure_82 : decode cX6_measure 82 = .ok (.getfield 15, 3) := rd_chunk (k := 64) (i := 18) kmX6_measure_64_e0 (by decide +kernel)
theorem dX6_measure_85 : decode cX6_measure 85 = .ok (.iload 5, 2) := rd_chunk (k := 64) (i := 21) kmX6_measure_64_e0 (by decide +kernel)
theorem dX6_measure_87 : decode cX6_measure 87 = .ok (.aload_n 0, 1) := rd_chunk (k := 64) (i := 23) kmX6_measure_64_e0 (by decide +kernel)
theorem dX6_measure_88 : decode cX6_measure 88 = .ok (.getfield 55, 3) := rd_chunk (k := 64) (i := 24) kmX6_measure_64_e0 (by decide +kernel)
theorem dX6_measure_91 : decode cX6_measure 91 = .ok (.iload_n 3, 1) := rd_chunk (k := 64) (i := 27) kmX6_measure_64_e0 (by decide +kernel)
theorem dX6_measure_92 : decode cX6_measure 92 = .ok (.iload 4, 2) := rd_chunk (k := 64) (i := 28) kmX6_measure_64_e0 (by decide +kernel)
theorem dX6_measure_94 : decode cX6_measure 94 = .ok (.isub, 1) := rd_chunk (k := 64) (i := 30) kmX6_measure_64_e0 (by decide +kernel)
theorem dX6_measure_95 : decode cX6_measure 95 = .ok (.iconst 1, 1) := rd_chunk (k := 64) (i := 31) kmX6_measure_64_e0 (by decide +kernel)
theorem dX6_measure_96 : decode cX6_measure 96 = .ok (.isub, 1) := rd_chunk (k := 64) (i := 32) kmX6_measure_64_e0 (by decide +kernel)
theorem dX6_measure_97 : decode cX6_measure 97 = .ok (.iload_n 3, 1) := rd_chunk (k := 64) (i := 33) kmX6_measure_64_e0 (by decide +kernel)
theorem dX6_measure_98 : decode cX6_measure 98 = .ok (.iconst 1, 1) := rd_chunk (k := 64) (i := 34) kmX6_measure_64_e0 (by decide +kernel)
theorem dX6_measure_99 : decode cX6_measure 99 = .ok (.isub, 1) := rd_chunk (k := 64) (i := 35) kmX6_measure_64_e0 (by decide +kernel)
theorem dX6_measure_100 : decode cX6_measure 100 = .ok (.aload_n 0, 1) := rd_chunk (k := 64) (i := 36) kmX6_measure_64_e0 (by decide +kernel)
theorem dX6_measure_101 : decode cX6_measure 101 = .ok (.getfield 48, 3) := rd_chunk (k := 64) (i := 37) kmX6_measure_64_e0 (by decide +kernel)
theorem dX6_measure_104 : decode cX6_measure 104 = .ok (.invokevirtual 106, 3) := rd_chunk (k := 64) (i := 40) kmX6_measure_64_e0 (by decide +kernel)
theorem dX6_measure_107 : decode cX6_measure 107 = .ok (.iastore, 1) := rd_chunk (k := 64) (i := 43) kmX6_measure_64_e0 (by decide +kernel)
theorem dX6_measure_108 : decode cX6_measure 108 = .ok (.iinc 4 1, 3) := rd_chunk (k := 64) (i := 44) kmX6_measure_64_e0 (by decide +kernel)
theorem dX6_measure_111 : decode cX6_measure 111 = .ok (.goto (-89), 3) := rd_chunk (k := 64) (i := 47) kmX6_measure_64_e0 (by decide +kernel)
theorem dX6_measure_114 : decode cX6_measure 114 = .ok (.iinc 3 1, 3) := rd_chunk (k := 64) (i := 50) kmX6_measure_64_e0 (by decide +kernel)
theorem dX6_measure_117 : decode cX6_measure 117 = .ok (.goto (-111), 3) := rd_chunk (k := 64) (i := 53) kmX6_measure_64_e0 (by decide +kernel)
theorem dX6_measure_120 : decode cX6_measure 120 = .ok (.return_, 1) := rd_chunk (k := 64) (i := 56) kmX6_measure_64_e0 (by decide +kernel)
theorem dX6_moveTo_0 : decode cX6_moveTo 0 = .ok (.iload_n 0, 1) := by decide +kernel
theorem dX6_moveTo_1 : decode cX6_moveTo 1 = .ok (.iconst 3, 1) := by decide +kernel
theorem dX6_moveTo_2 : decode cX6_moveTo 2 = .ok (.imul, 1) := by decide +kernel
theorem dX6_moveTo_3 : decode cX6_moveTo 3 = .ok (.iload_n 1, 1) := by decide +kernel
theorem dX6_moveTo_4 : decode cX6_moveTo 4 = .ok (.iadd, 1) := by decide +kernel
theorem dX6_moveTo_5 : decode cX6_moveTo 5 = .ok (.iconst 1, 1) := by decide +kernel
theorem dX6_moveTo_6 : decode cX6_moveTo 6 = .ok (.isub, 1) := by decide +kernel
theorem dX6_moveTo_7 : decode cX6_moveTo 7 = .ok (.ireturn, 1) := by decide +kernel
theorem dX6_keyOf_0 : decode cX6_keyOf 0 = .ok (.iload_n 1, 1) := by decide +kernel
theorem dX6_keyOf_1 : decode cX6_keyOf 1 = .ok (.iload_n 2, 1) := by decide +kernel
theorem dX6_keyOf_2 : decode cX6_keyOf 2 = .ok (.invokestatic 99, 3) := by decide +kernel
theorem dX6_keyOf_5 : decode cX6_keyOf 5 = .ok (.istore_n 3, 1) := by decide +kernel
theorem dX6_keyOf_6 : decode cX6_keyOf 6 = .ok (.aload_n 0, 1) := by decide +kernel
theorem dX6_keyOf_7 : decode cX6_keyOf 7 = .ok (.getfield 9, 3) := by decide +kernel
theorem dX6_keyOf_10 : decode cX6_keyOf 10 = .ok (.iload_n 3, 1) := by decide +kernel
theorem dX6_keyOf_11 : decode cX6_keyOf 11 = .ok (.iaload, 1) := by decide +kernel
theorem dX6_keyOf_12 : decode cX6_keyOf 12 = .ok (.i2l, 1) := by decide +kernel
theorem dX6_keyOf_13 : decode cX6_keyOf 13 = .ok (.bipush 41, 2) := by decide +kernel
theorem dX6_keyOf_15 : decode cX6_keyOf 15 = .ok (.lshl, 1) := by decide +kernel
theorem dX6_keyOf_16 : decode cX6_keyOf 16 = .ok (.aload_n 0, 1) := by decide +kernel
theorem dX6_keyOf_17 : decode cX6_keyOf 17 = .ok (.getfield 15, 3) := by decide +kernel
theorem dX6_keyOf_20 : decode cX6_keyOf 20 = .ok (.iload_n 3, 1) := by decide +kernel
theorem dX6_keyOf_21 : decode cX6_keyOf 21 = .ok (.iaload, 1) := by decide +kernel
theorem dX6_keyOf_22 : decode cX6_keyOf 22 = .ok (.i2l, 1) := by decide +kernel
theorem dX6_keyOf_23 : decode cX6_keyOf 23 = .ok (.bipush 29, 2) := by decide +kernel
theorem dX6_keyOf_25 : decode cX6_keyOf 25 = .ok (.lshl, 1) := by decide +kernel
theorem dX6_keyOf_26 : decode cX6_keyOf 26 = .ok (.ladd, 1) := by decide +kernel
theorem dX6_keyOf_27 : decode cX6_keyOf 27 = .ok (.ldc2_w 109, 3) := by decide +kernel
theorem dX6_keyOf_30 : decode cX6_keyOf 30 = .ok (.ladd, 1) := by decide +kernel
theorem dX6_keyOf_31 : decode cX6_keyOf 31 = .ok (.iload_n 1, 1) := by decide +kernel
theorem dX6_keyOf_32 : decode cX6_keyOf 32 = .ok (.iconst 1, 1) := by decide +kernel
theorem dX6_keyOf_33 : decode cX6_keyOf 33 = .ok (.isub, 1) := by decide +kernel
theorem dX6_keyOf_34 : decode cX6_keyOf 34 = .ok (.invokestatic 111, 3) := by decide +kernel
theorem dX6_keyOf_37 : decode cX6_keyOf 37 = .ok (.lsub, 1) := by decide +kernel
theorem dX6_keyOf_38 : decode cX6_keyOf 38 = .ok (.lreturn, 1) := by decide +kernel
abbrev mX6_leastEffortUp_0_e0 : ByteArray := .mk #[0x1b, 0x2a, 0xb4, 0x00, 0x34, 0xa0, 0x00, 0x10, 0x2a, 0xb4, 0x00, 0x12, 0x1b, 0x33, 0x99, 0x00, 0x07, 0x03, 0xa7, 0x00, 0x05, 0x12, 0x73, 0x3d, 0x04, 0x3e, 0x1d, 0x2a, 0xb4, 0x00, 0x41, 0xa3, 0x00, 0x41, 0x1b, 0x1d, 0x60, 0x2a, 0xb4, 0x00, 0x34, 0xa3, 0x00, 0x37, 0x2a, 0xb4, 0x00, 0x12, 0x1b, 0x33, 0x99, 0x00, 0x28, 0x2a, 0xb4, 0x00, 0x12, 0x1b, 0x1d, 0x60, 0x33, 0x99, 0x00, 0x1d, 0x1c, 0x2a, 0xb4, 0x00, 0x0f, 0x1b, 0x1d, 0x60]
theorem kmX6_leastEffortUp_0_e0 : CK cX6_leastEffortUp 0 mX6_leastEffortUp_0_e0 := ck_of (by decide +kernel)
theorem dX6_leastEffortUp_0 : decode cX6_leastEffortUp 0 = .ok (.iload_n 1, 1) := rd_chunk (k := 0) (i := 0) kmX6_leastEffortUp_0_e0 (by decide +kernel)
theorem dX6_leastEffortUp_1 : decode cX6_leastEffortUp 1 = .ok (.aload_n 0, 1) := rd_chunk (k := 0) (i := 1) kmX6_leastEffortUp_0_e0 (by decide +kernel)
theorem dX6_leastEffortUp_2 : decode cX6_leastEffortUp 2 = .ok (.getfield 52, 3) := rd_chunk (k := 0) (i := 2) kmX6_leastEffortUp_0_e0 (by decide +kernel)
theorem dX6_leastEffortUp_5 : decode cX6_leastEffortUp 5 = .ok (.if_icmp .ne 16, 3) := rd_chunk (k := 0) (i := 5) kmX6_leastEffortUp_0_e0 (by decide +kernel)
theorem dX6_leastEffortUp_8 : decode cX6_leastEffortUp 8 = .ok (.aload_n 0, 1) := rd_chunk (k := 0) (i := 8) kmX6_leastEffortUp_0_e0 (by decide +kernel)
theorem dX6_leastEffortUp_9 : decode cX6_leastEffortUp 9 = .ok (.getfield 18, 3) := rd_chunk (k := 0) (i := 9) kmX6_leastEffortUp_0_e0 (by decide +kernel)
theorem dX6_leastEffortUp_12 : decode cX6_leastEffortUp 12 = .ok (.iload_n 1, 1) := rd_chunk (k := 0) (i := 12) kmX6_leastEffortUp_0_e0 (by decide +kernel)
theorem dX6_leastEffortUp_13 : decode cX6_leastEffortUp 13 = .ok (.baload, 1) := rd_chunk (k := 0) (i := 13) kmX6_leastEffortUp_0_e0 (by decide +kernel)
theorem dX6_leastEffortUp_14 : decode cX6_leastEffortUp 14 = .ok (.ifCond .eq 7, 3) := rd_chunk (k := 0) (i := 14) kmX6_leastEffortUp_0_e0 (by decide +kernel)
theorem dX6_leastEffortUp_17 : decode cX6_leastEffortUp 17 = .ok (.iconst 0, 1) := rd_chunk (k := 0) (i := 17) kmX6_leastEffortUp_0_e0 (by decide +kernel)
theorem dX6_leastEffortUp_18 : decode cX6_leastEffortUp 18 = .ok (.goto 5, 3) := rd_chunk (k := 0) (i := 18) kmX6_leastEffortUp_0_e0 (by decide +kernel)
theorem dX6_leastEffortUp_21 : decode cX6_leastEffortUp 21 = .ok (.ldc 115, 2) := rd_chunk (k := 0) (i := 21) kmX6_leastEffortUp_0_e0 (by decide +kernel)
theorem dX6_leastEffortUp_23 : decode cX6_leastEffortUp 23 = .ok (.istore_n 2, 1) := rd_chunk (k := 0) (i := 23) kmX6_leastEffortUp_0_e0 (by decide +kernel)
theorem dX6_leastEffortUp_24 : decode cX6_leastEffortUp 24 = .ok (.iconst 1, 1) := rd_chunk (k := 0) (i := 24) kmX6_leastEffortUp_0_e0 (by decide +kernel)
theorem dX6_leastEffortUp_25 : decode cX6_leastEffortUp 25 = .ok (.istore_n 3, 1) := rd_chunk (k := 0) (i := 25) kmX6_leastEffortUp_0_e0 (by decide +kernel)
theorem dX6_leastEffortUp_26 : decode cX6_leastEffortUp 26 = .ok (.iload_n 3, 1) := rd_chunk (k := 0) (i := 26) kmX6_leastEffortUp_0_e0 (by decide +kernel)
theorem dX6_leastEffortUp_27 : decode cX6_leastEffortUp 27 = .ok (.aload_n 0, 1) := rd_chunk (k := 0) (i := 27) kmX6_leastEffortUp_0_e0 (by decide +kernel)
theorem dX6_leastEffortUp_28 : decode cX6_leastEffortUp 28 = .ok (.getfield 65, 3) := rd_chunk (k := 0) (i := 28) kmX6_leastEffortUp_0_e0 (by decide +kernel)
theorem dX6_leastEffortUp_31 : decode cX6_leastEffortUp 31 = .ok (.if_icmp .gt 65, 3) := rd_chunk (k := 0) (i := 31) kmX6_leastEffortUp_0_e0 (by decide +kernel)
theorem dX6_leastEffortUp_34 : decode cX6_leastEffortUp 34 = .ok (.iload_n 1, 1) := rd_chunk (k := 0) (i := 34) kmX6_leastEffortUp_0_e0 (by decide +kernel)
theorem dX6_leastEffortUp_35 : decode cX6_leastEffortUp 35 = .ok (.iload_n 3, 1) := rd_chunk (k := 0) (i := 35) kmX6_leastEffortUp_0_e0 (by decide +kernel)
theorem dX6_leastEffortUp_36 : decode cX6_leastEffortUp 36 = .ok (.iadd, 1) := rd_chunk (k := 0) (i := 36) kmX6_leastEffortUp_0_e0 (by decide +kernel)
theorem dX6_leastEffortUp_37 : decode cX6_leastEffortUp 37 = .ok (.aload_n 0, 1) := rd_chunk (k := 0) (i := 37) kmX6_leastEffortUp_0_e0 (by decide +kernel)
theorem dX6_leastEffortUp_38 : decode cX6_leastEffortUp 38 = .ok (.getfield 52, 3) := rd_chunk (k := 0) (i := 38) kmX6_leastEffortUp_0_e0 (by decide +kernel)
theorem dX6_leastEffortUp_41 : decode cX6_leastEffortUp 41 = .ok (.if_icmp .gt 55, 3) := rd_chunk (k := 0) (i := 41) kmX6_leastEffortUp_0_e0 (by decide +kernel)
theorem dX6_leastEffortUp_44 : decode cX6_leastEffortUp 44 = .ok (.aload_n 0, 1) := rd_chunk (k := 0) (i := 44) kmX6_leastEffortUp_0_e0 (by decide +kernel)
theorem dX6_leastEffortUp_45 : decode cX6_leastEffortUp 45 = .ok (.getfield 18, 3) := rd_chunk (k := 0) (i := 45) kmX6_leastEffortUp_0_e0 (by decide +kernel)
theorem dX6_leastEffortUp_48 : decode cX6_leastEffortUp 48 = .ok (.iload_n 1, 1) := rd_chunk (k := 0) (i := 48) kmX6_leastEffortUp_0_e0 (by decide +kernel)
theorem dX6_leastEffortUp_49 : decode cX6_leastEffortUp 49 = .ok (.baload, 1) := rd_chunk (k := 0) (i := 49) kmX6_leastEffortUp_0_e0 (by decide +kernel)
theorem dX6_leastEffortUp_50 : decode cX6_leastEffortUp 50 = .ok (.ifCond .eq 40, 3) := rd_chunk (k := 0) (i := 50) kmX6_leastEffortUp_0_e0 (by decide +kernel)
theorem dX6_leastEffortUp_53 : decode cX6_leastEffortUp 53 = .ok (.aload_n 0, 1) := rd_chunk (k := 0) (i := 53) kmX6_leastEffortUp_0_e0 (by decide +kernel)
theorem dX6_leastEffortUp_54 : decode cX6_leastEffortUp 54 = .ok (.getfield 18, 3) := rd_chunk (k := 0) (i := 54) kmX6_leastEffortUp_0_e0 (by decide +kernel)
theorem dX6_leastEffortUp_57 : decode cX6_leastEffortUp 57 = .ok (.iload_n 1, 1) := rd_chunk (k := 0) (i := 57) kmX6_leastEffortUp_0_e0 (by decide +kernel)
theorem dX6_leastEffortUp_58 : decode cX6_leastEffortUp 58 = .ok (.iload_n 3, 1) := rd_chunk (k := 0) (i := 58) kmX6_leastEffortUp_0_e0 (by decide +kernel)
theorem dX6_leastEffortUp_59 : decode cX6_leastEffortUp 59 = .ok (.iadd, 1) := rd_chunk (k := 0) (i := 59) kmX6_leastEffortUp_0_e0 (by decide +kernel)
theorem dX6_leastEffortUp_60 : decode cX6_leastEffortUp 60 = .ok (.baload, 1) := rd_chunk (k := 0) (i := 60) kmX6_leastEffortUp_0_e0 (by decide +kernel)
theorem dX6_leastEffortUp_61 : decode cX6_leastEffortUp 61 = .ok (.ifCond .eq 29, 3) := rd_chunk (k := 0) (i := 61) kmX6_leastEffortUp_0_e0 (by decide +kernel)
abbrev mX6_leastEffortUp_64_e0 : ByteArray := .mk #[0x1c, 0x2a, 0xb4, 0x00, 0x0f, 0x1b, 0x1d, 0x60, 0x1d, 0xb8, 0x00, 0x63, 0x2e, 0x2a, 0xb4, 0x00, 0x16, 0x1b, 0x1d, 0x60, 0x2e, 0x60, 0xb8, 0x00, 0x49, 0x3d, 0x84, 0x03, 0x01, 0xa7, 0xff, 0xbd, 0x1c, 0xac]
theorem kmX6_leastEffortUp_64_e0 : CK cX6_leastEffortUp 64 mX6_leastEffortUp_64_e0 := ck_of (by decide +kernel)
theorem dX6_leastEffortUp_64 : decode cX6_leastEffortUp 64 = .ok (.iload_n 2, 1) := rd_chunk (k := 64) (i := 0) kmX6_leastEffortUp_64_e0 (by decide +kernel)
theorem dX6_leastEffortUp_65 : decode cX6_leastEffortUp 65 = .ok (.aload_n 0, 1) := rd_chunk (k := 64) (i := 1) kmX6_leastEffortUp_64_e0 (by decide +kernel)
theorem dX6_leastEffortUp_66 : decode cX6_leastEffortUp 66 = .ok (.getfield 15, 3) := rd_chunk (k := 64) (i := 2) kmX6_leastEffortUp_64_e0 (by decide +kernel)
theorem dX6_leastEffortUp_69 : decode cX6_leastEffortUp 69 = .ok (.iload_n 1, 1) := rd_chunk (k := 64) (i := 5) kmX6_leastEffortUp_64_e0 (by decide +kernel)
theorem dX6_leastEffortUp_70 : decode cX6_leastEffortUp 70 = .ok (.iload_n 3, 1) := rd_chunk (k := 64) (i := 6) kmX6_leastEffortUp_64_e0 (by decide +kernel)
theorem dX6_leastEffortUp_71 : decode cX6_leastEffortUp 71 = .ok (.iadd, 1) := rd_chunk (k := 64) (i := 7) kmX6_leastEffortUp_64_e0 (by decide +kernel)
theorem dX6_leastEffortUp_72 : decode cX6_leastEffortUp 72 = .ok (.iload_n 3, 1) := rd_chunk (k := 64) (i := 8) kmX6_leastEffortUp_64_e0 (by decide +kernel)
theorem dX6_leastEffortUp_73 : decode cX6_leastEffortUp 73 = .ok (.invokestatic 99, 3) := rd_chunk (k := 64) (i := 9) kmX6_leastEffortUp_64_e0 (by decide +kernel)
theorem dX6_leastEffortUp_76 : decode cX6_leastEffortUp 76 = .ok (.iaload, 1) := rd_chunk (k := 64) (i := 12) kmX6_leastEffortUp_64_e0 (by decide +kernel)
theorem dX6_leastEffortUp_77 : decode cX6_leastEffortUp 77 = .ok (.aload_n 0, 1) := rd_chunk (k := 64) (i := 13) kmX6_leastEffortUp_64_e0 (by decide +kernel)
theorem dX6_leastEffortUp_78 : decode cX6_leastEffortUp 78 = .ok (.getfield 22, 3) := rd_chunk (k := 64) (i := 14) kmX6_leastEffortUp_64_e0 (by decide +kernel)
theorem dX6_leastEffortUp_81 : decode cX6_leastEffortUp 81 = .ok (.iload_n 1, 1) := rd_chunk (k := 64) (i := 17) kmX6_leastEffortUp_64_e0 (by decide +kernel)
theorem dX6_leastEffortUp_82 : decode cX6_leastEffortUp 82 = .ok (.iload_n 3, 1) := rd_chunk (k := 64) (i := 18) kmX6_leastEffortUp_64_e0 (by decide +kernel)
theorem dX6_leastEffortUp_83 : decode cX6_leastEffortUp 83 = .ok (.iadd, 1) := rd_chunk (k := 64) (i := 19) kmX6_leastEffortUp_64_e0 (by decide +kernel)
theorem dX6_leastEffortUp_84 : decode cX6_leastEffortUp 84 = .ok (.iaload, 1) := rd_chunk (k := 64) (i := 20) kmX6_leastEffortUp_64_e0 (by decide +kernel)
theorem dX6_leastEffortUp_85 : decode cX6_leastEffortUp 85 = .ok (.iadd, 1) := rd_chunk (k := 64) (i := 21) kmX6_leastEffortUp_64_e0 (by decide +kernel)
theorem dX6_leastEffortUp_86 : decode cX6_leastEffortUp 86 = .ok (.invokestatic 73, 3) := rd_chunk (k := 64) (i := 22) kmX6_leastEffortUp_64_e0 (by decide +kernel)
theorem dX6_leastEffortUp_89 : decode cX6_leastEffortUp 89 = .ok (.istore_n 2, 1) := rd_chunk (k := 64) (i := 25) kmX6_leastEffortUp_64_e0 (by decide +kernel)
theorem dX6_leastEffortUp_90 : decode cX6_leastEffortUp 90 = .ok (.iinc 3 1, 3) := rd_chunk (k := 64) (i := 26) kmX6_leastEffortUp_64_e0 (by decide +kernel)
theorem dX6_leastEffortUp_93 : decode cX6_leastEffortUp 93 = .ok (.goto (-67), 3) := rd_chunk (k := 64) (i := 29) kmX6_leastEffortUp_64_e0 (by decide +kernel)
theorem dX6_leastEffortUp_96 : decode cX6_leastEffortUp 96 = .ok (.iload_n 2, 1) := rd_chunk (k := 64) (i := 32) kmX6_leastEffortUp_64_e0 (by decide +kernel)
theorem dX6_leastEffortUp_97 : decode cX6_leastEffortUp 97 = .ok (.ireturn, 1) := rd_chunk (k := 64) (i := 33) kmX6_leastEffortUp_64_e0 (by decide +kernel)
theorem dX6_leastEffortFrom_0 : decode cX6_leastEffortFrom 0 = .ok (.iload_n 1, 1) := by decide +kernel
theorem dX6_leastEffortFrom_1 : decode cX6_leastEffortFrom 1 = .ok (.ifCond .ne 7, 3) := by decide +kernel
theorem dX6_leastEffortFrom_4 : decode cX6_leastEffortFrom 4 = .ok (.iconst 0, 1) := by decide +kernel
theorem dX6_leastEffortFrom_5 : decode cX6_leastEffortFrom 5 = .ok (.goto 5, 3) := by decide +kernel
theorem dX6_leastEffortFrom_8 : decode cX6_leastEffortFrom 8 = .ok (.ldc 115, 2) := by decide +kernel
theorem dX6_leastEffortFrom_10 : decode cX6_leastEffortFrom 10 = .ok (.istore_n 2, 1) := by decide +kernel
theorem dX6_leastEffortFrom_11 : decode cX6_leastEffortFrom 11 = .ok (.iconst 1, 1) := by decide +kernel
theorem dX6_leastEffortFrom_12 : decode cX6_leastEffortFrom 12 = .ok (.istore_n 3, 1) := by decide +kernel
theorem dX6_leastEffortFrom_13 : decode cX6_leastEffortFrom 13 = .ok (.iload_n 3, 1) := by decide +kernel
theorem dX6_leastEffortFrom_14 : decode cX6_leastEffortFrom 14 = .ok (.aload_n 0, 1) := by decide +kernel
theorem dX6_leastEffortFrom_15 : decode cX6_leastEffortFrom 15 = .ok (.getfield 65, 3) := by decide +kernel
theorem dX6_leastEffortFrom_18 : decode cX6_leastEffortFrom 18 = .ok (.if_icmp .gt 47, 3) := by decide +kernel
theorem dX6_leastEffortFrom_21 : decode cX6_leastEffortFrom 21 = .ok (.iload_n 3, 1) := by decide +kernel
theorem dX6_leastEffortFrom_22 : decode cX6_leastEffortFrom 22 = .ok (.iload_n 1, 1) := by decide +kernel
theorem dX6_leastEffortFrom_23 : decode cX6_leastEffortFrom 23 = .ok (.if_icmp .gt 42, 3) := by decide +kernel
theorem dX6_leastEffortFrom_26 : decode cX6_leastEffortFrom 26 = .ok (.aload_n 0, 1) := by decide +kernel
theorem dX6_leastEffortFrom_27 : decode cX6_leastEffortFrom 27 = .ok (.getfield 18, 3) := by decide +kernel
theorem dX6_leastEffortFrom_30 : decode cX6_leastEffortFrom 30 = .ok (.iload_n 1, 1) := by decide +kernel
theorem dX6_leastEffortFrom_31 : decode cX6_leastEffortFrom 31 = .ok (.baload, 1) := by decide +kernel
theorem dX6_leastEffortFrom_32 : decode cX6_leastEffortFrom 32 = .ok (.ifCond .eq 33, 3) := by decide +kernel
theorem dX6_leastEffortFrom_35 : decode cX6_leastEffortFrom 35 = .ok (.iload_n 2, 1) := by decide +kernel
theorem dX6_leastEffortFrom_36 : decode cX6_leastEffortFrom 36 = .ok (.aload_n 0, 1) := by decide +kernel
theorem dX6_leastEffortFrom_37 : decode cX6_leastEffortFrom 37 = .ok (.getfield 15, 3) := by decide +kernel
theorem dX6_leastEffortFrom_40 : decode cX6_leastEffortFrom 40 = .ok (.iload_n 1, 1) := by decide +kernel
theorem dX6_leastEffortFrom_41 : decode cX6_leastEffortFrom 41 = .ok (.iload_n 3, 1) := by decide +kernel
theorem dX6_leastEffortFrom_42 : decode cX6_leastEffortFrom 42 = .ok (.invokestatic 99, 3) := by decide +kernel
theorem dX6_leastEffortFrom_45 : decode cX6_leastEffortFrom 45 = .ok (.iaload, 1) := by decide +kernel
theorem dX6_leastEffortFrom_46 : decode cX6_leastEffortFrom 46 = .ok (.aload_n 0, 1) := by decide +kernel
theorem dX6_leastEffortFrom_47 : decode cX6_leastEffortFrom 47 = .ok (.getfield 25, 3) := by decide +kernel
theorem dX6_leastEffortFrom_50 : decode cX6_leastEffortFrom 50 = .ok (.iload_n 1, 1) := by decide +kernel
theorem dX6_leastEffortFrom_51 : decode cX6_leastEffortFrom 51 = .ok (.iload_n 3, 1) := by decide +kernel
theorem dX6_leastEffortFrom_52 : decode cX6_leastEffortFrom 52 = .ok (.isub, 1) := by decide +kernel
theorem dX6_leastEffortFrom_53 : decode cX6_leastEffortFrom 53 = .ok (.iaload, 1) := by decide +kernel
theorem dX6_leastEffortFrom_54 : decode cX6_leastEffortFrom 54 = .ok (.iadd, 1) := by decide +kernel
theorem dX6_leastEffortFrom_55 : decode cX6_leastEffortFrom 55 = .ok (.invokestatic 73, 3) := by decide +kernel
theorem dX6_leastEffortFrom_58 : decode cX6_leastEffortFrom 58 = .ok (.istore_n 2, 1) := by decide +kernel
theorem dX6_leastEffortFrom_59 : decode cX6_leastEffortFrom 59 = .ok (.iinc 3 1, 3) := by decide +kernel
theorem dX6_leastEffortFrom_62 : decode cX6_leastEffortFrom 62 = .ok (.goto (-49), 3) := by decide +kernel
theorem dX6_leastEffortFrom_65 : decode cX6_leastEffortFrom 65 = .ok (.iload_n 2, 1) := by decide +kernel
theorem dX6_leastEffortFrom_66 : decode cX6_leastEffortFrom 66 = .ok (.ireturn, 1) := by decide +kernel
theorem dX6_feed_0 : decode cX6_feed 0 = .ok (.aload_n 1, 1) := by decide +kernel
theorem dX6_feed_1 : decode cX6_feed 1 = .ok (.iload_n 2, 1) := by decide +kernel
theorem dX6_feed_2 : decode cX6_feed 2 = .ok (.invokevirtual 116, 3) := by decide +kernel
theorem dX6_feed_5 : decode cX6_feed 5 = .ok (.iconst 1, 1) := by decide +kernel
theorem dX6_feed_6 : decode cX6_feed 6 = .ok (.istore 6, 2) := by decide +kernel
theorem dX6_feed_8 : decode cX6_feed 8 = .ok (.iload 6, 2) := by decide +kernel
theorem dX6_feed_10 : decode cX6_feed 10 = .ok (.aload_n 0, 1) := by decide +kernel
theorem dX6_feed_11 : decode cX6_feed 11 = .ok (.getfield 65, 3) := by decide +kernel
theorem dX6_feed_14 : decode cX6_feed 14 = .ok (.if_icmp .gt 72, 3) := by decide +kernel
theorem dX6_feed_17 : decode cX6_feed 17 = .ok (.iload 6, 2) := by decide +kernel
theorem dX6_feed_19 : decode cX6_feed 19 = .ok (.iload_n 2, 1) := by decide +kernel
theorem dX6_feed_20 : decode cX6_feed 20 = .ok (.if_icmp .gt 66, 3) := by decide +kernel
theorem dX6_feed_23 : decode cX6_feed 23 = .ok (.aload_n 0, 1) := by decide +kernel
theorem dX6_feed_24 : decode cX6_feed 24 = .ok (.getfield 18, 3) := by decide +kernel
theorem dX6_feed_27 : decode cX6_feed 27 = .ok (.iload_n 2, 1) := by decide +kernel
theorem dX6_feed_28 : decode cX6_feed 28 = .ok (.baload, 1) := by decide +kernel
theorem dX6_feed_29 : decode cX6_feed 29 = .ok (.ifCond .eq 57, 3) := by decide +kernel
theorem dX6_feed_32 : decode cX6_feed 32 = .ok (.iload_n 2, 1) := by decide +kernel
theorem dX6_feed_33 : decode cX6_feed 33 = .ok (.iload 6, 2) := by decide +kernel
theorem dX6_feed_35 : decode cX6_feed 35 = .ok (.isub, 1) := by decide +kernel
theorem dX6_feed_36 : decode cX6_feed 36 = .ok (.iload 5, 2) := by decide +kernel
theorem dX6_feed_38 : decode cX6_feed 38 = .ok (.iconst 1, 1) := by decide +kernel
theorem dX6_feed_39 : decode cX6_feed 39 = .ok (.iadd, 1) := by decide +kernel
theorem dX6_feed_40 : decode cX6_feed 40 = .ok (.if_icmp .ge 15, 3) := by decide +kernel
theorem dX6_feed_43 : decode cX6_feed 43 = .ok (.iload 5, 2) := by decide +kernel
theorem dX6_feed_45 : decode cX6_feed 45 = .ok (.iconst 1, 1) := by decide +kernel
theorem dX6_feed_46 : decode cX6_feed 46 = .ok (.iadd, 1) := by decide +kernel
theorem dX6_feed_47 : decode cX6_feed 47 = .ok (.iload_n 2, 1) := by decide +kernel
theorem dX6_feed_48 : decode cX6_feed 48 = .ok (.if_icmp .ge 7, 3) := by decide +kernel
theorem dX6_feed_51 : decode cX6_feed 51 = .ok (.iconst 1, 1) := by decide +kernel
theorem dX6_feed_52 : decode cX6_feed 52 = .ok (.goto 4, 3) := by decide +kernel
theorem dX6_feed_55 : decode cX6_feed 55 = .ok (.iconst 0, 1) := by decide +kernel
theorem dX6_feed_56 : decode cX6_feed 56 = .ok (.istore 7, 2) := by decide +kernel
theorem dX6_feed_58 : decode cX6_feed 58 = .ok (.iload 7, 2) := by decide +kernel
theorem dX6_feed_60 : decode cX6_feed 60 = .ok (.ifCond .ne 20, 3) := by decide +kernel
theorem dX6_feed_63 : decode cX6_feed 63 = .ok (.aload_n 1, 1) := by decide +kernel
theorem dX6_feed_64 : decode cX6_feed 64 = .ok (.iload_n 2, 1) := by decide +kernel
theorem dX6_feed_65 : decode cX6_feed 65 = .ok (.iload 6, 2) := by decide +kernel
theorem dX6_feed_67 : decode cX6_feed 67 = .ok (.isub, 1) := by decide +kernel
theorem dX6_feed_68 : decode cX6_feed 68 = .ok (.aload_n 0, 1) := by decide +kernel
theorem dX6_feed_69 : decode cX6_feed 69 = .ok (.iload_n 2, 1) := by decide +kernel
theorem dX6_feed_70 : decode cX6_feed 70 = .ok (.iload 6, 2) := by decide +kernel
theorem dX6_feed_72 : decode cX6_feed 72 = .ok (.invokevirtual 120, 3) := by decide +kernel
theorem dX6_feed_75 : decode cX6_feed 75 = .ok (.lload_n 3, 1) := by decide +kernel
theorem dX6_feed_76 : decode cX6_feed 76 = .ok (.land, 1) := by decide +kernel
theorem dX6_feed_77 : decode cX6_feed 77 = .ok (.invokevirtual 124, 3) := by decide +kernel
theorem dX6_feed_80 : decode cX6_feed 80 = .ok (.iinc 6 1, 3) := by decide +kernel
theorem dX6_feed_83 : decode cX6_feed 83 = .ok (.goto (-75), 3) := by decide +kernel
theorem dX6_feed_86 : decode cX6_feed 86 = .ok (.return_, 1) := by decide +kernel
theorem dX6_cheapest_0 : decode cX6_cheapest 0 = .ok (.aload_n 0, 1) := by decide +kernel
theorem dX6_cheapest_1 : decode cX6_cheapest 1 = .ok (.getfield 22, 3) := by decide +kernel
theorem dX6_cheapest_4 : decode cX6_cheapest 4 = .ok (.iconst 0, 1) := by decide +kernel
theorem dX6_cheapest_5 : decode cX6_cheapest 5 = .ok (.iaload, 1) := by decide +kernel
theorem dX6_cheapest_6 : decode cX6_cheapest 6 = .ok (.aload_n 0, 1) := by decide +kernel
theorem dX6_cheapest_7 : decode cX6_cheapest 7 = .ok (.getfield 59, 3) := by decide +kernel
theorem dX6_cheapest_10 : decode cX6_cheapest 10 = .ok (.if_icmp .le 7, 3) := by decide +kernel
theorem dX6_cheapest_13 : decode cX6_cheapest 13 = .ok (.ldc2_w 128, 3) := by decide +kernel
theorem dX6_cheapest_16 : decode cX6_cheapest 16 = .ok (.lreturn, 1) := by decide +kernel
theorem dX6_cheapest_17 : decode cX6_cheapest 17 = .ok (.aload_n 0, 1) := by decide +kernel
theorem dX6_cheapest_18 : decode cX6_cheapest 18 = .ok (.getfield 31, 3) := by decide +kernel
theorem dX6_cheapest_21 : decode cX6_cheapest 21 = .ok (.iconst 0, 1) := by decide +kernel
theorem dX6_cheapest_22 : decode cX6_cheapest 22 = .ok (.ldc2_w 130, 3) := by decide +kernel
theorem dX6_cheapest_25 : decode cX6_cheapest 25 = .ok (.invokevirtual 132, 3) := by decide +kernel
theorem dX6_cheapest_28 : decode cX6_cheapest 28 = .ok (.aload_n 0, 1) := by decide +kernel
theorem dX6_cheapest_29 : decode cX6_cheapest 29 = .ok (.aload_n 0, 1) := by decide +kernel
theorem dX6_cheapest_30 : decode cX6_cheapest 30 = .ok (.getfield 52, 3) := by decide +kernel
theorem dX6_cheapest_33 : decode cX6_cheapest 33 = .ok (.invokevirtual 135, 3) := by decide +kernel
theorem dX6_cheapest_36 : decode cX6_cheapest 36 = .ok (.aload_n 0, 1) := by decide +kernel
theorem dX6_cheapest_37 : decode cX6_cheapest 37 = .ok (.getfield 31, 3) := by decide +kernel
theorem dX6_cheapest_40 : decode cX6_cheapest 40 = .ok (.aload_n 0, 1) := by decide +kernel
theorem dX6_cheapest_41 : decode cX6_cheapest 41 = .ok (.getfield 52, 3) := by decide +kernel
theorem dX6_cheapest_44 : decode cX6_cheapest 44 = .ok (.invokevirtual 138, 3) := by decide +kernel
theorem dX6_cheapest_47 : decode cX6_cheapest 47 = .ok (.ifCond .le 18, 3) := by decide +kernel
theorem dX6_cheapest_50 : decode cX6_cheapest 50 = .ok (.aload_n 0, 1) := by decide +kernel
theorem dX6_cheapest_51 : decode cX6_cheapest 51 = .ok (.getfield 31, 3) := by decide +kernel
theorem dX6_cheapest_54 : decode cX6_cheapest 54 = .ok (.aload_n 0, 1) := by decide +kernel
theorem dX6_cheapest_55 : decode cX6_cheapest 55 = .ok (.getfield 52, 3) := by decide +kernel
theorem dX6_cheapest_58 : decode cX6_cheapest 58 = .ok (.iconst 0, 1) := by decide +kernel
theorem dX6_cheapest_59 : decode cX6_cheapest 59 = .ok (.invokevirtual 141, 3) := by decide +kernel
theorem dX6_cheapest_62 : decode cX6_cheapest 62 = .ok (.goto 6, 3) := by decide +kernel
theorem dX6_cheapest_65 : decode cX6_cheapest 65 = .ok (.ldc2_w 128, 3) := by decide +kernel
theorem dX6_cheapest_68 : decode cX6_cheapest 68 = .ok (.lreturn, 1) := by decide +kernel
theorem dX6_survey_0 : decode cX6_survey 0 = .ok (.iconst 0, 1) := by decide +kernel
theorem dX6_survey_1 : decode cX6_survey 1 = .ok (.istore_n 1, 1) := by decide +kernel
theorem dX6_survey_2 : decode cX6_survey 2 = .ok (.iload_n 1, 1) := by decide +kernel
theorem dX6_survey_3 : decode cX6_survey 3 = .ok (.aload_n 0, 1) := by decide +kernel
theorem dX6_survey_4 : decode cX6_survey 4 = .ok (.getfield 52, 3) := by decide +kernel
theorem dX6_survey_7 : decode cX6_survey 7 = .ok (.if_icmp .gt 20, 3) := by decide +kernel
theorem dX6_survey_10 : decode cX6_survey 10 = .ok (.aload_n 0, 1) := by decide +kernel
theorem dX6_survey_11 : decode cX6_survey 11 = .ok (.getfield 25, 3) := by decide +kernel
theorem dX6_survey_14 : decode cX6_survey 14 = .ok (.iload_n 1, 1) := by decide +kernel
theorem dX6_survey_15 : decode cX6_survey 15 = .ok (.aload_n 0, 1) := by decide +kernel
theorem dX6_survey_16 : decode cX6_survey 16 = .ok (.iload_n 1, 1) := by decide +kernel
theorem dX6_survey_17 : decode cX6_survey 17 = .ok (.invokevirtual 144, 3) := by decide +kernel
theorem dX6_survey_20 : decode cX6_survey 20 = .ok (.iastore, 1) := by decide +kernel
theorem dX6_survey_21 : decode cX6_survey 21 = .ok (.iinc 1 1, 3) := by decide +kernel
theorem dX6_survey_24 : decode cX6_survey 24 = .ok (.goto (-22), 3) := by decide +kernel
theorem dX6_survey_27 : decode cX6_survey 27 = .ok (.aload_n 0, 1) := by decide +kernel
theorem dX6_survey_28 : decode cX6_survey 28 = .ok (.getfield 35, 3) := by decide +kernel
theorem dX6_survey_31 : decode cX6_survey 31 = .ok (.aload_n 0, 1) := by decide +kernel
theorem dX6_survey_32 : decode cX6_survey 32 = .ok (.getfield 52, 3) := by decide +kernel
theorem dX6_survey_35 : decode cX6_survey 35 = .ok (.ldc2_w 130, 3) := by decide +kernel
theorem dX6_survey_38 : decode cX6_survey 38 = .ok (.invokevirtual 132, 3) := by decide +kernel
theorem dX6_survey_41 : decode cX6_survey 41 = .ok (.aload_n 0, 1) := by decide +kernel
theorem dX6_survey_42 : decode cX6_survey 42 = .ok (.getfield 52, 3) := by decide +kernel
theorem dX6_survey_45 : decode cX6_survey 45 = .ok (.iconst 1, 1) := by decide +kernel
theorem dX6_survey_46 : decode cX6_survey 46 = .ok (.isub, 1) := by decide +kernel
theorem dX6_survey_47 : decode cX6_survey 47 = .ok (.istore_n 1, 1) := by decide +kernel
theorem dX6_survey_48 : decode cX6_survey 48 = .ok (.iload_n 1, 1) := by decide +kernel
theorem dX6_survey_49 : decode cX6_survey 49 = .ok (.ifCond .le 14, 3) := by decide +kernel
theorem dX6_survey_52 : decode cX6_survey 52 = .ok (.aload_n 0, 1) := by decide +kernel
theorem dX6_survey_53 : decode cX6_survey 53 = .ok (.iload_n 1, 1) := by decide +kernel
theorem dX6_survey_54 : decode cX6_survey 54 = .ok (.invokevirtual 147, 3) := by decide +kernel
theorem dX6_survey_57 : decode cX6_survey 57 = .ok (.iinc 1 (-1), 3) := by decide +kernel
theorem dX6_survey_60 : decode cX6_survey 60 = .ok (.goto (-12), 3) := by decide +kernel
theorem dX6_survey_63 : decode cX6_survey 63 = .ok (.aload_n 0, 1) := by decide +kernel
theorem dX6_survey_64 : decode cX6_survey 64 = .ok (.getfield 31, 3) := by decide +kernel
theorem dX6_survey_67 : decode cX6_survey 67 = .ok (.iconst 0, 1) := by decide +kernel
theorem dX6_survey_68 : decode cX6_survey 68 = .ok (.ldc2_w 130, 3) := by decide +kernel
theorem dX6_survey_71 : decode cX6_survey 71 = .ok (.invokevirtual 132, 3) := by decide +kernel
theorem dX6_survey_74 : decode cX6_survey 74 = .ok (.return_, 1) := by decide +kernel
theorem dX6_lower_0 : decode cX6_lower 0 = .ok (.aload_n 0, 1) := by decide +kernel
theorem dX6_lower_1 : decode cX6_lower 1 = .ok (.getfield 35, 3) := by decide +kernel
theorem dX6_lower_4 : decode cX6_lower 4 = .ok (.iload_n 1, 1) := by decide +kernel
theorem dX6_lower_5 : decode cX6_lower 5 = .ok (.invokevirtual 116, 3) := by decide +kernel
theorem dX6_lower_8 : decode cX6_lower 8 = .ok (.iconst 1, 1) := by decide +kernel
theorem dX6_lower_9 : decode cX6_lower 9 = .ok (.istore_n 2, 1) := by decide +kernel
theorem dX6_lower_10 : decode cX6_lower 10 = .ok (.iload_n 2, 1) := by decide +kernel
theorem dX6_lower_11 : decode cX6_lower 11 = .ok (.aload_n 0, 1) := by decide +kernel
theorem dX6_lower_12 : decode cX6_lower 12 = .ok (.getfield 65, 3) := by decide +kernel
theorem dX6_lower_15 : decode cX6_lower 15 = .ok (.if_icmp .gt 57, 3) := by decide +kernel
theorem dX6_lower_18 : decode cX6_lower 18 = .ok (.iload_n 1, 1) := by decide +kernel
theorem dX6_lower_19 : decode cX6_lower 19 = .ok (.iload_n 2, 1) := by decide +kernel
theorem dX6_lower_20 : decode cX6_lower 20 = .ok (.iadd, 1) := by decide +kernel
theorem dX6_lower_21 : decode cX6_lower 21 = .ok (.aload_n 0, 1) := by decide +kernel
theorem dX6_lower_22 : decode cX6_lower 22 = .ok (.getfield 52, 3) := by decide +kernel
theorem dX6_lower_25 : decode cX6_lower 25 = .ok (.if_icmp .gt 47, 3) := by decide +kernel
theorem dX6_lower_28 : decode cX6_lower 28 = .ok (.aload_n 0, 1) := by decide +kernel
theorem dX6_lower_29 : decode cX6_lower 29 = .ok (.getfield 18, 3) := by decide +kernel
theorem dX6_lower_32 : decode cX6_lower 32 = .ok (.iload_n 1, 1) := by decide +kernel
theorem dX6_lower_33 : decode cX6_lower 33 = .ok (.baload, 1) := by decide +kernel
theorem dX6_lower_34 : decode cX6_lower 34 = .ok (.ifCond .eq 38, 3) := by decide +kernel
theorem dX6_lower_37 : decode cX6_lower 37 = .ok (.aload_n 0, 1) := by decide +kernel
theorem dX6_lower_38 : decode cX6_lower 38 = .ok (.getfield 18, 3) := by decide +kernel
theorem dX6_lower_41 : decode cX6_lower 41 = .ok (.iload_n 1, 1) := by decide +kernel
theorem dX6_lower_42 : decode cX6_lower 42 = .ok (.iload_n 2, 1) := by decide +kernel
theorem dX6_lower_43 : decode cX6_lower 43 = .ok (.iadd, 1) := by decide +kernel
theorem dX6_lower_44 : decode cX6_lower 44 = .ok (.baload, 1) := by decide +kernel
theorem dX6_lower_45 : decode cX6_lower 45 = .ok (.ifCond .eq 21, 3) := by decide +kernel
theorem dX6_lower_48 : decode cX6_lower 48 = .ok (.aload_n 0, 1) := by decide +kernel
theorem dX6_lower_49 : decode cX6_lower 49 = .ok (.getfield 35, 3) := by decide +kernel
theorem dX6_lower_52 : decode cX6_lower 52 = .ok (.iload_n 1, 1) := by decide +kernel
theorem dX6_lower_53 : decode cX6_lower 53 = .ok (.iload_n 2, 1) := by decide +kernel
theorem dX6_lower_54 : decode cX6_lower 54 = .ok (.iadd, 1) := by decide +kernel
theorem dX6_lower_55 : decode cX6_lower 55 = .ok (.aload_n 0, 1) := by decide +kernel
theorem dX6_lower_56 : decode cX6_lower 56 = .ok (.iload_n 1, 1) := by decide +kernel
theorem dX6_lower_57 : decode cX6_lower 57 = .ok (.iload_n 2, 1) := by decide +kernel
theorem dX6_lower_58 : decode cX6_lower 58 = .ok (.iadd, 1) := by decide +kernel
theorem dX6_lower_59 : decode cX6_lower 59 = .ok (.iload_n 2, 1) := by decide +kernel
theorem dX6_lower_60 : decode cX6_lower 60 = .ok (.invokevirtual 120, 3) := by decide +kernel
theorem dX6_lower_63 : decode cX6_lower 63 = .ok (.invokevirtual 124, 3) := by decide +kernel
theorem dX6_lower_66 : decode cX6_lower 66 = .ok (.iinc 2 1, 3) := by decide +kernel
theorem dX6_lower_69 : decode cX6_lower 69 = .ok (.goto (-59), 3) := by decide +kernel
theorem dX6_lower_72 : decode cX6_lower 72 = .ok (.aload_n 0, 1) := by decide +kernel
theorem dX6_lower_73 : decode cX6_lower 73 = .ok (.getfield 35, 3) := by decide +kernel
theorem dX6_lower_76 : decode cX6_lower 76 = .ok (.iload_n 1, 1) := by decide +kernel
theorem dX6_lower_77 : decode cX6_lower 77 = .ok (.aload_n 0, 1) := by decide +kernel
theorem dX6_lower_78 : decode cX6_lower 78 = .ok (.getfield 59, 3) := by decide +kernel
theorem dX6_lower_81 : decode cX6_lower 81 = .ok (.aload_n 0, 1) := by decide +kernel
theorem dX6_lower_82 : decode cX6_lower 82 = .ok (.getfield 25, 3) := by decide +kernel
theorem dX6_lower_85 : decode cX6_lower 85 = .ok (.iload_n 1, 1) := by decide +kernel
theorem dX6_lower_86 : decode cX6_lower 86 = .ok (.iaload, 1) := by decide +kernel
theorem dX6_lower_87 : decode cX6_lower 87 = .ok (.isub, 1) := by decide +kernel
theorem dX6_lower_88 : decode cX6_lower 88 = .ok (.aload_n 0, 1) := by decide +kernel
theorem dX6_lower_89 : decode cX6_lower 89 = .ok (.getfield 62, 3) := by decide +kernel
theorem dX6_lower_92 : decode cX6_lower 92 = .ok (.invokevirtual 150, 3) := by decide +kernel
theorem dX6_lower_95 : decode cX6_lower 95 = .ok (.return_, 1) := by decide +kernel
theorem dX6_raiseTo_0 : decode cX6_raiseTo 0 = .ok (.iconst 1, 1) := by decide +kernel
theorem dX6_raiseTo_1 : decode cX6_raiseTo 1 = .ok (.istore_n 2, 1) := by decide +kernel
theorem dX6_raiseTo_2 : decode cX6_raiseTo 2 = .ok (.iload_n 2, 1) := by decide +kernel
theorem dX6_raiseTo_3 : decode cX6_raiseTo 3 = .ok (.iload_n 1, 1) := by decide +kernel
theorem dX6_raiseTo_4 : decode cX6_raiseTo 4 = .ok (.if_icmp .gt 22, 3) := by decide +kernel
theorem dX6_raiseTo_7 : decode cX6_raiseTo 7 = .ok (.iload_n 2, 1) := by decide +kernel
theorem dX6_raiseTo_8 : decode cX6_raiseTo 8 = .ok (.aload_n 0, 1) := by decide +kernel
theorem dX6_raiseTo_9 : decode cX6_raiseTo 9 = .ok (.getfield 52, 3) := by decide +kernel
theorem dX6_raiseTo_12 : decode cX6_raiseTo 12 = .ok (.if_icmp .gt 14, 3) := by decide +kernel
theorem dX6_raiseTo_15 : decode cX6_raiseTo 15 = .ok (.aload_n 0, 1) := by decide +kernel
theorem dX6_raiseTo_16 : decode cX6_raiseTo 16 = .ok (.iload_n 2, 1) := by decide +kernel
theorem dX6_raiseTo_17 : decode cX6_raiseTo 17 = .ok (.invokevirtual 154, 3) := by decide +kernel
theorem dX6_raiseTo_20 : decode cX6_raiseTo 20 = .ok (.iinc 2 1, 3) := by decide +kernel
theorem dX6_raiseTo_23 : decode cX6_raiseTo 23 = .ok (.goto (-21), 3) := by decide +kernel
theorem dX6_raiseTo_26 : decode cX6_raiseTo 26 = .ok (.return_, 1) := by decide +kernel
theorem dX6_raiseOne_0 : decode cX6_raiseOne 0 = .ok (.iload_n 1, 1) := by decide +kernel
theorem dX6_raiseOne_1 : decode cX6_raiseOne 1 = .ok (.ifCond .le 47, 3) := by decide +kernel
theorem dX6_raiseOne_4 : decode cX6_raiseOne 4 = .ok (.iload_n 1, 1) := by decide +kernel
theorem dX6_raiseOne_5 : decode cX6_raiseOne 5 = .ok (.aload_n 0, 1) := by decide +kernel
theorem dX6_raiseOne_6 : decode cX6_raiseOne 6 = .ok (.getfield 52, 3) := by decide +kernel
theorem dX6_raiseOne_9 : decode cX6_raiseOne 9 = .ok (.if_icmp .gt 39, 3) := by decide +kernel
theorem dX6_raiseOne_12 : decode cX6_raiseOne 12 = .ok (.aload_n 0, 1) := by decide +kernel
theorem dX6_raiseOne_13 : decode cX6_raiseOne 13 = .ok (.aload_n 0, 1) := by decide +kernel
theorem dX6_raiseOne_14 : decode cX6_raiseOne 14 = .ok (.getfield 31, 3) := by decide +kernel
theorem dX6_raiseOne_17 : decode cX6_raiseOne 17 = .ok (.iload_n 1, 1) := by decide +kernel
theorem dX6_raiseOne_18 : decode cX6_raiseOne 18 = .ok (.ldc2_w 157, 3) := by decide +kernel
theorem dX6_raiseOne_21 : decode cX6_raiseOne 21 = .ok (.iconst (-1), 1) := by decide +kernel
theorem dX6_raiseOne_22 : decode cX6_raiseOne 22 = .ok (.invokevirtual 159, 3) := by decide +kernel
theorem dX6_raiseOne_25 : decode cX6_raiseOne 25 = .ok (.aload_n 0, 1) := by decide +kernel
theorem dX6_raiseOne_26 : decode cX6_raiseOne 26 = .ok (.getfield 31, 3) := by decide +kernel
theorem dX6_raiseOne_29 : decode cX6_raiseOne 29 = .ok (.iload_n 1, 1) := by decide +kernel
theorem dX6_raiseOne_30 : decode cX6_raiseOne 30 = .ok (.aload_n 0, 1) := by decide +kernel
theorem dX6_raiseOne_31 : decode cX6_raiseOne 31 = .ok (.getfield 59, 3) := by decide +kernel
theorem dX6_raiseOne_34 : decode cX6_raiseOne 34 = .ok (.aload_n 0, 1) := by decide +kernel
theorem dX6_raiseOne_35 : decode cX6_raiseOne 35 = .ok (.getfield 22, 3) := by decide +kernel
theorem dX6_raiseOne_38 : decode cX6_raiseOne 38 = .ok (.iload_n 1, 1) := by decide +kernel
theorem dX6_raiseOne_39 : decode cX6_raiseOne 39 = .ok (.iaload, 1) := by decide +kernel
theorem dX6_raiseOne_40 : decode cX6_raiseOne 40 = .ok (.isub, 1) := by decide +kernel
theorem dX6_raiseOne_41 : decode cX6_raiseOne 41 = .ok (.aload_n 0, 1) := by decide +kernel
theorem dX6_raiseOne_42 : decode cX6_raiseOne 42 = .ok (.getfield 62, 3) := by decide +kernel
theorem dX6_raiseOne_45 : decode cX6_raiseOne 45 = .ok (.invokevirtual 150, 3) := by decide +kernel
theorem dX6_raiseOne_48 : decode cX6_raiseOne 48 = .ok (.return_, 1) := by decide +kernel
abbrev mX6_addOffers_0_e0 : ByteArray := .mk #[0x2a, 0xb4, 0x00, 0x26, 0x14, 0x00, 0x80, 0xb8, 0x00, 0xa3, 0x1b, 0x04, 0x60, 0x36, 0x04, 0x15, 0x04, 0x2a, 0xb4, 0x00, 0x34, 0xa3, 0x00, 0x40, 0x15, 0x04, 0x1b, 0x2a, 0xb4, 0x00, 0x41, 0x60, 0xa3, 0x00, 0x35, 0x03, 0x15, 0x04, 0x2a, 0xb4, 0x00, 0x41, 0x64, 0xb8, 0x00, 0x60, 0x36, 0x05, 0x15, 0x05, 0x1b, 0xa3, 0x00, 0x1c, 0x2a, 0xb4, 0x00, 0x12, 0x15, 0x04, 0x33, 0x99, 0x00, 0x12, 0x2a, 0x1b, 0x15, 0x05, 0x15, 0x04, 0xb6, 0x00]
theorem kmX6_addOffers_0_e0 : CK cX6_addOffers 0 mX6_addOffers_0_e0 := ck_of (by decide +kernel)
theorem dX6_addOffers_0 : decode cX6_addOffers 0 = .ok (.aload_n 0, 1) := rd_chunk (k := 0) (i := 0) kmX6_addOffers_0_e0 (by decide +kernel)
theorem dX6_addOffers_1 : decode cX6_addOffers 1 = .ok (.getfield 38, 3) := rd_chunk (k := 0) (i := 1) kmX6_addOffers_0_e0 (by decide +kernel)
theorem dX6_addOffers_4 : decode cX6_addOffers 4 = .ok (.ldc2_w 128, 3) := rd_chunk (k := 0) (i := 4) kmX6_addOffers_0_e0 (by decide +kernel)
theorem dX6_addOffers_7 : decode cX6_addOffers 7 = .ok (.invokestatic 163, 3) := rd_chunk (k := 0) (i := 7) kmX6_addOffers_0_e0 (by decide +kernel)
theorem dX6_addOffers_10 : decode cX6_addOffers 10 = .ok (.iload_n 1, 1) := rd_chunk (k := 0) (i := 10) kmX6_addOffers_0_e0 (by decide +kernel)
theorem dX6_addOffers_11 : decode cX6_addOffers 11 = .ok (.iconst 1, 1) := rd_chunk (k := 0) (i := 11) kmX6_addOffers_0_e0 (by decide +kernel)
theorem dX6_addOffers_12 : decode cX6_addOffers 12 = .ok (.iadd, 1) := rd_chunk (k := 0) (i := 12) kmX6_addOffers_0_e0 (by decide +kernel)
theorem dX6_addOffers_13 : decode cX6_addOffers 13 = .ok (.istore 4, 2) := rd_chunk (k := 0) (i := 13) kmX6_addOffers_0_e0 (by decide +kernel)
theorem dX6_addOffers_15 : decode cX6_addOffers 15 = .ok (.iload 4, 2) := rd_chunk (k := 0) (i := 15) kmX6_addOffers_0_e0 (by decide +kernel)
theorem dX6_addOffers_17 : decode cX6_addOffers 17 = .ok (.aload_n 0, 1) := rd_chunk (k := 0) (i := 17) kmX6_addOffers_0_e0 (by decide +kernel)
theorem dX6_addOffers_18 : decode cX6_addOffers 18 = .ok (.getfield 52, 3) := rd_chunk (k := 0) (i := 18) kmX6_addOffers_0_e0 (by decide +kernel)
theorem dX6_addOffers_21 : decode cX6_addOffers 21 = .ok (.if_icmp .gt 64, 3) := rd_chunk (k := 0) (i := 21) kmX6_addOffers_0_e0 (by decide +kernel)
theorem dX6_addOffers_24 : decode cX6_addOffers 24 = .ok (.iload 4, 2) := rd_chunk (k := 0) (i := 24) kmX6_addOffers_0_e0 (by decide +kernel)
theorem dX6_addOffers_26 : decode cX6_addOffers 26 = .ok (.iload_n 1, 1) := rd_chunk (k := 0) (i := 26) kmX6_addOffers_0_e0 (by decide +kernel)
theorem dX6_addOffers_27 : decode cX6_addOffers 27 = .ok (.aload_n 0, 1) := rd_chunk (k := 0) (i := 27) kmX6_addOffers_0_e0 (by decide +kernel)
theorem dX6_addOffers_28 : decode cX6_addOffers 28 = .ok (.getfield 65, 3) := rd_chunk (k := 0) (i := 28) kmX6_addOffers_0_e0 (by decide +kernel)
theorem dX6_addOffers_31 : decode cX6_addOffers 31 = .ok (.iadd, 1) := rd_chunk (k := 0) (i := 31) kmX6_addOffers_0_e0 (by decide +kernel)
theorem dX6_addOffers_32 : decode cX6_addOffers 32 = .ok (.if_icmp .gt 53, 3) := rd_chunk (k := 0) (i := 32) kmX6_addOffers_0_e0 (by decide +kernel)
theorem dX6_addOffers_35 : decode cX6_addOffers 35 = .ok (.iconst 0, 1) := rd_chunk (k := 0) (i := 35) kmX6_addOffers_0_e0 (by decide +kernel)
theorem dX6_addOffers_36 : decode cX6_addOffers 36 = .ok (.iload 4, 2) := rd_chunk (k := 0) (i := 36) kmX6_addOffers_0_e0 (by decide +kernel)
theorem dX6_addOffers_38 : decode cX6_addOffers 38 = .ok (.aload_n 0, 1) := rd_chunk (k := 0) (i := 38) kmX6_addOffers_0_e0 (by decide +kernel)
theorem dX6_addOffers_39 : decode cX6_addOffers 39 = .ok (.getfield 65, 3) := rd_chunk (k := 0) (i := 39) kmX6_addOffers_0_e0 (by decide +kernel)
theorem dX6_addOffers_42 : decode cX6_addOffers 42 = .ok (.isub, 1) := rd_chunk (k := 0) (i := 42) kmX6_addOffers_0_e0 (by decide +kernel)
theorem dX6_addOffers_43 : decode cX6_addOffers 43 = .ok (.invokestatic 96, 3) := rd_chunk (k := 0) (i := 43) kmX6_addOffers_0_e0 (by decide +kernel)
theorem dX6_addOffers_46 : decode cX6_addOffers 46 = .ok (.istore 5, 2) := rd_chunk (k := 0) (i := 46) kmX6_addOffers_0_e0 (by decide +kernel)
theorem dX6_addOffers_48 : decode cX6_addOffers 48 = .ok (.iload 5, 2) := rd_chunk (k := 0) (i := 48) kmX6_addOffers_0_e0 (by decide +kernel)
theorem dX6_addOffers_50 : decode cX6_addOffers 50 = .ok (.iload_n 1, 1) := rd_chunk (k := 0) (i := 50) kmX6_addOffers_0_e0 (by decide +kernel)
theorem dX6_addOffers_51 : decode cX6_addOffers 51 = .ok (.if_icmp .gt 28, 3) := rd_chunk (k := 0) (i := 51) kmX6_addOffers_0_e0 (by decide +kernel)
theorem dX6_addOffers_54 : decode cX6_addOffers 54 = .ok (.aload_n 0, 1) := rd_chunk (k := 0) (i := 54) kmX6_addOffers_0_e0 (by decide +kernel)
theorem dX6_addOffers_55 : decode cX6_addOffers 55 = .ok (.getfield 18, 3) := rd_chunk (k := 0) (i := 55) kmX6_addOffers_0_e0 (by decide +kernel)
theorem dX6_addOffers_58 : decode cX6_addOffers 58 = .ok (.iload 4, 2) := rd_chunk (k := 0) (i := 58) kmX6_addOffers_0_e0 (by decide +kernel)
theorem dX6_addOffers_60 : decode cX6_addOffers 60 = .ok (.baload, 1) := rd_chunk (k := 0) (i := 60) kmX6_addOffers_0_e0 (by decide +kernel)
theorem dX6_addOffers_61 : decode cX6_addOffers 61 = .ok (.ifCond .eq 18, 3) := rd_chunk (k := 0) (i := 61) kmX6_addOffers_0_e0 (by decide +kernel)
abbrev mX6_addOffers_64_e0 : ByteArray := .mk #[0x2a, 0x1b, 0x15, 0x05, 0x15, 0x04, 0xb6, 0x00, 0xa9, 0x84, 0x05, 0x01, 0xa7, 0xff, 0xe4, 0x84, 0x04, 0x01, 0xa7, 0xff, 0xbd, 0x03, 0x36, 0x04, 0x15, 0x04, 0x10, 0x14, 0xa3, 0x00, 0x3e, 0x2a, 0xb4, 0x00, 0x26, 0x15, 0x04, 0x2f, 0x14, 0x00, 0x80, 0x94, 0x99, 0x00, 0x2a, 0x2a, 0xb4, 0x00, 0x26, 0x15, 0x04, 0x2f, 0xb8, 0x00, 0xac, 0x2a, 0xb4, 0x00, 0x3e, 0xa3, 0x00, 0x19, 0x2c, 0x15, 0x04, 0x5c, 0x2e, 0x2a, 0xb4, 0x00, 0x2a, 0x15]
theorem kmX6_addOffers_64_e0 : CK cX6_addOffers 64 mX6_addOffers_64_e0 := ck_of (by decide +kernel)
theorem dX6_addOffers_64 : decode cX6_addOffers 64 = .ok (.aload_n 0, 1) := rd_chunk (k := 64) (i := 0) kmX6_addOffers_64_e0 (by decide +kernel)
theorem dX6_addOffers_65 : decode cX6_addOffers 65 = .ok (.iload_n 1, 1) := rd_chunk (k := 64) (i := 1) kmX6_addOffers_64_e0 (by decide +kernel)
theorem dX6_addOffers_66 : decode cX6_addOffers 66 = .ok (.iload 5, 2) := rd_chunk (k := 64) (i := 2) kmX6_addOffers_64_e0 (by decide +kernel)
theorem dX6_addOffers_68 : decode cX6_addOffers 68 = .ok (.iload 4, 2) := rd_chunk (k := 64) (i := 4) kmX6_addOffers_64_e0 (by decide +kernel)
theorem dX6_addOffers_70 : decode cX6_addOffers 70 = .ok (.invokevirtual 169, 3) := rd_chunk (k := 64) (i := 6) kmX6_addOffers_64_e0 (by decide +kernel)
theorem dX6_addOffers_73 : decode cX6_addOffers 73 = .ok (.iinc 5 1, 3) := rd_chunk (k := 64) (i := 9) kmX6_addOffers_64_e0 (by decide +kernel)
theorem dX6_addOffers_76 : decode cX6_addOffers 76 = .ok (.goto (-28), 3) := rd_chunk (k := 64) (i := 12) kmX6_addOffers_64_e0 (by decide +kernel)
theorem dX6_addOffers_79 : decode cX6_addOffers 79 = .ok (.iinc 4 1, 3) := rd_chunk (k := 64) (i := 15) kmX6_addOffers_64_e0 (by decide +kernel)
theorem dX6_addOffers_82 : decode cX6_addOffers 82 = .ok (.goto (-67), 3) := rd_chunk (k := 64) (i := 18) kmX6_addOffers_64_e0 (by decide +kernel)
theorem dX6_addOffers_85 : decode cX6_addOffers 85 = .ok (.iconst 0, 1) := rd_chunk (k := 64) (i := 21) kmX6_addOffers_64_e0 (by decide +kernel)
theorem dX6_addOffers_86 : decode cX6_addOffers 86 = .ok (.istore 4, 2) := rd_chunk (k := 64) (i := 22) kmX6_addOffers_64_e0 (by decide +kernel)
theorem dX6_addOffers_88 : decode cX6_addOffers 88 = .ok (.iload 4, 2) := rd_chunk (k := 64) (i := 24) kmX6_addOffers_64_e0 (by decide +kernel)
theorem dX6_addOffers_90 : decode cX6_addOffers 90 = .ok (.bipush 20, 2) := rd_chunk (k := 64) (i := 26) kmX6_addOffers_64_e0 (by decide +kernel)
theorem dX6_addOffers_92 : decode cX6_addOffers 92 = .ok (.if_icmp .gt 62, 3) := rd_chunk (k := 64) (i := 28) kmX6_addOffers_64_e0 (by decide +kernel)
theorem dX6_addOffers_95 : decode cX6_addOffers 95 = .ok (.aload_n 0, 1) := rd_chunk (k := 64) (i := 31) kmX6_addOffers_64_e0 (by decide +kernel)
theorem dX6_addOffers_96 : decode cX6_addOffers 96 = .ok (.getfield 38, 3) := rd_chunk (k := 64) (i := 32) kmX6_addOffers_64_e0 (by decide +kernel)
theorem dX6_addOffers_99 : decode cX6_addOffers 99 = .ok (.iload 4, 2) := rd_chunk (k := 64) (i := 35) kmX6_addOffers_64_e0 (by decide +kernel)
theorem dX6_addOffers_101 : decode cX6_addOffers 101 = .ok (.laload, 1) := rd_chunk (k := 64) (i := 37) kmX6_addOffers_64_e0 (by decide +kernel)
theorem dX6_addOffers_102 : decode cX6_addOffers 102 = .ok (.ldc2_w 128, 3) := rd_chunk (k := 64) (i := 38) kmX6_addOffers_64_e0 (by decide +kernel)
theorem dX6_addOffers_105 : decode cX6_addOffers 105 = .ok (.lcmp, 1) := rd_chunk (k := 64) (i := 41) kmX6_addOffers_64_e0 (by decide +kernel)
theorem dX6_addOffers_106 : decode cX6_addOffers 106 = .ok (.ifCond .eq 42, 3) := rd_chunk (k := 64) (i := 42) kmX6_addOffers_64_e0 (by decide +kernel)
theorem dX6_addOffers_109 : decode cX6_addOffers 109 = .ok (.aload_n 0, 1) := rd_chunk (k := 64) (i := 45) kmX6_addOffers_64_e0 (by decide +kernel)
theorem dX6_addOffers_110 : decode cX6_addOffers 110 = .ok (.getfield 38, 3) := rd_chunk (k := 64) (i := 46) kmX6_addOffers_64_e0 (by decide +kernel)
theorem dX6_addOffers_113 : decode cX6_addOffers 113 = .ok (.iload 4, 2) := rd_chunk (k := 64) (i := 49) kmX6_addOffers_64_e0 (by decide +kernel)
theorem dX6_addOffers_115 : decode cX6_addOffers 115 = .ok (.laload, 1) := rd_chunk (k := 64) (i := 51) kmX6_addOffers_64_e0 (by decide +kernel)
theorem dX6_addOffers_116 : decode cX6_addOffers 116 = .ok (.invokestatic 172, 3) := rd_chunk (k := 64) (i := 52) kmX6_addOffers_64_e0 (by decide +kernel)
theorem dX6_addOffers_119 : decode cX6_addOffers 119 = .ok (.aload_n 0, 1) := rd_chunk (k := 64) (i := 55) kmX6_addOffers_64_e0 (by decide +kernel)
theorem dX6_addOffers_120 : decode cX6_addOffers 120 = .ok (.getfield 62, 3) := rd_chunk (k := 64) (i := 56) kmX6_addOffers_64_e0 (by decide +kernel)
theorem dX6_addOffers_123 : decode cX6_addOffers 123 = .ok (.if_icmp .gt 25, 3) := rd_chunk (k := 64) (i := 59) kmX6_addOffers_64_e0 (by decide +kernel)
theorem dX6_addOffers_126 : decode cX6_addOffers 126 = .ok (.aload_n 2, 1) := rd_chunk (k := 64) (i := 62) kmX6_addOffers_64_e0 (by decide +kernel)
theorem dX6_addOffers_127 : decode cX6_addOffers 127 = .ok (.iload 4, 2) := rd_chunk (k := 64) (i := 63) kmX6_addOffers_64_e0 (by decide +kernel)
abbrev mX6_addOffers_128_e0 : ByteArray := .mk #[0x04, 0x5c, 0x2e, 0x2a, 0xb4, 0x00, 0x2a, 0x15, 0x04, 0x2e, 0x60, 0x4f, 0x2d, 0x15, 0x04, 0x5c, 0x2e, 0x04, 0x60, 0x4f, 0x84, 0x04, 0x01, 0xa7, 0xff, 0xc1, 0xb1]
theorem kmX6_addOffers_128_e0 : CK cX6_addOffers 128 mX6_addOffers_128_e0 := ck_of (by decide +kernel)
theorem dX6_addOffers_129 : decode cX6_addOffers 129 = .ok (.dup2, 1) := rd_chunk (k := 128) (i := 1) kmX6_addOffers_128_e0 (by decide +kernel)
theorem dX6_addOffers_130 : decode cX6_addOffers 130 = .ok (.iaload, 1) := rd_chunk (k := 128) (i := 2) kmX6_addOffers_128_e0 (by decide +kernel)
theorem dX6_addOffers_131 : decode cX6_addOffers 131 = .ok (.aload_n 0, 1) := rd_chunk (k := 128) (i := 3) kmX6_addOffers_128_e0 (by decide +kernel)
theorem dX6_addOffers_132 : decode cX6_addOffers 132 = .ok (.getfield 42, 3) := rd_chunk (k := 128) (i := 4) kmX6_addOffers_128_e0 (by decide +kernel)
theorem dX6_addOffers_135 : decode cX6_addOffers 135 = .ok (.iload 4, 2) := rd_chunk (k := 128) (i := 7) kmX6_addOffers_128_e0 (by decide +kernel)
theorem dX6_addOffers_137 : decode cX6_addOffers 137 = .ok (.iaload, 1) := rd_chunk (k := 128) (i := 9) kmX6_addOffers_128_e0 (by decide +kernel)
theorem dX6_addOffers_138 : decode cX6_addOffers 138 = .ok (.iadd, 1) := rd_chunk (k := 128) (i := 10) kmX6_addOffers_128_e0 (by decide +kernel)
theorem dX6_addOffers_139 : decode cX6_addOffers 139 = .ok (.iastore, 1) := rd_chunk (k := 128) (i := 11) kmX6_addOffers_128_e0 (by decide +kernel)
theorem dX6_addOffers_140 : decode cX6_addOffers 140 = .ok (.aload_n 3, 1) := rd_chunk (k := 128) (i := 12) kmX6_addOffers_128_e0 (by decide +kernel)
theorem dX6_addOffers_141 : decode cX6_addOffers 141 = .ok (.iload 4, 2) := rd_chunk (k := 128) (i := 13) kmX6_addOffers_128_e0 (by decide +kernel)
theorem dX6_addOffers_143 : decode cX6_addOffers 143 = .ok (.dup2, 1) := rd_chunk (k := 128) (i := 15) kmX6_addOffers_128_e0 (by decide +kernel)
theorem dX6_addOffers_144 : decode cX6_addOffers 144 = .ok (.iaload, 1) := rd_chunk (k := 128) (i := 16) kmX6_addOffers_128_e0 (by decide +kernel)
theorem dX6_addOffers_145 : decode cX6_addOffers 145 = .ok (.iconst 1, 1) := rd_chunk (k := 128) (i := 17) kmX6_addOffers_128_e0 (by decide +kernel)
theorem dX6_addOffers_146 : decode cX6_addOffers 146 = .ok (.iadd, 1) := rd_chunk (k := 128) (i := 18) kmX6_addOffers_128_e0 (by decide +kernel)
theorem dX6_addOffers_147 : decode cX6_addOffers 147 = .ok (.iastore, 1) := rd_chunk (k := 128) (i := 19) kmX6_addOffers_128_e0 (by decide +kernel)
theorem dX6_addOffers_148 : decode cX6_addOffers 148 = .ok (.iinc 4 1, 3) := rd_chunk (k := 128) (i := 20) kmX6_addOffers_128_e0 (by decide +kernel)
theorem dX6_addOffers_151 : decode cX6_addOffers 151 = .ok (.goto (-63), 3) := rd_chunk (k := 128) (i := 23) kmX6_addOffers_128_e0 (by decide +kernel)
theorem dX6_addOffers_154 : decode cX6_addOffers 154 = .ok (.return_, 1) := rd_chunk (k := 128) (i := 26) kmX6_addOffers_128_e0 (by decide +kernel)
abbrev mX6_offerBy_0_e0 : ByteArray := .mk #[0x1d, 0x1c, 0x64, 0x36, 0x04, 0x2a, 0xb4, 0x00, 0x1f, 0x1c, 0x2a, 0xb4, 0x00, 0x23, 0x1d, 0x2a, 0xb4, 0x00, 0x3b, 0x2a, 0xb4, 0x00, 0x0f, 0x1d, 0x15, 0x04, 0xb8, 0x00, 0x63, 0x2e, 0x64, 0xb6, 0x00, 0xb0, 0x37, 0x05, 0x16, 0x05, 0x14, 0x00, 0x80, 0x94, 0x99, 0x00, 0x0e, 0x2a, 0xb4, 0x00, 0x37, 0x1b, 0xb6, 0x00, 0xb4, 0x9a, 0x00, 0x04, 0xb1, 0x1d, 0x1b, 0x04, 0x60, 0xa0, 0x00, 0x07, 0x03, 0xa7, 0x00, 0x04, 0x04, 0x36, 0x07, 0x2a]
theorem kmX6_offerBy_0_e0 : CK cX6_offerBy 0 mX6_offerBy_0_e0 := ck_of (by decide +kernel)
theorem dX6_offerBy_0 : decode cX6_offerBy 0 = .ok (.iload_n 3, 1) := rd_chunk (k := 0) (i := 0) kmX6_offerBy_0_e0 (by decide +kernel)
theorem dX6_offerBy_1 : decode cX6_offerBy 1 = .ok (.iload_n 2, 1) := rd_chunk (k := 0) (i := 1) kmX6_offerBy_0_e0 (by decide +kernel)
theorem dX6_offerBy_2 : decode cX6_offerBy 2 = .ok (.isub, 1) := rd_chunk (k := 0) (i := 2) kmX6_offerBy_0_e0 (by decide +kernel)
theorem dX6_offerBy_3 : decode cX6_offerBy 3 = .ok (.istore 4, 2) := rd_chunk (k := 0) (i := 3) kmX6_offerBy_0_e0 (by decide +kernel)
theorem dX6_offerBy_5 : decode cX6_offerBy 5 = .ok (.aload_n 0, 1) := rd_chunk (k := 0) (i := 5) kmX6_offerBy_0_e0 (by decide +kernel)
theorem dX6_offerBy_6 : decode cX6_offerBy 6 = .ok (.getfield 31, 3) := rd_chunk (k := 0) (i := 6) kmX6_offerBy_0_e0 (by decide +kernel)
theorem dX6_offerBy_9 : decode cX6_offerBy 9 = .ok (.iload_n 2, 1) := rd_chunk (k := 0) (i := 9) kmX6_offerBy_0_e0 (by decide +kernel)
theorem dX6_offerBy_10 : decode cX6_offerBy 10 = .ok (.aload_n 0, 1) := rd_chunk (k := 0) (i := 10) kmX6_offerBy_0_e0 (by decide +kernel)
theorem dX6_offerBy_11 : decode cX6_offerBy 11 = .ok (.getfield 35, 3) := rd_chunk (k := 0) (i := 11) kmX6_offerBy_0_e0 (by decide +kernel)
theorem dX6_offerBy_14 : decode cX6_offerBy 14 = .ok (.iload_n 3, 1) := rd_chunk (k := 0) (i := 14) kmX6_offerBy_0_e0 (by decide +kernel)
theorem dX6_offerBy_15 : decode cX6_offerBy 15 = .ok (.aload_n 0, 1) := rd_chunk (k := 0) (i := 15) kmX6_offerBy_0_e0 (by decide +kernel)
theorem dX6_offerBy_16 : decode cX6_offerBy 16 = .ok (.getfield 59, 3) := rd_chunk (k := 0) (i := 16) kmX6_offerBy_0_e0 (by decide +kernel)
theorem dX6_offerBy_19 : decode cX6_offerBy 19 = .ok (.aload_n 0, 1) := rd_chunk (k := 0) (i := 19) kmX6_offerBy_0_e0 (by decide +kernel)
theorem dX6_offerBy_20 : decode cX6_offerBy 20 = .ok (.getfield 15, 3) := rd_chunk (k := 0) (i := 20) kmX6_offerBy_0_e0 (by decide +kernel)
theorem dX6_offerBy_23 : decode cX6_offerBy 23 = .ok (.iload_n 3, 1) := rd_chunk (k := 0) (i := 23) kmX6_offerBy_0_e0 (by decide +kernel)
theorem dX6_offerBy_24 : decode cX6_offerBy 24 = .ok (.iload 4, 2) := rd_chunk (k := 0) (i := 24) kmX6_offerBy_0_e0 (by decide +kernel)
theorem dX6_offerBy_26 : decode cX6_offerBy 26 = .ok (.invokestatic 99, 3) := rd_chunk (k := 0) (i := 26) kmX6_offerBy_0_e0 (by decide +kernel)
theorem dX6_offerBy_29 : decode cX6_offerBy 29 = .ok (.iaload, 1) := rd_chunk (k := 0) (i := 29) kmX6_offerBy_0_e0 (by decide +kernel)
theorem dX6_offerBy_30 : decode cX6_offerBy 30 = .ok (.isub, 1) := rd_chunk (k := 0) (i := 30) kmX6_offerBy_0_e0 (by decide +kernel)
theorem dX6_offerBy_31 : decode cX6_offerBy 31 = .ok (.invokevirtual 176, 3) := rd_chunk (k := 0) (i := 31) kmX6_offerBy_0_e0 (by decide +kernel)
theorem dX6_offerBy_34 : decode cX6_offerBy 34 = .ok (.lstore 5, 2) := rd_chunk (k := 0) (i := 34) kmX6_offerBy_0_e0 (by decide +kernel)
theorem dX6_offerBy_36 : decode cX6_offerBy 36 = .ok (.lload 5, 2) := rd_chunk (k := 0) (i := 36) kmX6_offerBy_0_e0 (by decide +kernel)
theorem dX6_offerBy_38 : decode cX6_offerBy 38 = .ok (.ldc2_w 128, 3) := rd_chunk (k := 0) (i := 38) kmX6_offerBy_0_e0 (by decide +kernel)
theorem dX6_offerBy_41 : decode cX6_offerBy 41 = .ok (.lcmp, 1) := rd_chunk (k := 0) (i := 41) kmX6_offerBy_0_e0 (by decide +kernel)
theorem dX6_offerBy_42 : decode cX6_offerBy 42 = .ok (.ifCond .eq 14, 3) := rd_chunk (k := 0) (i := 42) kmX6_offerBy_0_e0 (by decide +kernel)
theorem dX6_offerBy_45 : decode cX6_offerBy 45 = .ok (.aload_n 0, 1) := rd_chunk (k := 0) (i := 45) kmX6_offerBy_0_e0 (by decide +kernel)
theorem dX6_offerBy_46 : decode cX6_offerBy 46 = .ok (.getfield 55, 3) := rd_chunk (k := 0) (i := 46) kmX6_offerBy_0_e0 (by decide +kernel)
theorem dX6_offerBy_49 : decode cX6_offerBy 49 = .ok (.iload_n 1, 1) := rd_chunk (k := 0) (i := 49) kmX6_offerBy_0_e0 (by decide +kernel)
theorem dX6_offerBy_50 : decode cX6_offerBy 50 = .ok (.invokevirtual 180, 3) := rd_chunk (k := 0) (i := 50) kmX6_offerBy_0_e0 (by decide +kernel)
theorem dX6_offerBy_53 : decode cX6_offerBy 53 = .ok (.ifCond .ne 4, 3) := rd_chunk (k := 0) (i := 53) kmX6_offerBy_0_e0 (by decide +kernel)
theorem dX6_offerBy_56 : decode cX6_offerBy 56 = .ok (.return_, 1) := rd_chunk (k := 0) (i := 56) kmX6_offerBy_0_e0 (by decide +kernel)
theorem dX6_offerBy_57 : decode cX6_offerBy 57 = .ok (.iload_n 3, 1) := rd_chunk (k := 0) (i := 57) kmX6_offerBy_0_e0 (by decide +kernel)
theorem dX6_offerBy_58 : decode cX6_offerBy 58 = .ok (.iload_n 1, 1) := rd_chunk (k := 0) (i := 58) kmX6_offerBy_0_e0 (by decide +kernel)
theorem dX6_offerBy_59 : decode cX6_offerBy 59 = .ok (.iconst 1, 1) := rd_chunk (k := 0) (i := 59) kmX6_offerBy_0_e0 (by decide +kernel)
theorem dX6_offerBy_60 : decode cX6_offerBy 60 = .ok (.iadd, 1) := rd_chunk (k := 0) (i := 60) kmX6_offerBy_0_e0 (by decide +kernel)
theorem dX6_offerBy_61 : decode cX6_offerBy 61 = .ok (.if_icmp .ne 7, 3) := rd_chunk (k := 0) (i := 61) kmX6_offerBy_0_e0 (by decide +kernel)
abbrev mX6_offerBy_64_e0 : ByteArray := .mk #[0x03, 0xa7, 0x00, 0x04, 0x04, 0x36, 0x07, 0x2a, 0xb4, 0x00, 0x37, 0x2a, 0xb4, 0x00, 0x2d, 0x15, 0x07, 0x1b, 0x1c, 0x04, 0x64, 0x15, 0x04, 0x04, 0x64, 0x2a, 0xb4, 0x00, 0x30, 0xb6, 0x00, 0xb8, 0x2a, 0xb4, 0x00, 0x37, 0xb4, 0x00, 0xbc, 0x1b, 0x2e, 0x36, 0x08, 0x15, 0x08, 0xb8, 0x00, 0xbf, 0x99, 0x00, 0x0d, 0x2a, 0xb4, 0x00, 0x2d, 0x15, 0x08, 0x2e, 0xa7, 0x00, 0x04, 0x03, 0x36, 0x09, 0x16, 0x05, 0x2a, 0x1d, 0x15, 0x04, 0xb6, 0x00]
theorem kmX6_offerBy_64_e0 : CK cX6_offerBy 64 mX6_offerBy_64_e0 := ck_of (by decide +kernel)
theorem dX6_offerBy_64 : decode cX6_offerBy 64 = .ok (.iconst 0, 1) := rd_chunk (k := 64) (i := 0) kmX6_offerBy_64_e0 (by decide +kernel)
theorem dX6_offerBy_65 : decode cX6_offerBy 65 = .ok (.goto 4, 3) := rd_chunk (k := 64) (i := 1) kmX6_offerBy_64_e0 (by decide +kernel)
theorem dX6_offerBy_68 : decode cX6_offerBy 68 = .ok (.iconst 1, 1) := rd_chunk (k := 64) (i := 4) kmX6_offerBy_64_e0 (by decide +kernel)
theorem dX6_offerBy_69 : decode cX6_offerBy 69 = .ok (.istore 7, 2) := rd_chunk (k := 64) (i := 5) kmX6_offerBy_64_e0 (by decide +kernel)
theorem dX6_offerBy_71 : decode cX6_offerBy 71 = .ok (.aload_n 0, 1) := rd_chunk (k := 64) (i := 7) kmX6_offerBy_64_e0 (by decide +kernel)
theorem dX6_offerBy_72 : decode cX6_offerBy 72 = .ok (.getfield 55, 3) := rd_chunk (k := 64) (i := 8) kmX6_offerBy_64_e0 (by decide +kernel)
theorem dX6_offerBy_75 : decode cX6_offerBy 75 = .ok (.aload_n 0, 1) := rd_chunk (k := 64) (i := 11) kmX6_offerBy_64_e0 (by decide +kernel)
theorem dX6_offerBy_76 : decode cX6_offerBy 76 = .ok (.getfield 45, 3) := rd_chunk (k := 64) (i := 12) kmX6_offerBy_64_e0 (by decide +kernel)
theorem dX6_offerBy_79 : decode cX6_offerBy 79 = .ok (.iload 7, 2) := rd_chunk (k := 64) (i := 15) kmX6_offerBy_64_e0 (by decide +kernel)
theorem dX6_offerBy_81 : decode cX6_offerBy 81 = .ok (.iload_n 1, 1) := rd_chunk (k := 64) (i := 17) kmX6_offerBy_64_e0 (by decide +kernel)
theorem dX6_offerBy_82 : decode cX6_offerBy 82 = .ok (.iload_n 2, 1) := rd_chunk (k := 64) (i := 18) kmX6_offerBy_64_e0 (by decide +kernel)
theorem dX6_offerBy_83 : decode cX6_offerBy 83 = .ok (.iconst 1, 1) := rd_chunk (k := 64) (i := 19) kmX6_offerBy_64_e0 (by decide +kernel)
theorem dX6_offerBy_84 : decode cX6_offerBy 84 = .ok (.isub, 1) := rd_chunk (k := 64) (i := 20) kmX6_offerBy_64_e0 (by decide +kernel)
theorem dX6_offerBy_85 : decode cX6_offerBy 85 = .ok (.iload 4, 2) := rd_chunk (k := 64) (i := 21) kmX6_offerBy_64_e0 (by decide +kernel)
theorem dX6_offerBy_87 : decode cX6_offerBy 87 = .ok (.iconst 1, 1) := rd_chunk (k := 64) (i := 23) kmX6_offerBy_64_e0 (by decide +kernel)
theorem dX6_offerBy_88 : decode cX6_offerBy 88 = .ok (.isub, 1) := rd_chunk (k := 64) (i := 24) kmX6_offerBy_64_e0 (by decide +kernel)
theorem dX6_offerBy_89 : decode cX6_offerBy 89 = .ok (.aload_n 0, 1) := rd_chunk (k := 64) (i := 25) kmX6_offerBy_64_e0 (by decide +kernel)
theorem dX6_offerBy_90 : decode cX6_offerBy 90 = .ok (.getfield 48, 3) := rd_chunk (k := 64) (i := 26) kmX6_offerBy_64_e0 (by decide +kernel)
theorem dX6_offerBy_93 : decode cX6_offerBy 93 = .ok (.invokevirtual 184, 3) := rd_chunk (k := 64) (i := 29) kmX6_offerBy_64_e0 (by decide +kernel)
theorem dX6_offerBy_96 : decode cX6_offerBy 96 = .ok (.aload_n 0, 1) := rd_chunk (k := 64) (i := 32) kmX6_offerBy_64_e0 (by decide +kernel)
theorem dX6_offerBy_97 : decode cX6_offerBy 97 = .ok (.getfield 55, 3) := rd_chunk (k := 64) (i := 33) kmX6_offerBy_64_e0 (by decide +kernel)
theorem dX6_offerBy_100 : decode cX6_offerBy 100 = .ok (.getfield 188, 3) := rd_chunk (k := 64) (i := 36) kmX6_offerBy_64_e0 (by decide +kernel)
theorem dX6_offerBy_103 : decode cX6_offerBy 103 = .ok (.iload_n 1, 1) := rd_chunk (k := 64) (i := 39) kmX6_offerBy_64_e0 (by decide +kernel)
theorem dX6_offerBy_104 : decode cX6_offerBy 104 = .ok (.iaload, 1) := rd_chunk (k := 64) (i := 40) kmX6_offerBy_64_e0 (by decide +kernel)
theorem dX6_offerBy_105 : decode cX6_offerBy 105 = .ok (.istore 8, 2) := rd_chunk (k := 64) (i := 41) kmX6_offerBy_64_e0 (by decide +kernel)
theorem dX6_offerBy_107 : decode cX6_offerBy 107 = .ok (.iload 8, 2) := rd_chunk (k := 64) (i := 43) kmX6_offerBy_64_e0 (by decide +kernel)
theorem dX6_offerBy_109 : decode cX6_offerBy 109 = .ok (.invokestatic 191, 3) := rd_chunk (k := 64) (i := 45) kmX6_offerBy_64_e0 (by decide +kernel)
theorem dX6_offerBy_112 : decode cX6_offerBy 112 = .ok (.ifCond .eq 13, 3) := rd_chunk (k := 64) (i := 48) kmX6_offerBy_64_e0 (by decide +kernel)
theorem dX6_offerBy_115 : decode cX6_offerBy 115 = .ok (.aload_n 0, 1) := rd_chunk (k := 64) (i := 51) kmX6_offerBy_64_e0 (by decide +kernel)
theorem dX6_offerBy_116 : decode cX6_offerBy 116 = .ok (.getfield 45, 3) := rd_chunk (k := 64) (i := 52) kmX6_offerBy_64_e0 (by decide +kernel)
theorem dX6_offerBy_119 : decode cX6_offerBy 119 = .ok (.iload 8, 2) := rd_chunk (k := 64) (i := 55) kmX6_offerBy_64_e0 (by decide +kernel)
theorem dX6_offerBy_121 : decode cX6_offerBy 121 = .ok (.iaload, 1) := rd_chunk (k := 64) (i := 57) kmX6_offerBy_64_e0 (by decide +kernel)
theorem dX6_offerBy_122 : decode cX6_offerBy 122 = .ok (.goto 4, 3) := rd_chunk (k := 64) (i := 58) kmX6_offerBy_64_e0 (by decide +kernel)
theorem dX6_offerBy_125 : decode cX6_offerBy 125 = .ok (.iconst 0, 1) := rd_chunk (k := 64) (i := 61) kmX6_offerBy_64_e0 (by decide +kernel)
theorem dX6_offerBy_126 : decode cX6_offerBy 126 = .ok (.istore 9, 2) := rd_chunk (k := 64) (i := 62) kmX6_offerBy_64_e0 (by decide +kernel)
abbrev mX6_offerBy_128_e0 : ByteArray := .mk #[0x16, 0x05, 0x2a, 0x1d, 0x15, 0x04, 0xb6, 0x00, 0x78, 0x61, 0x15, 0x09, 0x85, 0x10, 0x29, 0x79, 0x65, 0x37, 0x0a, 0x03, 0x36, 0x0c, 0x15, 0x0c, 0x10, 0x14, 0xa3, 0x00, 0x3d, 0x16, 0x0a, 0x2a, 0xb4, 0x00, 0x2d, 0x15, 0x0c, 0x2e, 0x85, 0x10, 0x29, 0x79, 0x61, 0x37, 0x0d, 0x16, 0x0d, 0x2a, 0xb4, 0x00, 0x26, 0x15, 0x0c, 0x2f, 0x94, 0x9c, 0x00, 0x1a, 0x2a, 0xb4, 0x00, 0x26, 0x15, 0x0c, 0x16, 0x0d, 0x50, 0x2a, 0xb4, 0x00, 0x2a, 0x15]
theorem kmX6_offerBy_128_e0 : CK cX6_offerBy 128 mX6_offerBy_128_e0 := ck_of (by decide +kernel)
theorem dX6_offerBy_128 : decode cX6_offerBy 128 = .ok (.lload 5, 2) := rd_chunk (k := 128) (i := 0) kmX6_offerBy_128_e0 (by decide +kernel)
theorem dX6_offerBy_130 : decode cX6_offerBy 130 = .ok (.aload_n 0, 1) := rd_chunk (k := 128) (i := 2) kmX6_offerBy_128_e0 (by decide +kernel)
theorem dX6_offerBy_131 : decode cX6_offerBy 131 = .ok (.iload_n 3, 1) := rd_chunk (k := 128) (i := 3) kmX6_offerBy_128_e0 (by decide +kernel)
theorem dX6_offerBy_132 : decode cX6_offerBy 132 = .ok (.iload 4, 2) := rd_chunk (k := 128) (i := 4) kmX6_offerBy_128_e0 (by decide +kernel)
theorem dX6_offerBy_134 : decode cX6_offerBy 134 = .ok (.invokevirtual 120, 3) := rd_chunk (k := 128) (i := 6) kmX6_offerBy_128_e0 (by decide +kernel)
theorem dX6_offerBy_137 : decode cX6_offerBy 137 = .ok (.ladd, 1) := rd_chunk (k := 128) (i := 9) kmX6_offerBy_128_e0 (by decide +kernel)
theorem dX6_offerBy_138 : decode cX6_offerBy 138 = .ok (.iload 9, 2) := rd_chunk (k := 128) (i := 10) kmX6_offerBy_128_e0 (by decide +kernel)
theorem dX6_offerBy_140 : decode cX6_offerBy 140 = .ok (.i2l, 1) := rd_chunk (k := 128) (i := 12) kmX6_offerBy_128_e0 (by decide +kernel)
theorem dX6_offerBy_141 : decode cX6_offerBy 141 = .ok (.bipush 41, 2) := rd_chunk (k := 128) (i := 13) kmX6_offerBy_128_e0 (by decide +kernel)
theorem dX6_offerBy_143 : decode cX6_offerBy 143 = .ok (.lshl, 1) := rd_chunk (k := 128) (i := 15) kmX6_offerBy_128_e0 (by decide +kernel)
theorem dX6_offerBy_144 : decode cX6_offerBy 144 = .ok (.lsub, 1) := rd_chunk (k := 128) (i := 16) kmX6_offerBy_128_e0 (by decide +kernel)
theorem dX6_offerBy_145 : decode cX6_offerBy 145 = .ok (.lstore 10, 2) := rd_chunk (k := 128) (i := 17) kmX6_offerBy_128_e0 (by decide +kernel)
theorem dX6_offerBy_147 : decode cX6_offerBy 147 = .ok (.iconst 0, 1) := rd_chunk (k := 128) (i := 19) kmX6_offerBy_128_e0 (by decide +kernel)
theorem dX6_offerBy_148 : decode cX6_offerBy 148 = .ok (.istore 12, 2) := rd_chunk (k := 128) (i := 20) kmX6_offerBy_128_e0 (by decide +kernel)
theorem dX6_offerBy_150 : decode cX6_offerBy 150 = .ok (.iload 12, 2) := rd_chunk (k := 128) (i := 22) kmX6_offerBy_128_e0 (by decide +kernel)
theorem dX6_offerBy_152 : decode cX6_offerBy 152 = .ok (.bipush 20, 2) := rd_chunk (k := 128) (i := 24) kmX6_offerBy_128_e0 (by decide +kernel)
theorem dX6_offerBy_154 : decode cX6_offerBy 154 = .ok (.if_icmp .gt 61, 3) := rd_chunk (k := 128) (i := 26) kmX6_offerBy_128_e0 (by decide +kernel)
theorem dX6_offerBy_157 : decode cX6_offerBy 157 = .ok (.lload 10, 2) := rd_chunk (k := 128) (i := 29) kmX6_offerBy_128_e0 (by decide +kernel)
theorem dX6_offerBy_159 : decode cX6_offerBy 159 = .ok (.aload_n 0, 1) := rd_chunk (k := 128) (i := 31) kmX6_offerBy_128_e0 (by decide +kernel)
theorem dX6_offerBy_160 : decode cX6_offerBy 160 = .ok (.getfield 45, 3) := rd_chunk (k := 128) (i := 32) kmX6_offerBy_128_e0 (by decide +kernel)
theorem dX6_offerBy_163 : decode cX6_offerBy 163 = .ok (.iload 12, 2) := rd_chunk (k := 128) (i := 35) kmX6_offerBy_128_e0 (by decide +kernel)
theorem dX6_offerBy_165 : decode cX6_offerBy 165 = .ok (.iaload, 1) := rd_chunk (k := 128) (i := 37) kmX6_offerBy_128_e0 (by decide +kernel)
theorem dX6_offerBy_166 : decode cX6_offerBy 166 = .ok (.i2l, 1) := rd_chunk (k := 128) (i := 38) kmX6_offerBy_128_e0 (by decide +kernel)
theorem dX6_offerBy_167 : decode cX6_offerBy 167 = .ok (.bipush 41, 2) := rd_chunk (k := 128) (i := 39) kmX6_offerBy_128_e0 (by decide +kernel)
theorem dX6_offerBy_169 : decode cX6_offerBy 169 = .ok (.lshl, 1) := rd_chunk (k := 128) (i := 41) kmX6_offerBy_128_e0 (by decide +kernel)
theorem dX6_offerBy_170 : decode cX6_offerBy 170 = .ok (.ladd, 1) := rd_chunk (k := 128) (i := 42) kmX6_offerBy_128_e0 (by decide +kernel)
theorem dX6_offerBy_171 : decode cX6_offerBy 171 = .ok (.lstore 13, 2) := rd_chunk (k := 128) (i := 43) kmX6_offerBy_128_e0 (by decide +kernel)
theorem dX6_offerBy_173 : decode cX6_offerBy 173 = .ok (.lload 13, 2) := rd_chunk (k := 128) (i := 45) kmX6_offerBy_128_e0 (by decide +kernel)
theorem dX6_offerBy_175 : decode cX6_offerBy 175 = .ok (.aload_n 0, 1) := rd_chunk (k := 128) (i := 47) kmX6_offerBy_128_e0 (by decide +kernel)
theorem dX6_offerBy_176 : decode cX6_offerBy 176 = .ok (.getfield 38, 3) := rd_chunk (k := 128) (i := 48) kmX6_offerBy_128_e0 (by decide +kernel)
theorem dX6_offerBy_179 : decode cX6_offerBy 179 = .ok (.iload 12, 2) := rd_chunk (k := 128) (i := 51) kmX6_offerBy_128_e0 (by decide +kernel)
theorem dX6_offerBy_181 : decode cX6_offerBy 181 = .ok (.laload, 1) := rd_chunk (k := 128) (i := 53) kmX6_offerBy_128_e0 (by decide +kernel)
theorem dX6_offerBy_182 : decode cX6_offerBy 182 = .ok (.lcmp, 1) := rd_chunk (k := 128) (i := 54) kmX6_offerBy_128_e0 (by decide +kernel)
theorem dX6_offerBy_183 : decode cX6_offerBy 183 = .ok (.ifCond .ge 26, 3) := rd_chunk (k := 128) (i := 55) kmX6_offerBy_128_e0 (by decide +kernel)
theorem dX6_offerBy_186 : decode cX6_offerBy 186 = .ok (.aload_n 0, 1) := rd_chunk (k := 128) (i := 58) kmX6_offerBy_128_e0 (by decide +kernel)
theorem dX6_offerBy_187 : decode cX6_offerBy 187 = .ok (.getfield 38, 3) := rd_chunk (k := 128) (i := 59) kmX6_offerBy_128_e0 (by decide +kernel)
theorem dX6_offerBy_190 : decode cX6_offerBy 190 = .ok (.iload 12, 2) := rd_chunk (k := 128) (i := 62) kmX6_offerBy_128_e0 (by decide +kernel)
abbrev mX6_offerBy_192_e0 : ByteArray := .mk #[0x16, 0x0d, 0x50, 0x2a, 0xb4, 0x00, 0x2a, 0x15, 0x0c, 0x2a, 0xb4, 0x00, 0x2d, 0x15, 0x0c, 0x2e, 0x4f, 0x84, 0x0c, 0x01, 0xa7, 0xff, 0xc2, 0xb1]
theorem kmX6_offerBy_192_e0 : CK cX6_offerBy 192 mX6_offerBy_192_e0 := ck_of (by decide +kernel)
theorem dX6_offerBy_192 : decode cX6_offerBy 192 = .ok (.lload 13, 2) := rd_chunk (k := 192) (i := 0) kmX6_offerBy_192_e0 (by decide +kernel)
theorem dX6_offerBy_194 : decode cX6_offerBy 194 = .ok (.lastore, 1) := rd_chunk (k := 192) (i := 2) kmX6_offerBy_192_e0 (by decide +kernel)
theorem dX6_offerBy_195 : decode cX6_offerBy 195 = .ok (.aload_n 0, 1) := rd_chunk (k := 192) (i := 3) kmX6_offerBy_192_e0 (by decide +kernel)
theorem dX6_offerBy_196 : decode cX6_offerBy 196 = .ok (.getfield 42, 3) := rd_chunk (k := 192) (i := 4) kmX6_offerBy_192_e0 (by decide +kernel)
theorem dX6_offerBy_199 : decode cX6_offerBy 199 = .ok (.iload 12, 2) := rd_chunk (k := 192) (i := 7) kmX6_offerBy_192_e0 (by decide +kernel)
theorem dX6_offerBy_201 : decode cX6_offerBy 201 = .ok (.aload_n 0, 1) := rd_chunk (k := 192) (i := 9) kmX6_offerBy_192_e0 (by decide +kernel)
theorem dX6_offerBy_202 : decode cX6_offerBy 202 = .ok (.getfield 45, 3) := rd_chunk (k := 192) (i := 10) kmX6_offerBy_192_e0 (by decide +kernel)
theorem dX6_offerBy_205 : decode cX6_offerBy 205 = .ok (.iload 12, 2) := rd_chunk (k := 192) (i := 13) kmX6_offerBy_192_e0 (by decide +kernel)
theorem dX6_offerBy_207 : decode cX6_offerBy 207 = .ok (.iaload, 1) := rd_chunk (k := 192) (i := 15) kmX6_offerBy_192_e0 (by decide +kernel)
theorem dX6_offerBy_208 : decode cX6_offerBy 208 = .ok (.iastore, 1) := rd_chunk (k := 192) (i := 16) kmX6_offerBy_192_e0 (by decide +kernel)
theorem dX6_offerBy_209 : decode cX6_offerBy 209 = .ok (.iinc 12 1, 3) := rd_chunk (k := 192) (i := 17) kmX6_offerBy_192_e0 (by decide +kernel)
theorem dX6_offerBy_212 : decode cX6_offerBy 212 = .ok (.goto (-62), 3) := rd_chunk (k := 192) (i := 20) kmX6_offerBy_192_e0 (by decide +kernel)
theorem dX6_offerBy_215 : decode cX6_offerBy 215 = .ok (.return_, 1) := rd_chunk (k := 192) (i := 23) kmX6_offerBy_192_e0 (by decide +kernel)
theorem dX7_init_0 : decode cX7_init 0 = .ok (.aload_n 0, 1) := by decide +kernel
theorem dX7_init_1 : decode cX7_init 1 = .ok (.invokespecial 3, 3) := by decide +kernel
theorem dX7_init_4 : decode cX7_init 4 = .ok (.aload_n 0, 1) := by decide +kernel
theorem dX7_init_5 : decode cX7_init 5 = .ok (.bipush 64, 2) := by decide +kernel
theorem dX7_init_7 : decode cX7_init 7 = .ok (.newarray .long, 2) := by decide +kernel
theorem dX7_init_9 : decode cX7_init 9 = .ok (.putfield 11, 3) := by decide +kernel
theorem dX7_init_12 : decode cX7_init 12 = .ok (.aload_n 0, 1) := by decide +kernel
theorem dX7_init_13 : decode cX7_init 13 = .ok (.bipush 25, 2) := by decide +kernel
theorem dX7_init_15 : decode cX7_init 15 = .ok (.newarray .int, 2) := by decide +kernel
theorem dX7_init_17 : decode cX7_init 17 = .ok (.putfield 15, 3) := by decide +kernel
theorem dX7_init_20 : decode cX7_init 20 = .ok (.aload_n 0, 1) := by decide +kernel
theorem dX7_init_21 : decode cX7_init 21 = .ok (.bipush 25, 2) := by decide +kernel
theorem dX7_init_23 : decode cX7_init 23 = .ok (.newarray .int, 2) := by decide +kernel
theorem dX7_init_25 : decode cX7_init 25 = .ok (.putfield 19, 3) := by decide +kernel
theorem dX7_init_28 : decode cX7_init 28 = .ok (.aload_n 0, 1) := by decide +kernel
theorem dX7_init_29 : decode cX7_init 29 = .ok (.iconst 0, 1) := by decide +kernel
theorem dX7_init_30 : decode cX7_init 30 = .ok (.putfield 22, 3) := by decide +kernel
theorem dX7_init_33 : decode cX7_init 33 = .ok (.aload_n 0, 1) := by decide +kernel
theorem dX7_init_34 : decode cX7_init 34 = .ok (.iconst 3, 1) := by decide +kernel
theorem dX7_init_35 : decode cX7_init 35 = .ok (.newarray .int, 2) := by decide +kernel
theorem dX7_init_37 : decode cX7_init 37 = .ok (.putfield 26, 3) := by decide +kernel
theorem dX7_init_40 : decode cX7_init 40 = .ok (.aload_n 0, 1) := by decide +kernel
theorem dX7_init_41 : decode cX7_init 41 = .ok (.iconst 3, 1) := by decide +kernel
theorem dX7_init_42 : decode cX7_init 42 = .ok (.newarray .int, 2) := by decide +kernel
theorem dX7_init_44 : decode cX7_init 44 = .ok (.putfield 29, 3) := by decide +kernel
theorem dX7_init_47 : decode cX7_init 47 = .ok (.aload_n 0, 1) := by decide +kernel
theorem dX7_init_48 : decode cX7_init 48 = .ok (.iconst 3, 1) := by decide +kernel
theorem dX7_init_49 : decode cX7_init 49 = .ok (.newarray .long, 2) := by decide +kernel
theorem dX7_init_51 : decode cX7_init 51 = .ok (.putfield 32, 3) := by decide +kernel
theorem dX7_init_54 : decode cX7_init 54 = .ok (.aload_n 0, 1) := by decide +kernel
theorem dX7_init_55 : decode cX7_init 55 = .ok (.iconst 3, 1) := by decide +kernel
theorem dX7_init_56 : decode cX7_init 56 = .ok (.newarray .long, 2) := by decide +kernel
theorem dX7_init_58 : decode cX7_init 58 = .ok (.putfield 35, 3) := by decide +kernel
theorem dX7_init_61 : decode cX7_init 61 = .ok (.aload_n 0, 1) := by decide +kernel
theorem dX7_init_62 : decode cX7_init 62 = .ok (.iconst 0, 1) := by decide +kernel
theorem dX7_init_63 : decode cX7_init 63 = .ok (.putfield 38, 3) := by decide +kernel
theorem dX7_init_66 : decode cX7_init 66 = .ok (.aload_n 0, 1) := by decide +kernel
theorem dX7_init_67 : decode cX7_init 67 = .ok (.iconst 0, 1) := by decide +kernel
theorem dX7_init_68 : decode cX7_init 68 = .ok (.putfield 41, 3) := by decide +kernel
theorem dX7_init_71 : decode cX7_init 71 = .ok (.return_, 1) := by decide +kernel
theorem dX7_begin_0 : decode cX7_begin 0 = .ok (.aload_n 0, 1) := by decide +kernel
theorem dX7_begin_1 : decode cX7_begin 1 = .ok (.getfield 19, 3) := by decide +kernel
theorem dX7_begin_4 : decode cX7_begin 4 = .ok (.iconst 0, 1) := by decide +kernel
theorem dX7_begin_5 : decode cX7_begin 5 = .ok (.invokestatic 44, 3) := by decide +kernel
theorem dX7_begin_8 : decode cX7_begin 8 = .ok (.aload_n 0, 1) := by decide +kernel
theorem dX7_begin_9 : decode cX7_begin 9 = .ok (.iconst 0, 1) := by decide +kernel
theorem dX7_begin_10 : decode cX7_begin 10 = .ok (.putfield 22, 3) := by decide +kernel
theorem dX7_begin_13 : decode cX7_begin 13 = .ok (.aload_n 0, 1) := by decide +kernel
theorem dX7_begin_14 : decode cX7_begin 14 = .ok (.iload_n 1, 1) := by decide +kernel
theorem dX7_begin_15 : decode cX7_begin 15 = .ok (.invokevirtual 50, 3) := by decide +kernel
theorem dX7_begin_18 : decode cX7_begin 18 = .ok (.aload_n 0, 1) := by decide +kernel
theorem dX7_begin_19 : decode cX7_begin 19 = .ok (.iload_n 1, 1) := by decide +kernel
theorem dX7_begin_20 : decode cX7_begin 20 = .ok (.lload_n 2, 1) := by decide +kernel
theorem dX7_begin_21 : decode cX7_begin 21 = .ok (.invokevirtual 54, 3) := by decide +kernel
theorem dX7_begin_24 : decode cX7_begin 24 = .ok (.return_, 1) := by decide +kernel
theorem dX7_start_0 : decode cX7_start 0 = .ok (.iload_n 1, 1) := by decide +kernel
theorem dX7_start_1 : decode cX7_start 1 = .ok (.ifCond .lt 26, 3) := by decide +kernel
theorem dX7_start_4 : decode cX7_start 4 = .ok (.iload_n 1, 1) := by decide +kernel
theorem dX7_start_5 : decode cX7_start 5 = .ok (.bipush 25, 2) := by decide +kernel
theorem dX7_start_7 : decode cX7_start 7 = .ok (.if_icmp .ge 20, 3) := by decide +kernel
theorem dX7_start_10 : decode cX7_start 10 = .ok (.aload_n 0, 1) := by decide +kernel
theorem dX7_start_11 : decode cX7_start 11 = .ok (.getfield 15, 3) := by decide +kernel
theorem dX7_start_14 : decode cX7_start 14 = .ok (.iload_n 1, 1) := by decide +kernel
theorem dX7_start_15 : decode cX7_start 15 = .ok (.aload_n 0, 1) := by decide +kernel
theorem dX7_start_16 : decode cX7_start 16 = .ok (.getfield 22, 3) := by decide +kernel
theorem dX7_start_19 : decode cX7_start 19 = .ok (.iastore, 1) := by decide +kernel
theorem dX7_start_20 : decode cX7_start 20 = .ok (.aload_n 0, 1) := by decide +kernel
theorem dX7_start_21 : decode cX7_start 21 = .ok (.getfield 19, 3) := by decide +kernel
theorem dX7_start_24 : decode cX7_start 24 = .ok (.iload_n 1, 1) := by decide +kernel
theorem dX7_start_25 : decode cX7_start 25 = .ok (.iconst 0, 1) := by decide +kernel
theorem dX7_start_26 : decode cX7_start 26 = .ok (.iastore, 1) := by decide +kernel
theorem dX7_start_27 : decode cX7_start 27 = .ok (.aload_n 0, 1) := by decide +kernel
theorem dX7_start_28 : decode cX7_start 28 = .ok (.iconst 0, 1) := by decide +kernel
theorem dX7_start_29 : decode cX7_start 29 = .ok (.putfield 38, 3) := by decide +kernel
theorem dX7_start_32 : decode cX7_start 32 = .ok (.aload_n 0, 1) := by decide +kernel
theorem dX7_start_33 : decode cX7_start 33 = .ok (.iconst 0, 1) := by decide +kernel
theorem dX7_start_34 : decode cX7_start 34 = .ok (.putfield 41, 3) := by decide +kernel
theorem dX7_start_37 : decode cX7_start 37 = .ok (.return_, 1) := by decide +kernel
abbrev mX7_merge_0_e0 : ByteArray := .mk #[0x2a, 0x1b, 0xb6, 0x00, 0x3a, 0x36, 0x04, 0x15, 0x04, 0x9e, 0x00, 0x61, 0x2a, 0xb4, 0x00, 0x26, 0x06, 0xa2, 0x00, 0x59, 0x2a, 0xb4, 0x00, 0x1a, 0x2a, 0xb4, 0x00, 0x26, 0x2a, 0xb4, 0x00, 0x0f, 0x1b, 0x2e, 0x4f, 0x2a, 0xb4, 0x00, 0x1d, 0x2a, 0xb4, 0x00, 0x26, 0x2a, 0xb4, 0x00, 0x0f, 0x1b, 0x2e, 0x15, 0x04, 0x60, 0x4f, 0x2a, 0xb4, 0x00, 0x20, 0x2a, 0xb4, 0x00, 0x26, 0x20, 0x50, 0x2a, 0xb4, 0x00, 0x23, 0x2a, 0xb4, 0x00, 0x26, 0x2a]
theorem kmX7_merge_0_e0 : CK cX7_merge 0 mX7_merge_0_e0 := ck_of (by decide +kernel)
theorem dX7_merge_0 : decode cX7_merge 0 = .ok (.aload_n 0, 1) := rd_chunk (k := 0) (i := 0) kmX7_merge_0_e0 (by decide +kernel)
theorem dX7_merge_1 : decode cX7_merge 1 = .ok (.iload_n 1, 1) := rd_chunk (k := 0) (i := 1) kmX7_merge_0_e0 (by decide +kernel)
theorem dX7_merge_2 : decode cX7_merge 2 = .ok (.invokevirtual 58, 3) := rd_chunk (k := 0) (i := 2) kmX7_merge_0_e0 (by decide +kernel)
theorem dX7_merge_5 : decode cX7_merge 5 = .ok (.istore 4, 2) := rd_chunk (k := 0) (i := 5) kmX7_merge_0_e0 (by decide +kernel)
theorem dX7_merge_7 : decode cX7_merge 7 = .ok (.iload 4, 2) := rd_chunk (k := 0) (i := 7) kmX7_merge_0_e0 (by decide +kernel)
theorem dX7_merge_9 : decode cX7_merge 9 = .ok (.ifCond .le 97, 3) := rd_chunk (k := 0) (i := 9) kmX7_merge_0_e0 (by decide +kernel)
theorem dX7_merge_12 : decode cX7_merge 12 = .ok (.aload_n 0, 1) := rd_chunk (k := 0) (i := 12) kmX7_merge_0_e0 (by decide +kernel)
theorem dX7_merge_13 : decode cX7_merge 13 = .ok (.getfield 38, 3) := rd_chunk (k := 0) (i := 13) kmX7_merge_0_e0 (by decide +kernel)
theorem dX7_merge_16 : decode cX7_merge 16 = .ok (.iconst 3, 1) := rd_chunk (k := 0) (i := 16) kmX7_merge_0_e0 (by decide +kernel)
theorem dX7_merge_17 : decode cX7_merge 17 = .ok (.if_icmp .ge 89, 3) := rd_chunk (k := 0) (i := 17) kmX7_merge_0_e0 (by decide +kernel)
theorem dX7_merge_20 : decode cX7_merge 20 = .ok (.aload_n 0, 1) := rd_chunk (k := 0) (i := 20) kmX7_merge_0_e0 (by decide +kernel)
theorem dX7_merge_21 : decode cX7_merge 21 = .ok (.getfield 26, 3) := rd_chunk (k := 0) (i := 21) kmX7_merge_0_e0 (by decide +kernel)
theorem dX7_merge_24 : decode cX7_merge 24 = .ok (.aload_n 0, 1) := rd_chunk (k := 0) (i := 24) kmX7_merge_0_e0 (by decide +kernel)
theorem dX7_merge_25 : decode cX7_merge 25 = .ok (.getfield 38, 3) := rd_chunk (k := 0) (i := 25) kmX7_merge_0_e0 (by decide +kernel)
theorem dX7_merge_28 : decode cX7_merge 28 = .ok (.aload_n 0, 1) := rd_chunk (k := 0) (i := 28) kmX7_merge_0_e0 (by decide +kernel)
theorem dX7_merge_29 : decode cX7_merge 29 = .ok (.getfield 15, 3) := rd_chunk (k := 0) (i := 29) kmX7_merge_0_e0 (by decide +kernel)
theorem dX7_merge_32 : decode cX7_merge 32 = .ok (.iload_n 1, 1) := rd_chunk (k := 0) (i := 32) kmX7_merge_0_e0 (by decide +kernel)
theorem dX7_merge_33 : decode cX7_merge 33 = .ok (.iaload, 1) := rd_chunk (k := 0) (i := 33) kmX7_merge_0_e0 (by decide +kernel)
theorem dX7_merge_34 : decode cX7_merge 34 = .ok (.iastore, 1) := rd_chunk (k := 0) (i := 34) kmX7_merge_0_e0 (by decide +kernel)
theorem dX7_merge_35 : decode cX7_merge 35 = .ok (.aload_n 0, 1) := rd_chunk (k := 0) (i := 35) kmX7_merge_0_e0 (by decide +kernel)
theorem dX7_merge_36 : decode cX7_merge 36 = .ok (.getfield 29, 3) := rd_chunk (k := 0) (i := 36) kmX7_merge_0_e0 (by decide +kernel)
theorem dX7_merge_39 : decode cX7_merge 39 = .ok (.aload_n 0, 1) := rd_chunk (k := 0) (i := 39) kmX7_merge_0_e0 (by decide +kernel)
theorem dX7_merge_40 : decode cX7_merge 40 = .ok (.getfield 38, 3) := rd_chunk (k := 0) (i := 40) kmX7_merge_0_e0 (by decide +kernel)
theorem dX7_merge_43 : decode cX7_merge 43 = .ok (.aload_n 0, 1) := rd_chunk (k := 0) (i := 43) kmX7_merge_0_e0 (by decide +kernel)
theorem dX7_merge_44 : decode cX7_merge 44 = .ok (.getfield 15, 3) := rd_chunk (k := 0) (i := 44) kmX7_merge_0_e0 (by decide +kernel)
theorem dX7_merge_47 : decode cX7_merge 47 = .ok (.iload_n 1, 1) := rd_chunk (k := 0) (i := 47) kmX7_merge_0_e0 (by decide +kernel)
theorem dX7_merge_48 : decode cX7_merge 48 = .ok (.iaload, 1) := rd_chunk (k := 0) (i := 48) kmX7_merge_0_e0 (by decide +kernel)
theorem dX7_merge_49 : decode cX7_merge 49 = .ok (.iload 4, 2) := rd_chunk (k := 0) (i := 49) kmX7_merge_0_e0 (by decide +kernel)
theorem dX7_merge_51 : decode cX7_merge 51 = .ok (.iadd, 1) := rd_chunk (k := 0) (i := 51) kmX7_merge_0_e0 (by decide +kernel)
theorem dX7_merge_52 : decode cX7_merge 52 = .ok (.iastore, 1) := rd_chunk (k := 0) (i := 52) kmX7_merge_0_e0 (by decide +kernel)
theorem dX7_merge_53 : decode cX7_merge 53 = .ok (.aload_n 0, 1) := rd_chunk (k := 0) (i := 53) kmX7_merge_0_e0 (by decide +kernel)
theorem dX7_merge_54 : decode cX7_merge 54 = .ok (.getfield 32, 3) := rd_chunk (k := 0) (i := 54) kmX7_merge_0_e0 (by decide +kernel)
theorem dX7_merge_57 : decode cX7_merge 57 = .ok (.aload_n 0, 1) := rd_chunk (k := 0) (i := 57) kmX7_merge_0_e0 (by decide +kernel)
theorem dX7_merge_58 : decode cX7_merge 58 = .ok (.getfield 38, 3) := rd_chunk (k := 0) (i := 58) kmX7_merge_0_e0 (by decide +kernel)
theorem dX7_merge_61 : decode cX7_merge 61 = .ok (.lload_n 2, 1) := rd_chunk (k := 0) (i := 61) kmX7_merge_0_e0 (by decide +kernel)
theorem dX7_merge_62 : decode cX7_merge 62 = .ok (.lastore, 1) := rd_chunk (k := 0) (i := 62) kmX7_merge_0_e0 (by decide +kernel)
theorem dX7_merge_63 : decode cX7_merge 63 = .ok (.aload_n 0, 1) := rd_chunk (k := 0) (i := 63) kmX7_merge_0_e0 (by decide +kernel)
abbrev mX7_merge_64_e0 : ByteArray := .mk #[0xb4, 0x00, 0x23, 0x2a, 0xb4, 0x00, 0x26, 0x2a, 0xb4, 0x00, 0x0b, 0x2a, 0xb4, 0x00, 0x0f, 0x1b, 0x2e, 0x2f, 0x20, 0x61, 0x50, 0x2a, 0x59, 0xb4, 0x00, 0x26, 0x04, 0x60, 0xb5, 0x00, 0x26, 0x2a, 0x59, 0xb4, 0x00, 0x29, 0x15, 0x04, 0x60, 0xb5, 0x00, 0x29, 0xb1]
theorem kmX7_merge_64_e0 : CK cX7_merge 64 mX7_merge_64_e0 := ck_of (by decide +kernel)
theorem dX7_merge_64 : decode cX7_merge 64 = .ok (.getfield 35, 3) := rd_chunk (k := 64) (i := 0) kmX7_merge_64_e0 (by decide +kernel)
theorem dX7_merge_67 : decode cX7_merge 67 = .ok (.aload_n 0, 1) := rd_chunk (k := 64) (i := 3) kmX7_merge_64_e0 (by decide +kernel)
theorem dX7_merge_68 : decode cX7_merge 68 = .ok (.getfield 38, 3) := rd_chunk (k := 64) (i := 4) kmX7_merge_64_e0 (by decide +kernel)
theorem dX7_merge_71 : decode cX7_merge 71 = .ok (.aload_n 0, 1) := rd_chunk (k := 64) (i := 7) kmX7_merge_64_e0 (by decide +kernel)
theorem dX7_merge_72 : decode cX7_merge 72 = .ok (.getfield 11, 3) := rd_chunk (k := 64) (i := 8) kmX7_merge_64_e0 (by decide +kernel)
theorem dX7_merge_75 : decode cX7_merge 75 = .ok (.aload_n 0, 1) := rd_chunk (k := 64) (i := 11) kmX7_merge_64_e0 (by decide +kernel)
theorem dX7_merge_76 : decode cX7_merge 76 = .ok (.getfield 15, 3) := rd_chunk (k := 64) (i := 12) kmX7_merge_64_e0 (by decide +kernel)
theorem dX7_merge_79 : decode cX7_merge 79 = .ok (.iload_n 1, 1) := rd_chunk (k := 64) (i := 15) kmX7_merge_64_e0 (by decide +kernel)
theorem dX7_merge_80 : decode cX7_merge 80 = .ok (.iaload, 1) := rd_chunk (k := 64) (i := 16) kmX7_merge_64_e0 (by decide +kernel)
theorem dX7_merge_81 : decode cX7_merge 81 = .ok (.laload, 1) := rd_chunk (k := 64) (i := 17) kmX7_merge_64_e0 (by decide +kernel)
theorem dX7_merge_82 : decode cX7_merge 82 = .ok (.lload_n 2, 1) := rd_chunk (k := 64) (i := 18) kmX7_merge_64_e0 (by decide +kernel)
theorem dX7_merge_83 : decode cX7_merge 83 = .ok (.ladd, 1) := rd_chunk (k := 64) (i := 19) kmX7_merge_64_e0 (by decide +kernel)
theorem dX7_merge_84 : decode cX7_merge 84 = .ok (.lastore, 1) := rd_chunk (k := 64) (i := 20) kmX7_merge_64_e0 (by decide +kernel)
theorem dX7_merge_85 : decode cX7_merge 85 = .ok (.aload_n 0, 1) := rd_chunk (k := 64) (i := 21) kmX7_merge_64_e0 (by decide +kernel)
theorem dX7_merge_86 : decode cX7_merge 86 = .ok (.dup, 1) := rd_chunk (k := 64) (i := 22) kmX7_merge_64_e0 (by decide +kernel)
theorem dX7_merge_87 : decode cX7_merge 87 = .ok (.getfield 38, 3) := rd_chunk (k := 64) (i := 23) kmX7_merge_64_e0 (by decide +kernel)
theorem dX7_merge_90 : decode cX7_merge 90 = .ok (.iconst 1, 1) := rd_chunk (k := 64) (i := 26) kmX7_merge_64_e0 (by decide +kernel)
theorem dX7_merge_91 : decode cX7_merge 91 = .ok (.iadd, 1) := rd_chunk (k := 64) (i := 27) kmX7_merge_64_e0 (by decide +kernel)
theorem dX7_merge_92 : decode cX7_merge 92 = .ok (.putfield 38, 3) := rd_chunk (k := 64) (i := 28) kmX7_merge_64_e0 (by decide +kernel)
theorem dX7_merge_95 : decode cX7_merge 95 = .ok (.aload_n 0, 1) := rd_chunk (k := 64) (i := 31) kmX7_merge_64_e0 (by decide +kernel)
theorem dX7_merge_96 : decode cX7_merge 96 = .ok (.dup, 1) := rd_chunk (k := 64) (i := 32) kmX7_merge_64_e0 (by decide +kernel)
theorem dX7_merge_97 : decode cX7_merge 97 = .ok (.getfield 41, 3) := rd_chunk (k := 64) (i := 33) kmX7_merge_64_e0 (by decide +kernel)
theorem dX7_merge_100 : decode cX7_merge 100 = .ok (.iload 4, 2) := rd_chunk (k := 64) (i := 36) kmX7_merge_64_e0 (by decide +kernel)
theorem dX7_merge_102 : decode cX7_merge 102 = .ok (.iadd, 1) := rd_chunk (k := 64) (i := 38) kmX7_merge_64_e0 (by decide +kernel)
theorem dX7_merge_103 : decode cX7_merge 103 = .ok (.putfield 41, 3) := rd_chunk (k := 64) (i := 39) kmX7_merge_64_e0 (by decide +kernel)
theorem dX7_merge_106 : decode cX7_merge 106 = .ok (.return_, 1) := rd_chunk (k := 64) (i := 42) kmX7_merge_64_e0 (by decide +kernel)
theorem dX7_sizeAt_0 : decode cX7_sizeAt 0 = .ok (.iload_n 1, 1) := by decide +kernel
theorem dX7_sizeAt_1 : decode cX7_sizeAt 1 = .ok (.ifCond .lt 18, 3) := by decide +kernel
theorem dX7_sizeAt_4 : decode cX7_sizeAt 4 = .ok (.iload_n 1, 1) := by decide +kernel
theorem dX7_sizeAt_5 : decode cX7_sizeAt 5 = .ok (.bipush 25, 2) := by decide +kernel
theorem dX7_sizeAt_7 : decode cX7_sizeAt 7 = .ok (.if_icmp .ge 12, 3) := by decide +kernel
theorem dX7_sizeAt_10 : decode cX7_sizeAt 10 = .ok (.aload_n 0, 1) := by decide +kernel
theorem dX7_sizeAt_11 : decode cX7_sizeAt 11 = .ok (.getfield 19, 3) := by decide +kernel
theorem dX7_sizeAt_14 : decode cX7_sizeAt 14 = .ok (.iload_n 1, 1) := by decide +kernel
theorem dX7_sizeAt_15 : decode cX7_sizeAt 15 = .ok (.iaload, 1) := by decide +kernel
theorem dX7_sizeAt_16 : decode cX7_sizeAt 16 = .ok (.goto 4, 3) := by decide +kernel
theorem dX7_sizeAt_19 : decode cX7_sizeAt 19 = .ok (.iconst 0, 1) := by decide +kernel
theorem dX7_sizeAt_20 : decode cX7_sizeAt 20 = .ok (.ireturn, 1) := by decide +kernel
theorem dX7_keyAt_0 : decode cX7_keyAt 0 = .ok (.iload_n 2, 1) := by decide +kernel
theorem dX7_keyAt_1 : decode cX7_keyAt 1 = .ok (.ifCond .lt 28, 3) := by decide +kernel
theorem dX7_keyAt_4 : decode cX7_keyAt 4 = .ok (.iload_n 2, 1) := by decide +kernel
theorem dX7_keyAt_5 : decode cX7_keyAt 5 = .ok (.aload_n 0, 1) := by decide +kernel
theorem dX7_keyAt_6 : decode cX7_keyAt 6 = .ok (.iload_n 1, 1) := by decide +kernel
theorem dX7_keyAt_7 : decode cX7_keyAt 7 = .ok (.invokevirtual 58, 3) := by decide +kernel
theorem dX7_keyAt_10 : decode cX7_keyAt 10 = .ok (.if_icmp .ge 19, 3) := by decide +kernel
theorem dX7_keyAt_13 : decode cX7_keyAt 13 = .ok (.aload_n 0, 1) := by decide +kernel
theorem dX7_keyAt_14 : decode cX7_keyAt 14 = .ok (.getfield 11, 3) := by decide +kernel
theorem dX7_keyAt_17 : decode cX7_keyAt 17 = .ok (.aload_n 0, 1) := by decide +kernel
theorem dX7_keyAt_18 : decode cX7_keyAt 18 = .ok (.getfield 15, 3) := by decide +kernel
theorem dX7_keyAt_21 : decode cX7_keyAt 21 = .ok (.iload_n 1, 1) := by decide +kernel
theorem dX7_keyAt_22 : decode cX7_keyAt 22 = .ok (.iaload, 1) := by decide +kernel
theorem dX7_keyAt_23 : decode cX7_keyAt 23 = .ok (.iload_n 2, 1) := by decide +kernel
theorem dX7_keyAt_24 : decode cX7_keyAt 24 = .ok (.iadd, 1) := by decide +kernel
theorem dX7_keyAt_25 : decode cX7_keyAt 25 = .ok (.laload, 1) := by decide +kernel
theorem dX7_keyAt_26 : decode cX7_keyAt 26 = .ok (.goto 6, 3) := by decide +kernel
theorem dX7_keyAt_29 : decode cX7_keyAt 29 = .ok (.ldc2_w 62, 3) := by decide +kernel
theorem dX7_keyAt_32 : decode cX7_keyAt 32 = .ok (.lreturn, 1) := by decide +kernel
abbrev mX7_take_0_e0 : ByteArray := .mk #[0x03, 0x3c, 0x04, 0x3d, 0x1c, 0x2a, 0xb4, 0x00, 0x26, 0xa2, 0x00, 0x1f, 0x2a, 0xb4, 0x00, 0x23, 0x1c, 0x2f, 0x2a, 0xb4, 0x00, 0x23, 0x1b, 0x2f, 0x94, 0x9c, 0x00, 0x07, 0x1c, 0xa7, 0x00, 0x04, 0x1b, 0x3c, 0x84, 0x02, 0x01, 0xa7, 0xff, 0xdf, 0x2a, 0xb4, 0x00, 0x29, 0x9a, 0x00, 0x07, 0x14, 0x00, 0x3e, 0xad, 0x2a, 0xb4, 0x00, 0x23, 0x1b, 0x2f, 0x41, 0x2a, 0xb4, 0x00, 0x1a, 0x1b, 0x5c, 0x2e, 0x04, 0x60, 0x4f, 0x2a, 0xb4, 0x00, 0x1a]
theorem kmX7_take_0_e0 : CK cX7_take 0 mX7_take_0_e0 := ck_of (by decide +kernel)
theorem dX7_take_0 : decode cX7_take 0 = .ok (.iconst 0, 1) := rd_chunk (k := 0) (i := 0) kmX7_take_0_e0 (by decide +kernel)
theorem dX7_take_1 : decode cX7_take 1 = .ok (.istore_n 1, 1) := rd_chunk (k := 0) (i := 1) kmX7_take_0_e0 (by decide +kernel)
theorem dX7_take_2 : decode cX7_take 2 = .ok (.iconst 1, 1) := rd_chunk (k := 0) (i := 2) kmX7_take_0_e0 (by decide +kernel)
theorem dX7_take_3 : decode cX7_take 3 = .ok (.istore_n 2, 1) := rd_chunk (k := 0) (i := 3) kmX7_take_0_e0 (by decide +kernel)
theorem dX7_take_4 : decode cX7_take 4 = .ok (.iload_n 2, 1) := rd_chunk (k := 0) (i := 4) kmX7_take_0_e0 (by decide +kernel)
theorem dX7_take_5 : decode cX7_take 5 = .ok (.aload_n 0, 1) := rd_chunk (k := 0) (i := 5) kmX7_take_0_e0 (by decide +kernel)
theorem dX7_take_6 : decode cX7_take 6 = .ok (.getfield 38, 3) := rd_chunk (k := 0) (i := 6) kmX7_take_0_e0 (by decide +kernel)
theorem dX7_take_9 : decode cX7_take 9 = .ok (.if_icmp .ge 31, 3) := rd_chunk (k := 0) (i := 9) kmX7_take_0_e0 (by decide +kernel)
theorem dX7_take_12 : decode cX7_take 12 = .ok (.aload_n 0, 1) := rd_chunk (k := 0) (i := 12) kmX7_take_0_e0 (by decide +kernel)
theorem dX7_take_13 : decode cX7_take 13 = .ok (.getfield 35, 3) := rd_chunk (k := 0) (i := 13) kmX7_take_0_e0 (by decide +kernel)
theorem dX7_take_16 : decode cX7_take 16 = .ok (.iload_n 2, 1) := rd_chunk (k := 0) (i := 16) kmX7_take_0_e0 (by decide +kernel)
theorem dX7_take_17 : decode cX7_take 17 = .ok (.laload, 1) := rd_chunk (k := 0) (i := 17) kmX7_take_0_e0 (by decide +kernel)
theorem dX7_take_18 : decode cX7_take 18 = .ok (.aload_n 0, 1) := rd_chunk (k := 0) (i := 18) kmX7_take_0_e0 (by decide +kernel)
theorem dX7_take_19 : decode cX7_take 19 = .ok (.getfield 35, 3) := rd_chunk (k := 0) (i := 19) kmX7_take_0_e0 (by decide +kernel)
theorem dX7_take_22 : decode cX7_take 22 = .ok (.iload_n 1, 1) := rd_chunk (k := 0) (i := 22) kmX7_take_0_e0 (by decide +kernel)
theorem dX7_take_23 : decode cX7_take 23 = .ok (.laload, 1) := rd_chunk (k := 0) (i := 23) kmX7_take_0_e0 (by decide +kernel)
theorem dX7_take_24 : decode cX7_take 24 = .ok (.lcmp, 1) := rd_chunk (k := 0) (i := 24) kmX7_take_0_e0 (by decide +kernel)
theorem dX7_take_25 : decode cX7_take 25 = .ok (.ifCond .ge 7, 3) := rd_chunk (k := 0) (i := 25) kmX7_take_0_e0 (by decide +kernel)
theorem dX7_take_28 : decode cX7_take 28 = .ok (.iload_n 2, 1) := rd_chunk (k := 0) (i := 28) kmX7_take_0_e0 (by decide +kernel)
theorem dX7_take_29 : decode cX7_take 29 = .ok (.goto 4, 3) := rd_chunk (k := 0) (i := 29) kmX7_take_0_e0 (by decide +kernel)
theorem dX7_take_32 : decode cX7_take 32 = .ok (.iload_n 1, 1) := rd_chunk (k := 0) (i := 32) kmX7_take_0_e0 (by decide +kernel)
theorem dX7_take_33 : decode cX7_take 33 = .ok (.istore_n 1, 1) := rd_chunk (k := 0) (i := 33) kmX7_take_0_e0 (by decide +kernel)
theorem dX7_take_34 : decode cX7_take 34 = .ok (.iinc 2 1, 3) := rd_chunk (k := 0) (i := 34) kmX7_take_0_e0 (by decide +kernel)
theorem dX7_take_37 : decode cX7_take 37 = .ok (.goto (-33), 3) := rd_chunk (k := 0) (i := 37) kmX7_take_0_e0 (by decide +kernel)
theorem dX7_take_40 : decode cX7_take 40 = .ok (.aload_n 0, 1) := rd_chunk (k := 0) (i := 40) kmX7_take_0_e0 (by decide +kernel)
theorem dX7_take_41 : decode cX7_take 41 = .ok (.getfield 41, 3) := rd_chunk (k := 0) (i := 41) kmX7_take_0_e0 (by decide +kernel)
theorem dX7_take_44 : decode cX7_take 44 = .ok (.ifCond .ne 7, 3) := rd_chunk (k := 0) (i := 44) kmX7_take_0_e0 (by decide +kernel)
theorem dX7_take_47 : decode cX7_take 47 = .ok (.ldc2_w 62, 3) := rd_chunk (k := 0) (i := 47) kmX7_take_0_e0 (by decide +kernel)
theorem dX7_take_50 : decode cX7_take 50 = .ok (.lreturn, 1) := rd_chunk (k := 0) (i := 50) kmX7_take_0_e0 (by decide +kernel)
theorem dX7_take_51 : decode cX7_take 51 = .ok (.aload_n 0, 1) := rd_chunk (k := 0) (i := 51) kmX7_take_0_e0 (by decide +kernel)
theorem dX7_take_52 : decode cX7_take 52 = .ok (.getfield 35, 3) := rd_chunk (k := 0) (i := 52) kmX7_take_0_e0 (by decide +kernel)
theorem dX7_take_55 : decode cX7_take 55 = .ok (.iload_n 1, 1) := rd_chunk (k := 0) (i := 55) kmX7_take_0_e0 (by decide +kernel)
theorem dX7_take_56 : decode cX7_take 56 = .ok (.laload, 1) := rd_chunk (k := 0) (i := 56) kmX7_take_0_e0 (by decide +kernel)
theorem dX7_take_57 : decode cX7_take 57 = .ok (.lstore_n 2, 1) := rd_chunk (k := 0) (i := 57) kmX7_take_0_e0 (by decide +kernel)
theorem dX7_take_58 : decode cX7_take 58 = .ok (.aload_n 0, 1) := rd_chunk (k := 0) (i := 58) kmX7_take_0_e0 (by decide +kernel)
theorem dX7_take_59 : decode cX7_take 59 = .ok (.getfield 26, 3) := rd_chunk (k := 0) (i := 59) kmX7_take_0_e0 (by decide +kernel)
theorem dX7_take_62 : decode cX7_take 62 = .ok (.iload_n 1, 1) := rd_chunk (k := 0) (i := 62) kmX7_take_0_e0 (by decide +kernel)
theorem dX7_take_63 : decode cX7_take 63 = .ok (.dup2, 1) := rd_chunk (k := 0) (i := 63) kmX7_take_0_e0 (by decide +kernel)
abbrev mX7_take_64_e0 : ByteArray := .mk #[0x2e, 0x04, 0x60, 0x4f, 0x2a, 0xb4, 0x00, 0x1a, 0x1b, 0x2e, 0x36, 0x04, 0x2a, 0xb4, 0x00, 0x23, 0x1b, 0x15, 0x04, 0x2a, 0xb4, 0x00, 0x1d, 0x1b, 0x2e, 0xa2, 0x00, 0x1e, 0x15, 0x04, 0x2a, 0xb4, 0x00, 0x0b, 0xbe, 0xa2, 0x00, 0x14, 0x2a, 0xb4, 0x00, 0x0b, 0x15, 0x04, 0x2f, 0x2a, 0xb4, 0x00, 0x20, 0x1b, 0x2f, 0x61, 0xa7, 0x00, 0x06, 0x14, 0x00, 0x3e, 0x50, 0x2a, 0x59, 0xb4, 0x00, 0x29, 0x04, 0x64, 0xb5, 0x00, 0x29, 0x20, 0xad]
theorem kmX7_take_64_e0 : CK cX7_take 64 mX7_take_64_e0 := ck_of (by decide +kernel)
theorem dX7_take_64 : decode cX7_take 64 = .ok (.iaload, 1) := rd_chunk (k := 64) (i := 0) kmX7_take_64_e0 (by decide +kernel)
theorem dX7_take_65 : decode cX7_take 65 = .ok (.iconst 1, 1) := rd_chunk (k := 64) (i := 1) kmX7_take_64_e0 (by decide +kernel)
theorem dX7_take_66 : decode cX7_take 66 = .ok (.iadd, 1) := rd_chunk (k := 64) (i := 2) kmX7_take_64_e0 (by decide +kernel)
theorem dX7_take_67 : decode cX7_take 67 = .ok (.iastore, 1) := rd_chunk (k := 64) (i := 3) kmX7_take_64_e0 (by decide +kernel)
theorem dX7_take_68 : decode cX7_take 68 = .ok (.aload_n 0, 1) := rd_chunk (k := 64) (i := 4) kmX7_take_64_e0 (by decide +kernel)
theorem dX7_take_69 : decode cX7_take 69 = .ok (.getfield 26, 3) := rd_chunk (k := 64) (i := 5) kmX7_take_64_e0 (by decide +kernel)
theorem dX7_take_72 : decode cX7_take 72 = .ok (.iload_n 1, 1) := rd_chunk (k := 64) (i := 8) kmX7_take_64_e0 (by decide +kernel)
theorem dX7_take_73 : decode cX7_take 73 = .ok (.iaload, 1) := rd_chunk (k := 64) (i := 9) kmX7_take_64_e0 (by decide +kernel)
theorem dX7_take_74 : decode cX7_take 74 = .ok (.istore 4, 2) := rd_chunk (k := 64) (i := 10) kmX7_take_64_e0 (by decide +kernel)
theorem dX7_take_76 : decode cX7_take 76 = .ok (.aload_n 0, 1) := rd_chunk (k := 64) (i := 12) kmX7_take_64_e0 (by decide +kernel)
theorem dX7_take_77 : decode cX7_take 77 = .ok (.getfield 35, 3) := rd_chunk (k := 64) (i := 13) kmX7_take_64_e0 (by decide +kernel)
theorem dX7_take_80 : decode cX7_take 80 = .ok (.iload_n 1, 1) := rd_chunk (k := 64) (i := 16) kmX7_take_64_e0 (by decide +kernel)
theorem dX7_take_81 : decode cX7_take 81 = .ok (.iload 4, 2) := rd_chunk (k := 64) (i := 17) kmX7_take_64_e0 (by decide +kernel)
theorem dX7_take_83 : decode cX7_take 83 = .ok (.aload_n 0, 1) := rd_chunk (k := 64) (i := 19) kmX7_take_64_e0 (by decide +kernel)
theorem dX7_take_84 : decode cX7_take 84 = .ok (.getfield 29, 3) := rd_chunk (k := 64) (i := 20) kmX7_take_64_e0 (by decide +kernel)
theorem dX7_take_87 : decode cX7_take 87 = .ok (.iload_n 1, 1) := rd_chunk (k := 64) (i := 23) kmX7_take_64_e0 (by decide +kernel)
theorem dX7_take_88 : decode cX7_take 88 = .ok (.iaload, 1) := rd_chunk (k := 64) (i := 24) kmX7_take_64_e0 (by decide +kernel)
theorem dX7_take_89 : decode cX7_take 89 = .ok (.if_icmp .ge 30, 3) := rd_chunk (k := 64) (i := 25) kmX7_take_64_e0 (by decide +kernel)
theorem dX7_take_92 : decode cX7_take 92 = .ok (.iload 4, 2) := rd_chunk (k := 64) (i := 28) kmX7_take_64_e0 (by decide +kernel)
theorem dX7_take_94 : decode cX7_take 94 = .ok (.aload_n 0, 1) := rd_chunk (k := 64) (i := 30) kmX7_take_64_e0 (by decide +kernel)
theorem dX7_take_95 : decode cX7_take 95 = .ok (.getfield 11, 3) := rd_chunk (k := 64) (i := 31) kmX7_take_64_e0 (by decide +kernel)
theorem dX7_take_98 : decode cX7_take 98 = .ok (.arraylength, 1) := rd_chunk (k := 64) (i := 34) kmX7_take_64_e0 (by decide +kernel)
theorem dX7_take_99 : decode cX7_take 99 = .ok (.if_icmp .ge 20, 3) := rd_chunk (k := 64) (i := 35) kmX7_take_64_e0 (by decide +kernel)
theorem dX7_take_102 : decode cX7_take 102 = .ok (.aload_n 0, 1) := rd_chunk (k := 64) (i := 38) kmX7_take_64_e0 (by decide +kernel)
theorem dX7_take_103 : decode cX7_take 103 = .ok (.getfield 11, 3) := rd_chunk (k := 64) (i := 39) kmX7_take_64_e0 (by decide +kernel)
theorem dX7_take_106 : decode cX7_take 106 = .ok (.iload 4, 2) := rd_chunk (k := 64) (i := 42) kmX7_take_64_e0 (by decide +kernel)
theorem dX7_take_108 : decode cX7_take 108 = .ok (.laload, 1) := rd_chunk (k := 64) (i := 44) kmX7_take_64_e0 (by decide +kernel)
theorem dX7_take_109 : decode cX7_take 109 = .ok (.aload_n 0, 1) := rd_chunk (k := 64) (i := 45) kmX7_take_64_e0 (by decide +kernel)
theorem dX7_take_110 : decode cX7_take 110 = .ok (.getfield 32, 3) := rd_chunk (k := 64) (i := 46) kmX7_take_64_e0 (by decide +kernel)
theorem dX7_take_113 : decode cX7_take 113 = .ok (.iload_n 1, 1) := rd_chunk (k := 64) (i := 49) kmX7_take_64_e0 (by decide +kernel)
theorem dX7_take_114 : decode cX7_take 114 = .ok (.laload, 1) := rd_chunk (k := 64) (i := 50) kmX7_take_64_e0 (by decide +kernel)
theorem dX7_take_115 : decode cX7_take 115 = .ok (.ladd, 1) := rd_chunk (k := 64) (i := 51) kmX7_take_64_e0 (by decide +kernel)
theorem dX7_take_116 : decode cX7_take 116 = .ok (.goto 6, 3) := rd_chunk (k := 64) (i := 52) kmX7_take_64_e0 (by decide +kernel)
theorem dX7_take_119 : decode cX7_take 119 = .ok (.ldc2_w 62, 3) := rd_chunk (k := 64) (i := 55) kmX7_take_64_e0 (by decide +kernel)
theorem dX7_take_122 : decode cX7_take 122 = .ok (.lastore, 1) := rd_chunk (k := 64) (i := 58) kmX7_take_64_e0 (by decide +kernel)
theorem dX7_take_123 : decode cX7_take 123 = .ok (.aload_n 0, 1) := rd_chunk (k := 64) (i := 59) kmX7_take_64_e0 (by decide +kernel)
theorem dX7_take_124 : decode cX7_take 124 = .ok (.dup, 1) := rd_chunk (k := 64) (i := 60) kmX7_take_64_e0 (by decide +kernel)
theorem dX7_take_125 : decode cX7_take 125 = .ok (.getfield 41, 3) := rd_chunk (k := 64) (i := 61) kmX7_take_64_e0 (by decide +kernel)
abbrev mX7_take_128_e0 : ByteArray := .mk #[0x04, 0x64, 0xb5, 0x00, 0x29, 0x20, 0xad]
theorem kmX7_take_128_e0 : CK cX7_take 128 mX7_take_128_e0 := ck_of (by decide +kernel)
theorem dX7_take_128 : decode cX7_take 128 = .ok (.iconst 1, 1) := rd_chunk (k := 128) (i := 0) kmX7_take_128_e0 (by decide +kernel)
theorem dX7_take_129 : decode cX7_take 129 = .ok (.isub, 1) := rd_chunk (k := 128) (i := 1) kmX7_take_128_e0 (by decide +kernel)
theorem dX7_take_130 : decode cX7_take 130 = .ok (.putfield 41, 3) := rd_chunk (k := 128) (i := 2) kmX7_take_128_e0 (by decide +kernel)
theorem dX7_take_133 : decode cX7_take 133 = .ok (.lload_n 2, 1) := rd_chunk (k := 128) (i := 5) kmX7_take_128_e0 (by decide +kernel)
theorem dX7_take_134 : decode cX7_take 134 = .ok (.lreturn, 1) := rd_chunk (k := 128) (i := 6) kmX7_take_128_e0 (by decide +kernel)
theorem dX7_push_0 : decode cX7_push 0 = .ok (.aload_n 0, 1) := by decide +kernel
theorem dX7_push_1 : decode cX7_push 1 = .ok (.getfield 22, 3) := by decide +kernel
theorem dX7_push_4 : decode cX7_push 4 = .ok (.aload_n 0, 1) := by decide +kernel
theorem dX7_push_5 : decode cX7_push 5 = .ok (.getfield 11, 3) := by decide +kernel
theorem dX7_push_8 : decode cX7_push 8 = .ok (.arraylength, 1) := by decide +kernel
theorem dX7_push_9 : decode cX7_push 9 = .ok (.if_icmp .ne 29, 3) := by decide +kernel
theorem dX7_push_12 : decode cX7_push 12 = .ok (.aload_n 0, 1) := by decide +kernel
theorem dX7_push_13 : decode cX7_push 13 = .ok (.getfield 22, 3) := by decide +kernel
theorem dX7_push_16 : decode cX7_push 16 = .ok (.ldc 64, 2) := by decide +kernel
theorem dX7_push_18 : decode cX7_push 18 = .ok (.if_icmp .ge 20, 3) := by decide +kernel
theorem dX7_push_21 : decode cX7_push 21 = .ok (.aload_n 0, 1) := by decide +kernel
theorem dX7_push_22 : decode cX7_push 22 = .ok (.aload_n 0, 1) := by decide +kernel
theorem dX7_push_23 : decode cX7_push 23 = .ok (.getfield 11, 3) := by decide +kernel
theorem dX7_push_26 : decode cX7_push 26 = .ok (.aload_n 0, 1) := by decide +kernel
theorem dX7_push_27 : decode cX7_push 27 = .ok (.getfield 22, 3) := by decide +kernel
theorem dX7_push_30 : decode cX7_push 30 = .ok (.iconst 2, 1) := by decide +kernel
theorem dX7_push_31 : decode cX7_push 31 = .ok (.imul, 1) := by decide +kernel
theorem dX7_push_32 : decode cX7_push 32 = .ok (.invokestatic 65, 3) := by decide +kernel
theorem dX7_push_35 : decode cX7_push 35 = .ok (.putfield 11, 3) := by decide +kernel
theorem dX7_push_38 : decode cX7_push 38 = .ok (.aload_n 0, 1) := by decide +kernel
theorem dX7_push_39 : decode cX7_push 39 = .ok (.getfield 22, 3) := by decide +kernel
theorem dX7_push_42 : decode cX7_push 42 = .ok (.aload_n 0, 1) := by decide +kernel
theorem dX7_push_43 : decode cX7_push 43 = .ok (.getfield 11, 3) := by decide +kernel
theorem dX7_push_46 : decode cX7_push 46 = .ok (.arraylength, 1) := by decide +kernel
theorem dX7_push_47 : decode cX7_push 47 = .ok (.if_icmp .ge 43, 3) := by decide +kernel
theorem dX7_push_50 : decode cX7_push 50 = .ok (.iload_n 1, 1) := by decide +kernel
theorem dX7_push_51 : decode cX7_push 51 = .ok (.ifCond .lt 39, 3) := by decide +kernel
theorem dX7_push_54 : decode cX7_push 54 = .ok (.iload_n 1, 1) := by decide +kernel
theorem dX7_push_55 : decode cX7_push 55 = .ok (.bipush 25, 2) := by decide +kernel
theorem dX7_push_57 : decode cX7_push 57 = .ok (.if_icmp .ge 33, 3) := by decide +kernel
theorem dX7_push_60 : decode cX7_push 60 = .ok (.aload_n 0, 1) := by decide +kernel
theorem dX7_push_61 : decode cX7_push 61 = .ok (.getfield 11, 3) := by decide +kernel
theorem dX7_push_64 : decode cX7_push 64 = .ok (.aload_n 0, 1) := by decide +kernel
theorem dX7_push_65 : decode cX7_push 65 = .ok (.getfield 22, 3) := by decide +kernel
theorem dX7_push_68 : decode cX7_push 68 = .ok (.lload_n 2, 1) := by decide +kernel
theorem dX7_push_69 : decode cX7_push 69 = .ok (.lastore, 1) := by decide +kernel
theorem dX7_push_70 : decode cX7_push 70 = .ok (.aload_n 0, 1) := by decide +kernel
theorem dX7_push_71 : decode cX7_push 71 = .ok (.dup, 1) := by decide +kernel
theorem dX7_push_72 : decode cX7_push 72 = .ok (.getfield 22, 3) := by decide +kernel
theorem dX7_push_75 : decode cX7_push 75 = .ok (.iconst 1, 1) := by decide +kernel
theorem dX7_push_76 : decode cX7_push 76 = .ok (.iadd, 1) := by decide +kernel
theorem dX7_push_77 : decode cX7_push 77 = .ok (.putfield 22, 3) := by decide +kernel
theorem dX7_push_80 : decode cX7_push 80 = .ok (.aload_n 0, 1) := by decide +kernel
theorem dX7_push_81 : decode cX7_push 81 = .ok (.getfield 19, 3) := by decide +kernel
theorem dX7_push_84 : decode cX7_push 84 = .ok (.iload_n 1, 1) := by decide +kernel
theorem dX7_push_85 : decode cX7_push 85 = .ok (.dup2, 1) := by decide +kernel
theorem dX7_push_86 : decode cX7_push 86 = .ok (.iaload, 1) := by decide +kernel
theorem dX7_push_87 : decode cX7_push 87 = .ok (.iconst 1, 1) := by decide +kernel
theorem dX7_push_88 : decode cX7_push 88 = .ok (.iadd, 1) := by decide +kernel
theorem dX7_push_89 : decode cX7_push 89 = .ok (.iastore, 1) := by decide +kernel
theorem dX7_push_90 : decode cX7_push 90 = .ok (.return_, 1) := by decide +kernel
abbrev mX7_leastJoined_0_e0 : ByteArray := .mk #[0x2c, 0x1d, 0xb6, 0x00, 0x3a, 0x36, 0x05, 0x15, 0x05, 0x36, 0x06, 0x14, 0x00, 0x3e, 0x37, 0x07, 0x2c, 0x1d, 0x03, 0xb6, 0x00, 0x45, 0x14, 0x00, 0x49, 0x65, 0x37, 0x09, 0x03, 0x36, 0x0b, 0x15, 0x0b, 0x2a, 0x1b, 0xb6, 0x00, 0x3a, 0xa2, 0x00, 0x6e, 0x15, 0x05, 0x9e, 0x00, 0x69, 0x2a, 0xb4, 0x00, 0x0b, 0x2a, 0xb4, 0x00, 0x0f, 0x1b, 0x2e, 0x15, 0x0b, 0x60, 0x2f, 0x37, 0x0c, 0x16, 0x0c, 0x16, 0x09, 0x61, 0x16, 0x07, 0x94, 0x9b, 0x00]
theorem kmX7_leastJoined_0_e0 : CK cX7_leastJoined 0 mX7_leastJoined_0_e0 := ck_of (by decide +kernel)
theorem dX7_leastJoined_0 : decode cX7_leastJoined 0 = .ok (.aload_n 2, 1) := rd_chunk (k := 0) (i := 0) kmX7_leastJoined_0_e0 (by decide +kernel)
theorem dX7_leastJoined_1 : decode cX7_leastJoined 1 = .ok (.iload_n 3, 1) := rd_chunk (k := 0) (i := 1) kmX7_leastJoined_0_e0 (by decide +kernel)
theorem dX7_leastJoined_2 : decode cX7_leastJoined 2 = .ok (.invokevirtual 58, 3) := rd_chunk (k := 0) (i := 2) kmX7_leastJoined_0_e0 (by decide +kernel)
theorem dX7_leastJoined_5 : decode cX7_leastJoined 5 = .ok (.istore 5, 2) := rd_chunk (k := 0) (i := 5) kmX7_leastJoined_0_e0 (by decide +kernel)
theorem dX7_leastJoined_7 : decode cX7_leastJoined 7 = .ok (.iload 5, 2) := rd_chunk (k := 0) (i := 7) kmX7_leastJoined_0_e0 (by decide +kernel)
theorem dX7_leastJoined_9 : decode cX7_leastJoined 9 = .ok (.istore 6, 2) := rd_chunk (k := 0) (i := 9) kmX7_leastJoined_0_e0 (by decide +kernel)
theorem dX7_leastJoined_11 : decode cX7_leastJoined 11 = .ok (.ldc2_w 62, 3) := rd_chunk (k := 0) (i := 11) kmX7_leastJoined_0_e0 (by decide +kernel)
theorem dX7_leastJoined_14 : decode cX7_leastJoined 14 = .ok (.lstore 7, 2) := rd_chunk (k := 0) (i := 14) kmX7_leastJoined_0_e0 (by decide +kernel)
theorem dX7_leastJoined_16 : decode cX7_leastJoined 16 = .ok (.aload_n 2, 1) := rd_chunk (k := 0) (i := 16) kmX7_leastJoined_0_e0 (by decide +kernel)
theorem dX7_leastJoined_17 : decode cX7_leastJoined 17 = .ok (.iload_n 3, 1) := rd_chunk (k := 0) (i := 17) kmX7_leastJoined_0_e0 (by decide +kernel)
theorem dX7_leastJoined_18 : decode cX7_leastJoined 18 = .ok (.iconst 0, 1) := rd_chunk (k := 0) (i := 18) kmX7_leastJoined_0_e0 (by decide +kernel)
theorem dX7_leastJoined_19 : decode cX7_leastJoined 19 = .ok (.invokevirtual 69, 3) := rd_chunk (k := 0) (i := 19) kmX7_leastJoined_0_e0 (by decide +kernel)
theorem dX7_leastJoined_22 : decode cX7_leastJoined 22 = .ok (.ldc2_w 73, 3) := rd_chunk (k := 0) (i := 22) kmX7_leastJoined_0_e0 (by decide +kernel)
theorem dX7_leastJoined_25 : decode cX7_leastJoined 25 = .ok (.lsub, 1) := rd_chunk (k := 0) (i := 25) kmX7_leastJoined_0_e0 (by decide +kernel)
theorem dX7_leastJoined_26 : decode cX7_leastJoined 26 = .ok (.lstore 9, 2) := rd_chunk (k := 0) (i := 26) kmX7_leastJoined_0_e0 (by decide +kernel)
theorem dX7_leastJoined_28 : decode cX7_leastJoined 28 = .ok (.iconst 0, 1) := rd_chunk (k := 0) (i := 28) kmX7_leastJoined_0_e0 (by decide +kernel)
theorem dX7_leastJoined_29 : decode cX7_leastJoined 29 = .ok (.istore 11, 2) := rd_chunk (k := 0) (i := 29) kmX7_leastJoined_0_e0 (by decide +kernel)
theorem dX7_leastJoined_31 : decode cX7_leastJoined 31 = .ok (.iload 11, 2) := rd_chunk (k := 0) (i := 31) kmX7_leastJoined_0_e0 (by decide +kernel)
theorem dX7_leastJoined_33 : decode cX7_leastJoined 33 = .ok (.aload_n 0, 1) := rd_chunk (k := 0) (i := 33) kmX7_leastJoined_0_e0 (by decide +kernel)
theorem dX7_leastJoined_34 : decode cX7_leastJoined 34 = .ok (.iload_n 1, 1) := rd_chunk (k := 0) (i := 34) kmX7_leastJoined_0_e0 (by decide +kernel)
theorem dX7_leastJoined_35 : decode cX7_leastJoined 35 = .ok (.invokevirtual 58, 3) := rd_chunk (k := 0) (i := 35) kmX7_leastJoined_0_e0 (by decide +kernel)
theorem dX7_leastJoined_38 : decode cX7_leastJoined 38 = .ok (.if_icmp .ge 110, 3) := rd_chunk (k := 0) (i := 38) kmX7_leastJoined_0_e0 (by decide +kernel)
theorem dX7_leastJoined_41 : decode cX7_leastJoined 41 = .ok (.iload 5, 2) := rd_chunk (k := 0) (i := 41) kmX7_leastJoined_0_e0 (by decide +kernel)
theorem dX7_leastJoined_43 : decode cX7_leastJoined 43 = .ok (.ifCond .le 105, 3) := rd_chunk (k := 0) (i := 43) kmX7_leastJoined_0_e0 (by decide +kernel)
theorem dX7_leastJoined_46 : decode cX7_leastJoined 46 = .ok (.aload_n 0, 1) := rd_chunk (k := 0) (i := 46) kmX7_leastJoined_0_e0 (by decide +kernel)
theorem dX7_leastJoined_47 : decode cX7_leastJoined 47 = .ok (.getfield 11, 3) := rd_chunk (k := 0) (i := 47) kmX7_leastJoined_0_e0 (by decide +kernel)
theorem dX7_leastJoined_50 : decode cX7_leastJoined 50 = .ok (.aload_n 0, 1) := rd_chunk (k := 0) (i := 50) kmX7_leastJoined_0_e0 (by decide +kernel)
theorem dX7_leastJoined_51 : decode cX7_leastJoined 51 = .ok (.getfield 15, 3) := rd_chunk (k := 0) (i := 51) kmX7_leastJoined_0_e0 (by decide +kernel)
theorem dX7_leastJoined_54 : decode cX7_leastJoined 54 = .ok (.iload_n 1, 1) := rd_chunk (k := 0) (i := 54) kmX7_leastJoined_0_e0 (by decide +kernel)
theorem dX7_leastJoined_55 : decode cX7_leastJoined 55 = .ok (.iaload, 1) := rd_chunk (k := 0) (i := 55) kmX7_leastJoined_0_e0 (by decide +kernel)
theorem dX7_leastJoined_56 : decode cX7_leastJoined 56 = .ok (.iload 11, 2) := rd_chunk (k := 0) (i := 56) kmX7_leastJoined_0_e0 (by decide +kernel)
theorem dX7_leastJoined_58 : decode cX7_leastJoined 58 = .ok (.iadd, 1) := rd_chunk (k := 0) (i := 58) kmX7_leastJoined_0_e0 (by decide +kernel)
theorem dX7_leastJoined_59 : decode cX7_leastJoined 59 = .ok (.laload, 1) := rd_chunk (k := 0) (i := 59) kmX7_leastJoined_0_e0 (by decide +kernel)
theorem dX7_leastJoined_60 : decode cX7_leastJoined 60 = .ok (.lstore 12, 2) := rd_chunk (k := 0) (i := 60) kmX7_leastJoined_0_e0 (by decide +kernel)
theorem dX7_leastJoined_62 : decode cX7_leastJoined 62 = .ok (.lload 12, 2) := rd_chunk (k := 0) (i := 62) kmX7_leastJoined_0_e0 (by decide +kernel)
abbrev mX7_leastJoined_64_e0 : ByteArray := .mk #[0x16, 0x09, 0x61, 0x16, 0x07, 0x94, 0x9b, 0x00, 0x06, 0x16, 0x07, 0xad, 0x15, 0x04, 0x16, 0x0c, 0xb8, 0x00, 0x4b, 0x64, 0x36, 0x0e, 0x15, 0x06, 0x9e, 0x00, 0x1a, 0x2c, 0x1d, 0x15, 0x06, 0x04, 0x64, 0xb6, 0x00, 0x45, 0xb8, 0x00, 0x4b, 0x15, 0x0e, 0xa3, 0x00, 0x09, 0x84, 0x06, 0xff, 0xa7, 0xff, 0xe7, 0x15, 0x06, 0x15, 0x05, 0xa2, 0x00, 0x18, 0x16, 0x07, 0x16, 0x0c, 0x2c, 0x1d, 0x15, 0x06, 0xb6, 0x00, 0x45, 0x61, 0x14, 0x00, 0x49]
theorem kmX7_leastJoined_64_e0 : CK cX7_leastJoined 64 mX7_leastJoined_64_e0 := ck_of (by decide +kernel)
theorem dX7_leastJoined_64 : decode cX7_leastJoined 64 = .ok (.lload 9, 2) := rd_chunk (k := 64) (i := 0) kmX7_leastJoined_64_e0 (by decide +kernel)
theorem dX7_leastJoined_66 : decode cX7_leastJoined 66 = .ok (.ladd, 1) := rd_chunk (k := 64) (i := 2) kmX7_leastJoined_64_e0 (by decide +kernel)
theorem dX7_leastJoined_67 : decode cX7_leastJoined 67 = .ok (.lload 7, 2) := rd_chunk (k := 64) (i := 3) kmX7_leastJoined_64_e0 (by decide +kernel)
theorem dX7_leastJoined_69 : decode cX7_leastJoined 69 = .ok (.lcmp, 1) := rd_chunk (k := 64) (i := 5) kmX7_leastJoined_64_e0 (by decide +kernel)
theorem dX7_leastJoined_70 : decode cX7_leastJoined 70 = .ok (.ifCond .lt 6, 3) := rd_chunk (k := 64) (i := 6) kmX7_leastJoined_64_e0 (by decide +kernel)
theorem dX7_leastJoined_73 : decode cX7_leastJoined 73 = .ok (.lload 7, 2) := rd_chunk (k := 64) (i := 9) kmX7_leastJoined_64_e0 (by decide +kernel)
theorem dX7_leastJoined_75 : decode cX7_leastJoined 75 = .ok (.lreturn, 1) := rd_chunk (k := 64) (i := 11) kmX7_leastJoined_64_e0 (by decide +kernel)
theorem dX7_leastJoined_76 : decode cX7_leastJoined 76 = .ok (.iload 4, 2) := rd_chunk (k := 64) (i := 12) kmX7_leastJoined_64_e0 (by decide +kernel)
theorem dX7_leastJoined_78 : decode cX7_leastJoined 78 = .ok (.lload 12, 2) := rd_chunk (k := 64) (i := 14) kmX7_leastJoined_64_e0 (by decide +kernel)
theorem dX7_leastJoined_80 : decode cX7_leastJoined 80 = .ok (.invokestatic 75, 3) := rd_chunk (k := 64) (i := 16) kmX7_leastJoined_64_e0 (by decide +kernel)
theorem dX7_leastJoined_83 : decode cX7_leastJoined 83 = .ok (.isub, 1) := rd_chunk (k := 64) (i := 19) kmX7_leastJoined_64_e0 (by decide +kernel)
theorem dX7_leastJoined_84 : decode cX7_leastJoined 84 = .ok (.istore 14, 2) := rd_chunk (k := 64) (i := 20) kmX7_leastJoined_64_e0 (by decide +kernel)
theorem dX7_leastJoined_86 : decode cX7_leastJoined 86 = .ok (.iload 6, 2) := rd_chunk (k := 64) (i := 22) kmX7_leastJoined_64_e0 (by decide +kernel)
theorem dX7_leastJoined_88 : decode cX7_leastJoined 88 = .ok (.ifCond .le 26, 3) := rd_chunk (k := 64) (i := 24) kmX7_leastJoined_64_e0 (by decide +kernel)
theorem dX7_leastJoined_91 : decode cX7_leastJoined 91 = .ok (.aload_n 2, 1) := rd_chunk (k := 64) (i := 27) kmX7_leastJoined_64_e0 (by decide +kernel)
theorem dX7_leastJoined_92 : decode cX7_leastJoined 92 = .ok (.iload_n 3, 1) := rd_chunk (k := 64) (i := 28) kmX7_leastJoined_64_e0 (by decide +kernel)
theorem dX7_leastJoined_93 : decode cX7_leastJoined 93 = .ok (.iload 6, 2) := rd_chunk (k := 64) (i := 29) kmX7_leastJoined_64_e0 (by decide +kernel)
theorem dX7_leastJoined_95 : decode cX7_leastJoined 95 = .ok (.iconst 1, 1) := rd_chunk (k := 64) (i := 31) kmX7_leastJoined_64_e0 (by decide +kernel)
theorem dX7_leastJoined_96 : decode cX7_leastJoined 96 = .ok (.isub, 1) := rd_chunk (k := 64) (i := 32) kmX7_leastJoined_64_e0 (by decide +kernel)
theorem dX7_leastJoined_97 : decode cX7_leastJoined 97 = .ok (.invokevirtual 69, 3) := rd_chunk (k := 64) (i := 33) kmX7_leastJoined_64_e0 (by decide +kernel)
theorem dX7_leastJoined_100 : decode cX7_leastJoined 100 = .ok (.invokestatic 75, 3) := rd_chunk (k := 64) (i := 36) kmX7_leastJoined_64_e0 (by decide +kernel)
theorem dX7_leastJoined_103 : decode cX7_leastJoined 103 = .ok (.iload 14, 2) := rd_chunk (k := 64) (i := 39) kmX7_leastJoined_64_e0 (by decide +kernel)
theorem dX7_leastJoined_105 : decode cX7_leastJoined 105 = .ok (.if_icmp .gt 9, 3) := rd_chunk (k := 64) (i := 41) kmX7_leastJoined_64_e0 (by decide +kernel)
theorem dX7_leastJoined_108 : decode cX7_leastJoined 108 = .ok (.iinc 6 (-1), 3) := rd_chunk (k := 64) (i := 44) kmX7_leastJoined_64_e0 (by decide +kernel)
theorem dX7_leastJoined_111 : decode cX7_leastJoined 111 = .ok (.goto (-25), 3) := rd_chunk (k := 64) (i := 47) kmX7_leastJoined_64_e0 (by decide +kernel)
theorem dX7_leastJoined_114 : decode cX7_leastJoined 114 = .ok (.iload 6, 2) := rd_chunk (k := 64) (i := 50) kmX7_leastJoined_64_e0 (by decide +kernel)
theorem dX7_leastJoined_116 : decode cX7_leastJoined 116 = .ok (.iload 5, 2) := rd_chunk (k := 64) (i := 52) kmX7_leastJoined_64_e0 (by decide +kernel)
theorem dX7_leastJoined_118 : decode cX7_leastJoined 118 = .ok (.if_icmp .ge 24, 3) := rd_chunk (k := 64) (i := 54) kmX7_leastJoined_64_e0 (by decide +kernel)
theorem dX7_leastJoined_121 : decode cX7_leastJoined 121 = .ok (.lload 7, 2) := rd_chunk (k := 64) (i := 57) kmX7_leastJoined_64_e0 (by decide +kernel)
theorem dX7_leastJoined_123 : decode cX7_leastJoined 123 = .ok (.lload 12, 2) := rd_chunk (k := 64) (i := 59) kmX7_leastJoined_64_e0 (by decide +kernel)
theorem dX7_leastJoined_125 : decode cX7_leastJoined 125 = .ok (.aload_n 2, 1) := rd_chunk (k := 64) (i := 61) kmX7_leastJoined_64_e0 (by decide +kernel)
theorem dX7_leastJoined_126 : decode cX7_leastJoined 126 = .ok (.iload_n 3, 1) := rd_chunk (k := 64) (i := 62) kmX7_leastJoined_64_e0 (by decide +kernel)
theorem dX7_leastJoined_127 : decode cX7_leastJoined 127 = .ok (.iload 6, 2) := rd_chunk (k := 64) (i := 63) kmX7_leastJoined_64_e0 (by decide +kernel)
abbrev mX7_leastJoined_128_e0 : ByteArray := .mk #[0x06, 0xb6, 0x00, 0x45, 0x61, 0x14, 0x00, 0x49, 0x65, 0xb8, 0x00, 0x4f, 0x37, 0x07, 0x84, 0x0b, 0x01, 0xa7, 0xff, 0x8e, 0x16, 0x07, 0xad]
theorem kmX7_leastJoined_128_e0 : CK cX7_leastJoined 128 mX7_leastJoined_128_e0 := ck_of (by decide +kernel)
theorem dX7_leastJoined_129 : decode cX7_leastJoined 129 = .ok (.invokevirtual 69, 3) := rd_chunk (k := 128) (i := 1) kmX7_leastJoined_128_e0 (by decide +kernel)
theorem dX7_leastJoined_132 : decode cX7_leastJoined 132 = .ok (.ladd, 1) := rd_chunk (k := 128) (i := 4) kmX7_leastJoined_128_e0 (by decide +kernel)
theorem dX7_leastJoined_133 : decode cX7_leastJoined 133 = .ok (.ldc2_w 73, 3) := rd_chunk (k := 128) (i := 5) kmX7_leastJoined_128_e0 (by decide +kernel)
theorem dX7_leastJoined_136 : decode cX7_leastJoined 136 = .ok (.lsub, 1) := rd_chunk (k := 128) (i := 8) kmX7_leastJoined_128_e0 (by decide +kernel)
theorem dX7_leastJoined_137 : decode cX7_leastJoined 137 = .ok (.invokestatic 79, 3) := rd_chunk (k := 128) (i := 9) kmX7_leastJoined_128_e0 (by decide +kernel)
theorem dX7_leastJoined_140 : decode cX7_leastJoined 140 = .ok (.lstore 7, 2) := rd_chunk (k := 128) (i := 12) kmX7_leastJoined_128_e0 (by decide +kernel)
theorem dX7_leastJoined_142 : decode cX7_leastJoined 142 = .ok (.iinc 11 1, 3) := rd_chunk (k := 128) (i := 14) kmX7_leastJoined_128_e0 (by decide +kernel)
theorem dX7_leastJoined_145 : decode cX7_leastJoined 145 = .ok (.goto (-114), 3) := rd_chunk (k := 128) (i := 17) kmX7_leastJoined_128_e0 (by decide +kernel)
theorem dX7_leastJoined_148 : decode cX7_leastJoined 148 = .ok (.lload 7, 2) := rd_chunk (k := 128) (i := 20) kmX7_leastJoined_128_e0 (by decide +kernel)
theorem dX7_leastJoined_150 : decode cX7_leastJoined 150 = .ok (.lreturn, 1) := rd_chunk (k := 128) (i := 22) kmX7_leastJoined_128_e0 (by decide +kernel)
theorem dX7_keepCheapest_0 : decode cX7_keepCheapest 0 = .ok (.iload_n 2, 1) := by decide +kernel
theorem dX7_keepCheapest_1 : decode cX7_keepCheapest 1 = .ok (.istore 4, 2) := by decide +kernel
theorem dX7_keepCheapest_3 : decode cX7_keepCheapest 3 = .ok (.aload_n 0, 1) := by decide +kernel
theorem dX7_keepCheapest_4 : decode cX7_keepCheapest 4 = .ok (.getfield 41, 3) := by decide +kernel
theorem dX7_keepCheapest_7 : decode cX7_keepCheapest 7 = .ok (.istore 5, 2) := by decide +kernel
theorem dX7_keepCheapest_9 : decode cX7_keepCheapest 9 = .ok (.iload 5, 2) := by decide +kernel
theorem dX7_keepCheapest_11 : decode cX7_keepCheapest 11 = .ok (.ifCond .le 56, 3) := by decide +kernel
theorem dX7_keepCheapest_14 : decode cX7_keepCheapest 14 = .ok (.iload 4, 2) := by decide +kernel
theorem dX7_keepCheapest_16 : decode cX7_keepCheapest 16 = .ok (.ifCond .lt 51, 3) := by decide +kernel
theorem dX7_keepCheapest_19 : decode cX7_keepCheapest 19 = .ok (.aload_n 0, 1) := by decide +kernel
theorem dX7_keepCheapest_20 : decode cX7_keepCheapest 20 = .ok (.invokevirtual 85, 3) := by decide +kernel
theorem dX7_keepCheapest_23 : decode cX7_keepCheapest 23 = .ok (.lstore 6, 2) := by decide +kernel
theorem dX7_keepCheapest_25 : decode cX7_keepCheapest 25 = .ok (.lload 6, 2) := by decide +kernel
theorem dX7_keepCheapest_27 : decode cX7_keepCheapest 27 = .ok (.invokestatic 89, 3) := by decide +kernel
theorem dX7_keepCheapest_30 : decode cX7_keepCheapest 30 = .ok (.iload_n 3, 1) := by decide +kernel
theorem dX7_keepCheapest_31 : decode cX7_keepCheapest 31 = .ok (.if_icmp .le 4, 3) := by decide +kernel
theorem dX7_keepCheapest_34 : decode cX7_keepCheapest 34 = .ok (.return_, 1) := by decide +kernel
theorem dX7_keepCheapest_35 : decode cX7_keepCheapest 35 = .ok (.lload 6, 2) := by decide +kernel
theorem dX7_keepCheapest_37 : decode cX7_keepCheapest 37 = .ok (.invokestatic 75, 3) := by decide +kernel
theorem dX7_keepCheapest_40 : decode cX7_keepCheapest 40 = .ok (.iload 4, 2) := by decide +kernel
theorem dX7_keepCheapest_42 : decode cX7_keepCheapest 42 = .ok (.if_icmp .gt 19, 3) := by decide +kernel
theorem dX7_keepCheapest_45 : decode cX7_keepCheapest 45 = .ok (.aload_n 0, 1) := by decide +kernel
theorem dX7_keepCheapest_46 : decode cX7_keepCheapest 46 = .ok (.iload_n 1, 1) := by decide +kernel
theorem dX7_keepCheapest_47 : decode cX7_keepCheapest 47 = .ok (.lload 6, 2) := by decide +kernel
theorem dX7_keepCheapest_49 : decode cX7_keepCheapest 49 = .ok (.invokevirtual 54, 3) := by decide +kernel
theorem dX7_keepCheapest_52 : decode cX7_keepCheapest 52 = .ok (.lload 6, 2) := by decide +kernel
theorem dX7_keepCheapest_54 : decode cX7_keepCheapest 54 = .ok (.invokestatic 75, 3) := by decide +kernel
theorem dX7_keepCheapest_57 : decode cX7_keepCheapest 57 = .ok (.iconst 1, 1) := by decide +kernel
theorem dX7_keepCheapest_58 : decode cX7_keepCheapest 58 = .ok (.isub, 1) := by decide +kernel
theorem dX7_keepCheapest_59 : decode cX7_keepCheapest 59 = .ok (.istore 4, 2) := by decide +kernel
theorem dX7_keepCheapest_61 : decode cX7_keepCheapest 61 = .ok (.iinc 5 (-1), 3) := by decide +kernel
theorem dX7_keepCheapest_64 : decode cX7_keepCheapest 64 = .ok (.goto (-55), 3) := by decide +kernel
theorem dX7_keepCheapest_67 : decode cX7_keepCheapest 67 = .ok (.return_, 1) := by decide +kernel
theorem dX7_keepEachCost_0 : decode cX7_keepEachCost 0 = .ok (.iconst (-1), 1) := by decide +kernel
theorem dX7_keepEachCost_1 : decode cX7_keepEachCost 1 = .ok (.istore 4, 2) := by decide +kernel
theorem dX7_keepEachCost_3 : decode cX7_keepEachCost 3 = .ok (.aload_n 0, 1) := by decide +kernel
theorem dX7_keepEachCost_4 : decode cX7_keepEachCost 4 = .ok (.getfield 41, 3) := by decide +kernel
theorem dX7_keepEachCost_7 : decode cX7_keepEachCost 7 = .ok (.istore 5, 2) := by decide +kernel
theorem dX7_keepEachCost_9 : decode cX7_keepEachCost 9 = .ok (.iload 5, 2) := by decide +kernel
theorem dX7_keepEachCost_11 : decode cX7_keepEachCost 11 = .ok (.ifCond .le 62, 3) := by decide +kernel
theorem dX7_keepEachCost_14 : decode cX7_keepEachCost 14 = .ok (.iload_n 2, 1) := by decide +kernel
theorem dX7_keepEachCost_15 : decode cX7_keepEachCost 15 = .ok (.ifCond .lt 58, 3) := by decide +kernel
theorem dX7_keepEachCost_18 : decode cX7_keepEachCost 18 = .ok (.aload_n 0, 1) := by decide +kernel
theorem dX7_keepEachCost_19 : decode cX7_keepEachCost 19 = .ok (.invokevirtual 85, 3) := by decide +kernel
theorem dX7_keepEachCost_22 : decode cX7_keepEachCost 22 = .ok (.lstore 6, 2) := by decide +kernel
theorem dX7_keepEachCost_24 : decode cX7_keepEachCost 24 = .ok (.lload 6, 2) := by decide +kernel
theorem dX7_keepEachCost_26 : decode cX7_keepEachCost 26 = .ok (.invokestatic 89, 3) := by decide +kernel
theorem dX7_keepEachCost_29 : decode cX7_keepEachCost 29 = .ok (.iload_n 3, 1) := by decide +kernel
theorem dX7_keepEachCost_30 : decode cX7_keepEachCost 30 = .ok (.if_icmp .le 4, 3) := by decide +kernel
theorem dX7_keepEachCost_33 : decode cX7_keepEachCost 33 = .ok (.return_, 1) := by decide +kernel
theorem dX7_keepEachCost_34 : decode cX7_keepEachCost 34 = .ok (.lload 6, 2) := by decide +kernel
theorem dX7_keepEachCost_36 : decode cX7_keepEachCost 36 = .ok (.invokestatic 75, 3) := by decide +kernel
theorem dX7_keepEachCost_39 : decode cX7_keepEachCost 39 = .ok (.iload_n 2, 1) := by decide +kernel
theorem dX7_keepEachCost_40 : decode cX7_keepEachCost 40 = .ok (.if_icmp .gt 27, 3) := by decide +kernel
theorem dX7_keepEachCost_43 : decode cX7_keepEachCost 43 = .ok (.lload 6, 2) := by decide +kernel
theorem dX7_keepEachCost_45 : decode cX7_keepEachCost 45 = .ok (.invokestatic 89, 3) := by decide +kernel
theorem dX7_keepEachCost_48 : decode cX7_keepEachCost 48 = .ok (.iload 4, 2) := by decide +kernel
theorem dX7_keepEachCost_50 : decode cX7_keepEachCost 50 = .ok (.if_icmp .eq 17, 3) := by decide +kernel
theorem dX7_keepEachCost_53 : decode cX7_keepEachCost 53 = .ok (.aload_n 0, 1) := by decide +kernel
theorem dX7_keepEachCost_54 : decode cX7_keepEachCost 54 = .ok (.iload_n 1, 1) := by decide +kernel
theorem dX7_keepEachCost_55 : decode cX7_keepEachCost 55 = .ok (.lload 6, 2) := by decide +kernel
theorem dX7_keepEachCost_57 : decode cX7_keepEachCost 57 = .ok (.invokevirtual 54, 3) := by decide +kernel
theorem dX7_keepEachCost_60 : decode cX7_keepEachCost 60 = .ok (.lload 6, 2) := by decide +kernel
theorem dX7_keepEachCost_62 : decode cX7_keepEachCost 62 = .ok (.invokestatic 89, 3) := by decide +kernel
theorem dX7_keepEachCost_65 : decode cX7_keepEachCost 65 = .ok (.istore 4, 2) := by decide +kernel
theorem dX7_keepEachCost_67 : decode cX7_keepEachCost 67 = .ok (.iinc 5 (-1), 3) := by decide +kernel
theorem dX7_keepEachCost_70 : decode cX7_keepEachCost 70 = .ok (.goto (-61), 3) := by decide +kernel
theorem dX7_keepEachCost_73 : decode cX7_keepEachCost 73 = .ok (.return_, 1) := by decide +kernel
theorem dX7_pushSummed_0 : decode cX7_pushSummed 0 = .ok (.aload_n 0, 1) := by decide +kernel
theorem dX7_pushSummed_1 : decode cX7_pushSummed 1 = .ok (.iload_n 1, 1) := by decide +kernel
theorem dX7_pushSummed_2 : decode cX7_pushSummed 2 = .ok (.invokevirtual 58, 3) := by decide +kernel
theorem dX7_pushSummed_5 : decode cX7_pushSummed 5 = .ok (.istore 4, 2) := by decide +kernel
theorem dX7_pushSummed_7 : decode cX7_pushSummed 7 = .ok (.iload 4, 2) := by decide +kernel
theorem dX7_pushSummed_9 : decode cX7_pushSummed 9 = .ok (.ifCond .le 49, 3) := by decide +kernel
theorem dX7_pushSummed_12 : decode cX7_pushSummed 12 = .ok (.aload_n 0, 1) := by decide +kernel
theorem dX7_pushSummed_13 : decode cX7_pushSummed 13 = .ok (.getfield 11, 3) := by decide +kernel
theorem dX7_pushSummed_16 : decode cX7_pushSummed 16 = .ok (.aload_n 0, 1) := by decide +kernel
theorem dX7_pushSummed_17 : decode cX7_pushSummed 17 = .ok (.getfield 22, 3) := by decide +kernel
theorem dX7_pushSummed_20 : decode cX7_pushSummed 20 = .ok (.iconst 1, 1) := by decide +kernel
theorem dX7_pushSummed_21 : decode cX7_pushSummed 21 = .ok (.isub, 1) := by decide +kernel
theorem dX7_pushSummed_22 : decode cX7_pushSummed 22 = .ok (.laload, 1) := by decide +kernel
theorem dX7_pushSummed_23 : decode cX7_pushSummed 23 = .ok (.ldc2_w 92, 3) := by decide +kernel
theorem dX7_pushSummed_26 : decode cX7_pushSummed 26 = .ok (.land, 1) := by decide +kernel
theorem dX7_pushSummed_27 : decode cX7_pushSummed 27 = .ok (.lload_n 2, 1) := by decide +kernel
theorem dX7_pushSummed_28 : decode cX7_pushSummed 28 = .ok (.ldc2_w 92, 3) := by decide +kernel
theorem dX7_pushSummed_31 : decode cX7_pushSummed 31 = .ok (.land, 1) := by decide +kernel
theorem dX7_pushSummed_32 : decode cX7_pushSummed 32 = .ok (.lcmp, 1) := by decide +kernel
theorem dX7_pushSummed_33 : decode cX7_pushSummed 33 = .ok (.ifCond .ne 25, 3) := by decide +kernel
theorem dX7_pushSummed_36 : decode cX7_pushSummed 36 = .ok (.aload_n 0, 1) := by decide +kernel
theorem dX7_pushSummed_37 : decode cX7_pushSummed 37 = .ok (.getfield 11, 3) := by decide +kernel
theorem dX7_pushSummed_40 : decode cX7_pushSummed 40 = .ok (.aload_n 0, 1) := by decide +kernel
theorem dX7_pushSummed_41 : decode cX7_pushSummed 41 = .ok (.getfield 22, 3) := by decide +kernel
theorem dX7_pushSummed_44 : decode cX7_pushSummed 44 = .ok (.iconst 1, 1) := by decide +kernel
theorem dX7_pushSummed_45 : decode cX7_pushSummed 45 = .ok (.isub, 1) := by decide +kernel
theorem dX7_pushSummed_46 : decode cX7_pushSummed 46 = .ok (.dup2, 1) := by decide +kernel
theorem dX7_pushSummed_47 : decode cX7_pushSummed 47 = .ok (.laload, 1) := by decide +kernel
theorem dX7_pushSummed_48 : decode cX7_pushSummed 48 = .ok (.lload_n 2, 1) := by decide +kernel
theorem dX7_pushSummed_49 : decode cX7_pushSummed 49 = .ok (.ldc2_w 94, 3) := by decide +kernel
theorem dX7_pushSummed_52 : decode cX7_pushSummed 52 = .ok (.land, 1) := by decide +kernel
theorem dX7_pushSummed_53 : decode cX7_pushSummed 53 = .ok (.ladd, 1) := by decide +kernel
theorem dX7_pushSummed_54 : decode cX7_pushSummed 54 = .ok (.lastore, 1) := by decide +kernel
theorem dX7_pushSummed_55 : decode cX7_pushSummed 55 = .ok (.goto 9, 3) := by decide +kernel
theorem dX7_pushSummed_58 : decode cX7_pushSummed 58 = .ok (.aload_n 0, 1) := by decide +kernel
theorem dX7_pushSummed_59 : decode cX7_pushSummed 59 = .ok (.iload_n 1, 1) := by decide +kernel
theorem dX7_pushSummed_60 : decode cX7_pushSummed 60 = .ok (.lload_n 2, 1) := by decide +kernel
theorem dX7_pushSummed_61 : decode cX7_pushSummed 61 = .ok (.invokevirtual 54, 3) := by decide +kernel
theorem dX7_pushSummed_64 : decode cX7_pushSummed 64 = .ok (.return_, 1) := by decide +kernel
theorem dX8_init_0 : decode cX8_init 0 = .ok (.aload_n 0, 1) := by decide +kernel
theorem dX8_init_1 : decode cX8_init 1 = .ok (.invokespecial 3, 3) := by decide +kernel
theorem dX8_init_4 : decode cX8_init 4 = .ok (.aload_n 0, 1) := by decide +kernel
theorem dX8_init_5 : decode cX8_init 5 = .ok (.bipush 24, 2) := by decide +kernel
theorem dX8_init_7 : decode cX8_init 7 = .ok (.newarray .int, 2) := by decide +kernel
theorem dX8_init_9 : decode cX8_init 9 = .ok (.putfield 9, 3) := by decide +kernel
theorem dX8_init_12 : decode cX8_init 12 = .ok (.aload_n 0, 1) := by decide +kernel
theorem dX8_init_13 : decode cX8_init 13 = .ok (.bipush 24, 2) := by decide +kernel
theorem dX8_init_15 : decode cX8_init 15 = .ok (.newarray .int, 2) := by decide +kernel
theorem dX8_init_17 : decode cX8_init 17 = .ok (.putfield 15, 3) := by decide +kernel
theorem dX8_init_20 : decode cX8_init 20 = .ok (.aload_n 0, 1) := by decide +kernel
theorem dX8_init_21 : decode cX8_init 21 = .ok (.bipush 24, 2) := by decide +kernel
theorem dX8_init_23 : decode cX8_init 23 = .ok (.newarray .int, 2) := by decide +kernel
theorem dX8_init_25 : decode cX8_init 25 = .ok (.putfield 18, 3) := by decide +kernel
theorem dX8_init_28 : decode cX8_init 28 = .ok (.aload_n 0, 1) := by decide +kernel
theorem dX8_init_29 : decode cX8_init 29 = .ok (.bipush 24, 2) := by decide +kernel
theorem dX8_init_31 : decode cX8_init 31 = .ok (.newarray .int, 2) := by decide +kernel
theorem dX8_init_33 : decode cX8_init 33 = .ok (.putfield 21, 3) := by decide +kernel
theorem dX8_init_36 : decode cX8_init 36 = .ok (.aload_n 0, 1) := by decide +kernel
theorem dX8_init_37 : decode cX8_init 37 = .ok (.new 24, 3) := by decide +kernel
theorem dX8_init_40 : decode cX8_init 40 = .ok (.dup, 1) := by decide +kernel
theorem dX8_init_41 : decode cX8_init 41 = .ok (.invokespecial 26, 3) := by decide +kernel
theorem dX8_init_44 : decode cX8_init 44 = .ok (.putfield 27, 3) := by decide +kernel
theorem dX8_init_47 : decode cX8_init 47 = .ok (.aload_n 0, 1) := by decide +kernel
theorem dX8_init_48 : decode cX8_init 48 = .ok (.bipush 8, 2) := by decide +kernel
theorem dX8_init_50 : decode cX8_init 50 = .ok (.newarray .int, 2) := by decide +kernel
theorem dX8_init_52 : decode cX8_init 52 = .ok (.putfield 31, 3) := by decide +kernel
theorem dX8_init_55 : decode cX8_init 55 = .ok (.aload_n 0, 1) := by decide +kernel
theorem dX8_init_56 : decode cX8_init 56 = .ok (.new 34, 3) := by decide +kernel
theorem dX8_init_59 : decode cX8_init 59 = .ok (.dup, 1) := by decide +kernel
theorem dX8_init_60 : decode cX8_init 60 = .ok (.invokespecial 36, 3) := by decide +kernel
theorem dX8_init_63 : decode cX8_init 63 = .ok (.putfield 37, 3) := by decide +kernel
theorem dX8_init_66 : decode cX8_init 66 = .ok (.aload_n 0, 1) := by decide +kernel
theorem dX8_init_67 : decode cX8_init 67 = .ok (.new 34, 3) := by decide +kernel
theorem dX8_init_70 : decode cX8_init 70 = .ok (.dup, 1) := by decide +kernel
theorem dX8_init_71 : decode cX8_init 71 = .ok (.invokespecial 36, 3) := by decide +kernel
theorem dX8_init_74 : decode cX8_init 74 = .ok (.putfield 41, 3) := by decide +kernel
theorem dX8_init_77 : decode cX8_init 77 = .ok (.aload_n 0, 1) := by decide +kernel
theorem dX8_init_78 : decode cX8_init 78 = .ok (.bipush 7, 2) := by decide +kernel
theorem dX8_init_80 : decode cX8_init 80 = .ok (.newarray .int, 2) := by decide +kernel
theorem dX8_init_82 : decode cX8_init 82 = .ok (.putfield 44, 3) := by decide +kernel
theorem dX8_init_85 : decode cX8_init 85 = .ok (.aload_n 0, 1) := by decide +kernel
theorem dX8_init_86 : decode cX8_init 86 = .ok (.iconst 0, 1) := by decide +kernel
theorem dX8_init_87 : decode cX8_init 87 = .ok (.putfield 47, 3) := by decide +kernel
theorem dX8_init_90 : decode cX8_init 90 = .ok (.return_, 1) := by decide +kernel
theorem dX8_build_0 : decode cX8_build 0 = .ok (.aload_n 0, 1) := by decide +kernel
theorem dX8_build_1 : decode cX8_build 1 = .ok (.aload_n 1, 1) := by decide +kernel
theorem dX8_build_2 : decode cX8_build 2 = .ok (.getfield 51, 3) := by decide +kernel
theorem dX8_build_5 : decode cX8_build 5 = .ok (.putfield 47, 3) := by decide +kernel
theorem dX8_build_8 : decode cX8_build 8 = .ok (.aload_n 1, 1) := by decide +kernel
theorem dX8_build_9 : decode cX8_build 9 = .ok (.getfield 54, 3) := by decide +kernel
theorem dX8_build_12 : decode cX8_build 12 = .ok (.iconst 0, 1) := by decide +kernel
theorem dX8_build_13 : decode cX8_build 13 = .ok (.aload_n 0, 1) := by decide +kernel
theorem dX8_build_14 : decode cX8_build 14 = .ok (.getfield 9, 3) := by decide +kernel
theorem dX8_build_17 : decode cX8_build 17 = .ok (.iconst 0, 1) := by decide +kernel
theorem dX8_build_18 : decode cX8_build 18 = .ok (.bipush 24, 2) := by decide +kernel
theorem dX8_build_20 : decode cX8_build 20 = .ok (.invokestatic 55, 3) := by decide +kernel
theorem dX8_build_23 : decode cX8_build 23 = .ok (.aload_n 1, 1) := by decide +kernel
theorem dX8_build_24 : decode cX8_build 24 = .ok (.getfield 61, 3) := by decide +kernel
theorem dX8_build_27 : decode cX8_build 27 = .ok (.iconst 0, 1) := by decide +kernel
theorem dX8_build_28 : decode cX8_build 28 = .ok (.aload_n 0, 1) := by decide +kernel
theorem dX8_build_29 : decode cX8_build 29 = .ok (.getfield 15, 3) := by decide +kernel
theorem dX8_build_32 : decode cX8_build 32 = .ok (.iconst 0, 1) := by decide +kernel
theorem dX8_build_33 : decode cX8_build 33 = .ok (.bipush 24, 2) := by decide +kernel
theorem dX8_build_35 : decode cX8_build 35 = .ok (.invokestatic 55, 3) := by decide +kernel
theorem dX8_build_38 : decode cX8_build 38 = .ok (.aload_n 1, 1) := by decide +kernel
theorem dX8_build_39 : decode cX8_build 39 = .ok (.getfield 62, 3) := by decide +kernel
theorem dX8_build_42 : decode cX8_build 42 = .ok (.iconst 0, 1) := by decide +kernel
theorem dX8_build_43 : decode cX8_build 43 = .ok (.aload_n 0, 1) := by decide +kernel
theorem dX8_build_44 : decode cX8_build 44 = .ok (.getfield 18, 3) := by decide +kernel
theorem dX8_build_47 : decode cX8_build 47 = .ok (.iconst 0, 1) := by decide +kernel
theorem dX8_build_48 : decode cX8_build 48 = .ok (.bipush 24, 2) := by decide +kernel
theorem dX8_build_50 : decode cX8_build 50 = .ok (.invokestatic 55, 3) := by decide +kernel
theorem dX8_build_53 : decode cX8_build 53 = .ok (.aload_n 1, 1) := by decide +kernel
theorem dX8_build_54 : decode cX8_build 54 = .ok (.getfield 63, 3) := by decide +kernel
theorem dX8_build_57 : decode cX8_build 57 = .ok (.iconst 0, 1) := by decide +kernel
theorem dX8_build_58 : decode cX8_build 58 = .ok (.aload_n 0, 1) := by decide +kernel
theorem dX8_build_59 : decode cX8_build 59 = .ok (.getfield 21, 3) := by decide +kernel
theorem dX8_build_62 : decode cX8_build 62 = .ok (.iconst 0, 1) := by decide +kernel
theorem dX8_build_63 : decode cX8_build 63 = .ok (.bipush 24, 2) := by decide +kernel
theorem dX8_build_65 : decode cX8_build 65 = .ok (.invokestatic 55, 3) := by decide +kernel
theorem dX8_build_68 : decode cX8_build 68 = .ok (.aload_n 0, 1) := by decide +kernel
theorem dX8_build_69 : decode cX8_build 69 = .ok (.getfield 27, 3) := by decide +kernel
theorem dX8_build_72 : decode cX8_build 72 = .ok (.aload_n 1, 1) := by decide +kernel
theorem dX8_build_73 : decode cX8_build 73 = .ok (.getfield 64, 3) := by decide +kernel
theorem dX8_build_76 : decode cX8_build 76 = .ok (.aload_n 0, 1) := by decide +kernel
theorem dX8_build_77 : decode cX8_build 77 = .ok (.getfield 47, 3) := by decide +kernel
theorem dX8_build_80 : decode cX8_build 80 = .ok (.invokevirtual 67, 3) := by decide +kernel
theorem dX8_build_83 : decode cX8_build 83 = .ok (.return_, 1) := by decide +kernel
theorem dX8_has_0 : decode cX8_has 0 = .ok (.iload_n 1, 1) := by decide +kernel
theorem dX8_has_1 : decode cX8_has 1 = .ok (.ifCond .lt 21, 3) := by decide +kernel
theorem dX8_has_4 : decode cX8_has 4 = .ok (.iload_n 1, 1) := by decide +kernel
theorem dX8_has_5 : decode cX8_has 5 = .ok (.aload_n 0, 1) := by decide +kernel
theorem dX8_has_6 : decode cX8_has 6 = .ok (.getfield 47, 3) := by decide +kernel
theorem dX8_has_9 : decode cX8_has 9 = .ok (.if_icmp .ge 13, 3) := by decide +kernel
theorem dX8_has_12 : decode cX8_has 12 = .ok (.iload_n 1, 1) := by decide +kernel
theorem dX8_has_13 : decode cX8_has 13 = .ok (.bipush 24, 2) := by decide +kernel
theorem dX8_has_15 : decode cX8_has 15 = .ok (.if_icmp .ge 7, 3) := by decide +kernel
theorem dX8_has_18 : decode cX8_has 18 = .ok (.iconst 1, 1) := by decide +kernel
theorem dX8_has_19 : decode cX8_has 19 = .ok (.goto 4, 3) := by decide +kernel
theorem dX8_has_22 : decode cX8_has 22 = .ok (.iconst 0, 1) := by decide +kernel
theorem dX8_has_23 : decode cX8_has 23 = .ok (.ireturn, 1) := by decide +kernel
theorem dX8_sumOfAsks_0 : decode cX8_sumOfAsks 0 = .ok (.iconst 0, 1) := by decide +kernel
theorem dX8_sumOfAsks_1 : decode cX8_sumOfAsks 1 = .ok (.istore_n 1, 1) := by decide +kernel
theorem dX8_sumOfAsks_2 : decode cX8_sumOfAsks 2 = .ok (.iconst 0, 1) := by decide +kernel
theorem dX8_sumOfAsks_3 : decode cX8_sumOfAsks 3 = .ok (.istore_n 2, 1) := by decide +kernel
theorem dX8_sumOfAsks_4 : decode cX8_sumOfAsks 4 = .ok (.iload_n 2, 1) := by decide +kernel
theorem dX8_sumOfAsks_5 : decode cX8_sumOfAsks 5 = .ok (.aload_n 0, 1) := by decide +kernel
theorem dX8_sumOfAsks_6 : decode cX8_sumOfAsks 6 = .ok (.getfield 47, 3) := by decide +kernel
theorem dX8_sumOfAsks_9 : decode cX8_sumOfAsks 9 = .ok (.if_icmp .ge 18, 3) := by decide +kernel
theorem dX8_sumOfAsks_12 : decode cX8_sumOfAsks 12 = .ok (.iload_n 1, 1) := by decide +kernel
theorem dX8_sumOfAsks_13 : decode cX8_sumOfAsks 13 = .ok (.aload_n 0, 1) := by decide +kernel
theorem dX8_sumOfAsks_14 : decode cX8_sumOfAsks 14 = .ok (.getfield 18, 3) := by decide +kernel
theorem dX8_sumOfAsks_17 : decode cX8_sumOfAsks 17 = .ok (.iload_n 2, 1) := by decide +kernel
theorem dX8_sumOfAsks_18 : decode cX8_sumOfAsks 18 = .ok (.iaload, 1) := by decide +kernel
theorem dX8_sumOfAsks_19 : decode cX8_sumOfAsks 19 = .ok (.iadd, 1) := by decide +kernel
theorem dX8_sumOfAsks_20 : decode cX8_sumOfAsks 20 = .ok (.istore_n 1, 1) := by decide +kernel
theorem dX8_sumOfAsks_21 : decode cX8_sumOfAsks 21 = .ok (.iinc 2 1, 3) := by decide +kernel
theorem dX8_sumOfAsks_24 : decode cX8_sumOfAsks 24 = .ok (.goto (-20), 3) := by decide +kernel
theorem dX8_sumOfAsks_27 : decode cX8_sumOfAsks 27 = .ok (.iload_n 1, 1) := by decide +kernel
theorem dX8_sumOfAsks_28 : decode cX8_sumOfAsks 28 = .ok (.ireturn, 1) := by decide +kernel
theorem dX8_quarrel_0 : decode cX8_quarrel 0 = .ok (.iload_n 1, 1) := by decide +kernel
theorem dX8_quarrel_1 : decode cX8_quarrel 1 = .ok (.invokestatic 71, 3) := by decide +kernel
theorem dX8_quarrel_4 : decode cX8_quarrel 4 = .ok (.ifCond .eq 80, 3) := by decide +kernel
theorem dX8_quarrel_7 : decode cX8_quarrel 7 = .ok (.iload_n 2, 1) := by decide +kernel
theorem dX8_quarrel_8 : decode cX8_quarrel 8 = .ok (.invokestatic 71, 3) := by decide +kernel
theorem dX8_quarrel_11 : decode cX8_quarrel 11 = .ok (.ifCond .eq 73, 3) := by decide +kernel
theorem dX8_quarrel_14 : decode cX8_quarrel 14 = .ok (.aload_n 0, 1) := by decide +kernel
theorem dX8_quarrel_15 : decode cX8_quarrel 15 = .ok (.getfield 31, 3) := by decide +kernel
theorem dX8_quarrel_18 : decode cX8_quarrel 18 = .ok (.iload_n 1, 1) := by decide +kernel
theorem dX8_quarrel_19 : decode cX8_quarrel 19 = .ok (.iload_n 3, 1) := by decide +kernel
theorem dX8_quarrel_20 : decode cX8_quarrel 20 = .ok (.ifCond .eq 16, 3) := by decide +kernel
theorem dX8_quarrel_23 : decode cX8_quarrel 23 = .ok (.aload_n 0, 1) := by decide +kernel
theorem dX8_quarrel_24 : decode cX8_quarrel 24 = .ok (.getfield 31, 3) := by decide +kernel
theorem dX8_quarrel_27 : decode cX8_quarrel 27 = .ok (.iload_n 1, 1) := by decide +kernel
theorem dX8_quarrel_28 : decode cX8_quarrel 28 = .ok (.iaload, 1) := by decide +kernel
theorem dX8_quarrel_29 : decode cX8_quarrel 29 = .ok (.iconst 1, 1) := by decide +kernel
theorem dX8_quarrel_30 : decode cX8_quarrel 30 = .ok (.iload_n 2, 1) := by decide +kernel
theorem dX8_quarrel_31 : decode cX8_quarrel 31 = .ok (.ishl, 1) := by decide +kernel
theorem dX8_quarrel_32 : decode cX8_quarrel 32 = .ok (.ior, 1) := by decide +kernel
theorem dX8_quarrel_33 : decode cX8_quarrel 33 = .ok (.goto 15, 3) := by decide +kernel
theorem dX8_quarrel_36 : decode cX8_quarrel 36 = .ok (.aload_n 0, 1) := by decide +kernel
theorem dX8_quarrel_37 : decode cX8_quarrel 37 = .ok (.getfield 31, 3) := by decide +kernel
theorem dX8_quarrel_40 : decode cX8_quarrel 40 = .ok (.iload_n 1, 1) := by decide +kernel
theorem dX8_quarrel_41 : decode cX8_quarrel 41 = .ok (.iaload, 1) := by decide +kernel
theorem dX8_quarrel_42 : decode cX8_quarrel 42 = .ok (.iconst 1, 1) := by decide +kernel
theorem dX8_quarrel_43 : decode cX8_quarrel 43 = .ok (.iload_n 2, 1) := by decide +kernel
theorem dX8_quarrel_44 : decode cX8_quarrel 44 = .ok (.ishl, 1) := by decide +kernel
theorem dX8_quarrel_45 : decode cX8_quarrel 45 = .ok (.iconst (-1), 1) := by decide +kernel
theorem dX8_quarrel_46 : decode cX8_quarrel 46 = .ok (.ixor, 1) := by decide +kernel
theorem dX8_quarrel_47 : decode cX8_quarrel 47 = .ok (.iand, 1) := by decide +kernel
theorem dX8_quarrel_48 : decode cX8_quarrel 48 = .ok (.iastore, 1) := by decide +kernel
theorem dX8_quarrel_49 : decode cX8_quarrel 49 = .ok (.aload_n 0, 1) := by decide +kernel
theorem dX8_quarrel_50 : decode cX8_quarrel 50 = .ok (.getfield 31, 3) := by decide +kernel
theorem dX8_quarrel_53 : decode cX8_quarrel 53 = .ok (.iload_n 2, 1) := by decide +kernel
theorem dX8_quarrel_54 : decode cX8_quarrel 54 = .ok (.iload_n 3, 1) := by decide +kernel
theorem dX8_quarrel_55 : decode cX8_quarrel 55 = .ok (.ifCond .eq 16, 3) := by decide +kernel
theorem dX8_quarrel_58 : decode cX8_quarrel 58 = .ok (.aload_n 0, 1) := by decide +kernel
theorem dX8_quarrel_59 : decode cX8_quarrel 59 = .ok (.getfield 31, 3) := by decide +kernel
theorem dX8_quarrel_62 : decode cX8_quarrel 62 = .ok (.iload_n 2, 1) := by decide +kernel
theorem dX8_quarrel_63 : decode cX8_quarrel 63 = .ok (.iaload, 1) := by decide +kernel
theorem dX8_quarrel_64 : decode cX8_quarrel 64 = .ok (.iconst 1, 1) := by decide +kernel
theorem dX8_quarrel_65 : decode cX8_quarrel 65 = .ok (.iload_n 1, 1) := by decide +kernel
theorem dX8_quarrel_66 : decode cX8_quarrel 66 = .ok (.ishl, 1) := by decide +kernel
theorem dX8_quarrel_67 : decode cX8_quarrel 67 = .ok (.ior, 1) := by decide +kernel
theorem dX8_quarrel_68 : decode cX8_quarrel 68 = .ok (.goto 15, 3) := by decide +kernel
theorem dX8_quarrel_71 : decode cX8_quarrel 71 = .ok (.aload_n 0, 1) := by decide +kernel
theorem dX8_quarrel_72 : decode cX8_quarrel 72 = .ok (.getfield 31, 3) := by decide +kernel
theorem dX8_quarrel_75 : decode cX8_quarrel 75 = .ok (.iload_n 2, 1) := by decide +kernel
theorem dX8_quarrel_76 : decode cX8_quarrel 76 = .ok (.iaload, 1) := by decide +kernel
theorem dX8_quarrel_77 : decode cX8_quarrel 77 = .ok (.iconst 1, 1) := by decide +kernel
theorem dX8_quarrel_78 : decode cX8_quarrel 78 = .ok (.iload_n 1, 1) := by decide +kernel
theorem dX8_quarrel_79 : decode cX8_quarrel 79 = .ok (.ishl, 1) := by decide +kernel
theorem dX8_quarrel_80 : decode cX8_quarrel 80 = .ok (.iconst (-1), 1) := by decide +kernel
theorem dX8_quarrel_81 : decode cX8_quarrel 81 = .ok (.ixor, 1) := by decide +kernel
theorem dX8_quarrel_82 : decode cX8_quarrel 82 = .ok (.iand, 1) := by decide +kernel
theorem dX8_quarrel_83 : decode cX8_quarrel 83 = .ok (.iastore, 1) := by decide +kernel
theorem dX8_quarrel_84 : decode cX8_quarrel 84 = .ok (.return_, 1) := by decide +kernel
theorem dX8_inFeud_0 : decode cX8_inFeud 0 = .ok (.iload_n 1, 1) := by decide +kernel
theorem dX8_inFeud_1 : decode cX8_inFeud 1 = .ok (.ifCond .lt 26, 3) := by decide +kernel
theorem dX8_inFeud_4 : decode cX8_inFeud 4 = .ok (.iload_n 1, 1) := by decide +kernel
theorem dX8_inFeud_5 : decode cX8_inFeud 5 = .ok (.bipush 8, 2) := by decide +kernel
theorem dX8_inFeud_7 : decode cX8_inFeud 7 = .ok (.if_icmp .ge 20, 3) := by decide +kernel
theorem dX8_inFeud_10 : decode cX8_inFeud 10 = .ok (.aload_n 0, 1) := by decide +kernel
theorem dX8_inFeud_11 : decode cX8_inFeud 11 = .ok (.getfield 31, 3) := by decide +kernel
theorem dX8_inFeud_14 : decode cX8_inFeud 14 = .ok (.iload_n 1, 1) := by decide +kernel
theorem dX8_inFeud_15 : decode cX8_inFeud 15 = .ok (.iaload, 1) := by decide +kernel
theorem dX8_inFeud_16 : decode cX8_inFeud 16 = .ok (.iload_n 2, 1) := by decide +kernel
theorem dX8_inFeud_17 : decode cX8_inFeud 17 = .ok (.ishr, 1) := by decide +kernel
theorem dX8_inFeud_18 : decode cX8_inFeud 18 = .ok (.iconst 1, 1) := by decide +kernel
theorem dX8_inFeud_19 : decode cX8_inFeud 19 = .ok (.iand, 1) := by decide +kernel
theorem dX8_inFeud_20 : decode cX8_inFeud 20 = .ok (.ifCond .eq 7, 3) := by decide +kernel
theorem dX8_inFeud_23 : decode cX8_inFeud 23 = .ok (.iconst 1, 1) := by decide +kernel
theorem dX8_inFeud_24 : decode cX8_inFeud 24 = .ok (.goto 4, 3) := by decide +kernel
theorem dX8_inFeud_27 : decode cX8_inFeud 27 = .ok (.iconst 0, 1) := by decide +kernel
theorem dX8_inFeud_28 : decode cX8_inFeud 28 = .ok (.ireturn, 1) := by decide +kernel
theorem dX8_sumOfFeuds_0 : decode cX8_sumOfFeuds 0 = .ok (.iconst 0, 1) := by decide +kernel
theorem dX8_sumOfFeuds_1 : decode cX8_sumOfFeuds 1 = .ok (.istore_n 1, 1) := by decide +kernel
theorem dX8_sumOfFeuds_2 : decode cX8_sumOfFeuds 2 = .ok (.iconst 0, 1) := by decide +kernel
theorem dX8_sumOfFeuds_3 : decode cX8_sumOfFeuds 3 = .ok (.istore_n 2, 1) := by decide +kernel
theorem dX8_sumOfFeuds_4 : decode cX8_sumOfFeuds 4 = .ok (.iload_n 2, 1) := by decide +kernel
theorem dX8_sumOfFeuds_5 : decode cX8_sumOfFeuds 5 = .ok (.bipush 8, 2) := by decide +kernel
theorem dX8_sumOfFeuds_7 : decode cX8_sumOfFeuds 7 = .ok (.if_icmp .ge 21, 3) := by decide +kernel
theorem dX8_sumOfFeuds_10 : decode cX8_sumOfFeuds 10 = .ok (.iload_n 1, 1) := by decide +kernel
theorem dX8_sumOfFeuds_11 : decode cX8_sumOfFeuds 11 = .ok (.aload_n 0, 1) := by decide +kernel
theorem dX8_sumOfFeuds_12 : decode cX8_sumOfFeuds 12 = .ok (.getfield 31, 3) := by decide +kernel
theorem dX8_sumOfFeuds_15 : decode cX8_sumOfFeuds 15 = .ok (.iload_n 2, 1) := by decide +kernel
theorem dX8_sumOfFeuds_16 : decode cX8_sumOfFeuds 16 = .ok (.iaload, 1) := by decide +kernel
theorem dX8_sumOfFeuds_17 : decode cX8_sumOfFeuds 17 = .ok (.invokestatic 75, 3) := by decide +kernel
theorem dX8_sumOfFeuds_20 : decode cX8_sumOfFeuds 20 = .ok (.iadd, 1) := by decide +kernel
theorem dX8_sumOfFeuds_21 : decode cX8_sumOfFeuds 21 = .ok (.istore_n 1, 1) := by decide +kernel
theorem dX8_sumOfFeuds_22 : decode cX8_sumOfFeuds 22 = .ok (.iinc 2 1, 3) := by decide +kernel
theorem dX8_sumOfFeuds_25 : decode cX8_sumOfFeuds 25 = .ok (.goto (-21), 3) := by decide +kernel
theorem dX8_sumOfFeuds_28 : decode cX8_sumOfFeuds 28 = .ok (.iload_n 1, 1) := by decide +kernel
theorem dX8_sumOfFeuds_29 : decode cX8_sumOfFeuds 29 = .ok (.iconst 2, 1) := by decide +kernel
theorem dX8_sumOfFeuds_30 : decode cX8_sumOfFeuds 30 = .ok (.idiv, 1) := by decide +kernel
theorem dX8_sumOfFeuds_31 : decode cX8_sumOfFeuds 31 = .ok (.ireturn, 1) := by decide +kernel
theorem dX8_effortOfMove_0 : decode cX8_effortOfMove 0 = .ok (.iconst 0, 1) := by decide +kernel
theorem dX8_effortOfMove_1 : decode cX8_effortOfMove 1 = .ok (.istore 4, 2) := by decide +kernel
theorem dX8_effortOfMove_3 : decode cX8_effortOfMove 3 = .ok (.iload_n 1, 1) := by decide +kernel
theorem dX8_effortOfMove_4 : decode cX8_effortOfMove 4 = .ok (.iconst 1, 1) := by decide +kernel
theorem dX8_effortOfMove_5 : decode cX8_effortOfMove 5 = .ok (.iadd, 1) := by decide +kernel
theorem dX8_effortOfMove_6 : decode cX8_effortOfMove 6 = .ok (.istore 5, 2) := by decide +kernel
theorem dX8_effortOfMove_8 : decode cX8_effortOfMove 8 = .ok (.iload 5, 2) := by decide +kernel
theorem dX8_effortOfMove_10 : decode cX8_effortOfMove 10 = .ok (.iload_n 2, 1) := by decide +kernel
theorem dX8_effortOfMove_11 : decode cX8_effortOfMove 11 = .ok (.if_icmp .gt 34, 3) := by decide +kernel
theorem dX8_effortOfMove_14 : decode cX8_effortOfMove 14 = .ok (.iload 4, 2) := by decide +kernel
theorem dX8_effortOfMove_16 : decode cX8_effortOfMove 16 = .ok (.aload_n 0, 1) := by decide +kernel
theorem dX8_effortOfMove_17 : decode cX8_effortOfMove 17 = .ok (.iload 5, 2) := by decide +kernel
theorem dX8_effortOfMove_19 : decode cX8_effortOfMove 19 = .ok (.invokevirtual 81, 3) := by decide +kernel
theorem dX8_effortOfMove_22 : decode cX8_effortOfMove 22 = .ok (.ifCond .eq 13, 3) := by decide +kernel
theorem dX8_effortOfMove_25 : decode cX8_effortOfMove 25 = .ok (.aload_n 0, 1) := by decide +kernel
theorem dX8_effortOfMove_26 : decode cX8_effortOfMove 26 = .ok (.getfield 9, 3) := by decide +kernel
theorem dX8_effortOfMove_29 : decode cX8_effortOfMove 29 = .ok (.iload 5, 2) := by decide +kernel
theorem dX8_effortOfMove_31 : decode cX8_effortOfMove 31 = .ok (.iaload, 1) := by decide +kernel
theorem dX8_effortOfMove_32 : decode cX8_effortOfMove 32 = .ok (.goto 4, 3) := by decide +kernel
theorem dX8_effortOfMove_35 : decode cX8_effortOfMove 35 = .ok (.iconst 0, 1) := by decide +kernel
theorem dX8_effortOfMove_36 : decode cX8_effortOfMove 36 = .ok (.iadd, 1) := by decide +kernel
theorem dX8_effortOfMove_37 : decode cX8_effortOfMove 37 = .ok (.istore 4, 2) := by decide +kernel
theorem dX8_effortOfMove_39 : decode cX8_effortOfMove 39 = .ok (.iinc 5 1, 3) := by decide +kernel
theorem dX8_effortOfMove_42 : decode cX8_effortOfMove 42 = .ok (.goto (-34), 3) := by decide +kernel
theorem dX8_effortOfMove_45 : decode cX8_effortOfMove 45 = .ok (.aload_n 0, 1) := by decide +kernel
theorem dX8_effortOfMove_46 : decode cX8_effortOfMove 46 = .ok (.iload_n 2, 1) := by decide +kernel
theorem dX8_effortOfMove_47 : decode cX8_effortOfMove 47 = .ok (.invokevirtual 81, 3) := by decide +kernel
theorem dX8_effortOfMove_50 : decode cX8_effortOfMove 50 = .ok (.ifCond .eq 15, 3) := by decide +kernel
theorem dX8_effortOfMove_53 : decode cX8_effortOfMove 53 = .ok (.bipush 9, 2) := by decide +kernel
theorem dX8_effortOfMove_55 : decode cX8_effortOfMove 55 = .ok (.aload_n 0, 1) := by decide +kernel
theorem dX8_effortOfMove_56 : decode cX8_effortOfMove 56 = .ok (.getfield 15, 3) := by decide +kernel
theorem dX8_effortOfMove_59 : decode cX8_effortOfMove 59 = .ok (.iload_n 2, 1) := by decide +kernel
theorem dX8_effortOfMove_60 : decode cX8_effortOfMove 60 = .ok (.iaload, 1) := by decide +kernel
theorem dX8_effortOfMove_61 : decode cX8_effortOfMove 61 = .ok (.isub, 1) := by decide +kernel
theorem dX8_effortOfMove_62 : decode cX8_effortOfMove 62 = .ok (.goto 4, 3) := by decide +kernel
theorem dX8_effortOfMove_65 : decode cX8_effortOfMove 65 = .ok (.iconst 0, 1) := by decide +kernel
theorem dX8_effortOfMove_66 : decode cX8_effortOfMove 66 = .ok (.istore 5, 2) := by decide +kernel
theorem dX8_effortOfMove_68 : decode cX8_effortOfMove 68 = .ok (.iload 4, 2) := by decide +kernel
theorem dX8_effortOfMove_70 : decode cX8_effortOfMove 70 = .ok (.bipush 10, 2) := by decide +kernel
theorem dX8_effortOfMove_72 : decode cX8_effortOfMove 72 = .ok (.iload_n 3, 1) := by decide +kernel
theorem dX8_effortOfMove_73 : decode cX8_effortOfMove 73 = .ok (.iadd, 1) := by decide +kernel
theorem dX8_effortOfMove_74 : decode cX8_effortOfMove 74 = .ok (.imul, 1) := by decide +kernel
theorem dX8_effortOfMove_75 : decode cX8_effortOfMove 75 = .ok (.bipush 10, 2) := by decide +kernel
theorem dX8_effortOfMove_77 : decode cX8_effortOfMove 77 = .ok (.idiv, 1) := by decide +kernel
theorem dX8_effortOfMove_78 : decode cX8_effortOfMove 78 = .ok (.iload 5, 2) := by decide +kernel
theorem dX8_effortOfMove_80 : decode cX8_effortOfMove 80 = .ok (.iadd, 1) := by decide +kernel
theorem dX8_effortOfMove_81 : decode cX8_effortOfMove 81 = .ok (.iconst 5, 1) := by decide +kernel
theorem dX8_effortOfMove_82 : decode cX8_effortOfMove 82 = .ok (.iload_n 2, 1) := by decide +kernel
theorem dX8_effortOfMove_83 : decode cX8_effortOfMove 83 = .ok (.iload_n 1, 1) := by decide +kernel
theorem dX8_effortOfMove_84 : decode cX8_effortOfMove 84 = .ok (.isub, 1) := by decide +kernel
theorem dX8_effortOfMove_85 : decode cX8_effortOfMove 85 = .ok (.iconst 1, 1) := by decide +kernel
theorem dX8_effortOfMove_86 : decode cX8_effortOfMove 86 = .ok (.isub, 1) := by decide +kernel
theorem dX8_effortOfMove_87 : decode cX8_effortOfMove 87 = .ok (.imul, 1) := by decide +kernel
theorem dX8_effortOfMove_88 : decode cX8_effortOfMove 88 = .ok (.iadd, 1) := by decide +kernel
theorem dX8_effortOfMove_89 : decode cX8_effortOfMove 89 = .ok (.ireturn, 1) := by decide +kernel
theorem dX8_costOfMove_0 : decode cX8_costOfMove 0 = .ok (.iload_n 2, 1) := by decide +kernel
theorem dX8_costOfMove_1 : decode cX8_costOfMove 1 = .ok (.iload_n 1, 1) := by decide +kernel
theorem dX8_costOfMove_2 : decode cX8_costOfMove 2 = .ok (.isub, 1) := by decide +kernel
theorem dX8_costOfMove_3 : decode cX8_costOfMove 3 = .ok (.iconst 1, 1) := by decide +kernel
theorem dX8_costOfMove_4 : decode cX8_costOfMove 4 = .ok (.isub, 1) := by decide +kernel
theorem dX8_costOfMove_5 : decode cX8_costOfMove 5 = .ok (.istore 4, 2) := by decide +kernel
theorem dX8_costOfMove_7 : decode cX8_costOfMove 7 = .ok (.aload_n 0, 1) := by decide +kernel
theorem dX8_costOfMove_8 : decode cX8_costOfMove 8 = .ok (.iconst 0, 1) := by decide +kernel
theorem dX8_costOfMove_9 : decode cX8_costOfMove 9 = .ok (.iload_n 2, 1) := by decide +kernel
theorem dX8_costOfMove_10 : decode cX8_costOfMove 10 = .ok (.iload_n 1, 1) := by decide +kernel
theorem dX8_costOfMove_11 : decode cX8_costOfMove 11 = .ok (.iload 4, 2) := by decide +kernel
theorem dX8_costOfMove_13 : decode cX8_costOfMove 13 = .ok (.iload_n 3, 1) := by decide +kernel
theorem dX8_costOfMove_14 : decode cX8_costOfMove 14 = .ok (.invokevirtual 84, 3) := by decide +kernel
theorem dX8_costOfMove_17 : decode cX8_costOfMove 17 = .ok (.istore 5, 2) := by decide +kernel
theorem dX8_costOfMove_19 : decode cX8_costOfMove 19 = .ok (.iload_n 1, 1) := by decide +kernel
theorem dX8_costOfMove_20 : decode cX8_costOfMove 20 = .ok (.iconst 1, 1) := by decide +kernel
theorem dX8_costOfMove_21 : decode cX8_costOfMove 21 = .ok (.iadd, 1) := by decide +kernel
theorem dX8_costOfMove_22 : decode cX8_costOfMove 22 = .ok (.istore 6, 2) := by decide +kernel
theorem dX8_costOfMove_24 : decode cX8_costOfMove 24 = .ok (.iload 6, 2) := by decide +kernel
theorem dX8_costOfMove_26 : decode cX8_costOfMove 26 = .ok (.iload_n 2, 1) := by decide +kernel
theorem dX8_costOfMove_27 : decode cX8_costOfMove 27 = .ok (.if_icmp .ge 25, 3) := by decide +kernel
theorem dX8_costOfMove_30 : decode cX8_costOfMove 30 = .ok (.iload 5, 2) := by decide +kernel
theorem dX8_costOfMove_32 : decode cX8_costOfMove 32 = .ok (.aload_n 0, 1) := by decide +kernel
theorem dX8_costOfMove_33 : decode cX8_costOfMove 33 = .ok (.iconst 1, 1) := by decide +kernel
theorem dX8_costOfMove_34 : decode cX8_costOfMove 34 = .ok (.iload 6, 2) := by decide +kernel
theorem dX8_costOfMove_36 : decode cX8_costOfMove 36 = .ok (.iload_n 1, 1) := by decide +kernel
theorem dX8_costOfMove_37 : decode cX8_costOfMove 37 = .ok (.iload 4, 2) := by decide +kernel
theorem dX8_costOfMove_39 : decode cX8_costOfMove 39 = .ok (.iload_n 3, 1) := by decide +kernel
theorem dX8_costOfMove_40 : decode cX8_costOfMove 40 = .ok (.invokevirtual 84, 3) := by decide +kernel
theorem dX8_costOfMove_43 : decode cX8_costOfMove 43 = .ok (.iadd, 1) := by decide +kernel
theorem dX8_costOfMove_44 : decode cX8_costOfMove 44 = .ok (.istore 5, 2) := by decide +kernel
theorem dX8_costOfMove_46 : decode cX8_costOfMove 46 = .ok (.iinc 6 1, 3) := by decide +kernel
theorem dX8_costOfMove_49 : decode cX8_costOfMove 49 = .ok (.goto (-25), 3) := by decide +kernel
theorem dX8_costOfMove_52 : decode cX8_costOfMove 52 = .ok (.iload 5, 2) := by decide +kernel
theorem dX8_costOfMove_54 : decode cX8_costOfMove 54 = .ok (.ireturn, 1) := by decide +kernel
theorem dX8_priceOf_0 : decode cX8_priceOf 0 = .ok (.iload_n 1, 1) := by decide +kernel
theorem dX8_priceOf_1 : decode cX8_priceOf 1 = .ok (.ifCond .ne 10, 3) := by decide +kernel
theorem dX8_priceOf_4 : decode cX8_priceOf 4 = .ok (.aload_n 0, 1) := by decide +kernel
theorem dX8_priceOf_5 : decode cX8_priceOf 5 = .ok (.getfield 37, 3) := by decide +kernel
theorem dX8_priceOf_8 : decode cX8_priceOf 8 = .ok (.goto 7, 3) := by decide +kernel
theorem dX8_priceOf_11 : decode cX8_priceOf 11 = .ok (.aload_n 0, 1) := by decide +kernel
theorem dX8_priceOf_12 : decode cX8_priceOf 12 = .ok (.getfield 41, 3) := by decide +kernel
theorem dX8_priceOf_15 : decode cX8_priceOf 15 = .ok (.astore 6, 2) := by decide +kernel
theorem dX8_priceOf_17 : decode cX8_priceOf 17 = .ok (.aload_n 0, 1) := by decide +kernel
theorem dX8_priceOf_18 : decode cX8_priceOf 18 = .ok (.iload_n 2, 1) := by decide +kernel
theorem dX8_priceOf_19 : decode cX8_priceOf 19 = .ok (.invokevirtual 81, 3) := by decide +kernel
theorem dX8_priceOf_22 : decode cX8_priceOf 22 = .ok (.ifCond .ne 5, 3) := by decide +kernel
theorem dX8_priceOf_25 : decode cX8_priceOf 25 = .ok (.iconst 0, 1) := by decide +kernel
theorem dX8_priceOf_26 : decode cX8_priceOf 26 = .ok (.ireturn, 1) := by decide +kernel
theorem dX8_priceOf_27 : decode cX8_priceOf 27 = .ok (.aload 6, 2) := by decide +kernel
theorem dX8_priceOf_29 : decode cX8_priceOf 29 = .ok (.invokevirtual 88, 3) := by decide +kernel
theorem dX8_priceOf_32 : decode cX8_priceOf 32 = .ok (.ifCond .ne 27, 3) := by decide +kernel
theorem dX8_priceOf_35 : decode cX8_priceOf 35 = .ok (.iload_n 1, 1) := by decide +kernel
theorem dX8_priceOf_36 : decode cX8_priceOf 36 = .ok (.ifCond .ne 21, 3) := by decide +kernel
theorem dX8_priceOf_39 : decode cX8_priceOf 39 = .ok (.aload_n 0, 1) := by decide +kernel
theorem dX8_priceOf_40 : decode cX8_priceOf 40 = .ok (.getfield 21, 3) := by decide +kernel
theorem dX8_priceOf_43 : decode cX8_priceOf 43 = .ok (.iload_n 2, 1) := by decide +kernel
theorem dX8_priceOf_44 : decode cX8_priceOf 44 = .ok (.iaload, 1) := by decide +kernel
theorem dX8_priceOf_45 : decode cX8_priceOf 45 = .ok (.ifCond .ne 12, 3) := by decide +kernel
theorem dX8_priceOf_48 : decode cX8_priceOf 48 = .ok (.aload_n 0, 1) := by decide +kernel
theorem dX8_priceOf_49 : decode cX8_priceOf 49 = .ok (.getfield 18, 3) := by decide +kernel
theorem dX8_priceOf_52 : decode cX8_priceOf 52 = .ok (.iload_n 2, 1) := by decide +kernel
theorem dX8_priceOf_53 : decode cX8_priceOf 53 = .ok (.iaload, 1) := by decide +kernel
theorem dX8_priceOf_54 : decode cX8_priceOf 54 = .ok (.goto 4, 3) := by decide +kernel
theorem dX8_priceOf_57 : decode cX8_priceOf 57 = .ok (.iconst 0, 1) := by decide +kernel
theorem dX8_priceOf_58 : decode cX8_priceOf 58 = .ok (.ireturn, 1) := by decide +kernel
theorem dX8_priceOf_59 : decode cX8_priceOf 59 = .ok (.aload_n 0, 1) := by decide +kernel
theorem dX8_priceOf_60 : decode cX8_priceOf 60 = .ok (.iload_n 2, 1) := by decide +kernel
theorem dX8_priceOf_61 : decode cX8_priceOf 61 = .ok (.iload_n 3, 1) := by decide +kernel
theorem dX8_priceOf_62 : decode cX8_priceOf 62 = .ok (.iload 4, 2) := by decide +kernel
theorem dX8_priceOf_64 : decode cX8_priceOf 64 = .ok (.iload 5, 2) := by decide +kernel
theorem dX8_priceOf_66 : decode cX8_priceOf 66 = .ok (.invokevirtual 92, 3) := by decide +kernel
theorem dX8_priceOf_69 : decode cX8_priceOf 69 = .ok (.aload 6, 2) := by decide +kernel
theorem dX8_priceOf_71 : decode cX8_priceOf 71 = .ok (.aload_n 0, 1) := by decide +kernel
theorem dX8_priceOf_72 : decode cX8_priceOf 72 = .ok (.getfield 44, 3) := by decide +kernel
theorem dX8_priceOf_75 : decode cX8_priceOf 75 = .ok (.invokevirtual 96, 3) := by decide +kernel
theorem dX8_priceOf_78 : decode cX8_priceOf 78 = .ok (.ireturn, 1) := by decide +kernel
abbrev mX8_pricesInto_0_e0 : ByteArray := .mk #[0x1c, 0x9a, 0x00, 0x0a, 0x2a, 0xb4, 0x00, 0x25, 0xa7, 0x00, 0x07, 0x2a, 0xb4, 0x00, 0x29, 0x3a, 0x07, 0x2a, 0x1d, 0xb6, 0x00, 0x51, 0x9a, 0x00, 0x04, 0xb1, 0x1c, 0x9a, 0x00, 0x18, 0x19, 0x07, 0xb6, 0x00, 0x58, 0x9a, 0x00, 0x10, 0x2a, 0xb4, 0x00, 0x15, 0x1d, 0x2e, 0x9a, 0x00, 0x07, 0x04, 0xa7, 0x00, 0x04, 0x03, 0x36, 0x08, 0x2a, 0x1d, 0x15, 0x04, 0x15, 0x05, 0x15, 0x06, 0xb6, 0x00, 0x5c, 0x19, 0x07, 0x2a, 0xb4, 0x00, 0x2c, 0xb6]
theorem kmX8_pricesInto_0_e0 : CK cX8_pricesInto 0 mX8_pricesInto_0_e0 := ck_of (by decide +kernel)
theorem dX8_pricesInto_0 : decode cX8_pricesInto 0 = .ok (.iload_n 2, 1) := rd_chunk (k := 0) (i := 0) kmX8_pricesInto_0_e0 (by decide +kernel)
theorem dX8_pricesInto_1 : decode cX8_pricesInto 1 = .ok (.ifCond .ne 10, 3) := rd_chunk (k := 0) (i := 1) kmX8_pricesInto_0_e0 (by decide +kernel)
theorem dX8_pricesInto_4 : decode cX8_pricesInto 4 = .ok (.aload_n 0, 1) := rd_chunk (k := 0) (i := 4) kmX8_pricesInto_0_e0 (by decide +kernel)
theorem dX8_pricesInto_5 : decode cX8_pricesInto 5 = .ok (.getfield 37, 3) := rd_chunk (k := 0) (i := 5) kmX8_pricesInto_0_e0 (by decide +kernel)
theorem dX8_pricesInto_8 : decode cX8_pricesInto 8 = .ok (.goto 7, 3) := rd_chunk (k := 0) (i := 8) kmX8_pricesInto_0_e0 (by decide +kernel)
theorem dX8_pricesInto_11 : decode cX8_pricesInto 11 = .ok (.aload_n 0, 1) := rd_chunk (k := 0) (i := 11) kmX8_pricesInto_0_e0 (by decide +kernel)
theorem dX8_pricesInto_12 : decode cX8_pricesInto 12 = .ok (.getfield 41, 3) := rd_chunk (k := 0) (i := 12) kmX8_pricesInto_0_e0 (by decide +kernel)
theorem dX8_pricesInto_15 : decode cX8_pricesInto 15 = .ok (.astore 7, 2) := rd_chunk (k := 0) (i := 15) kmX8_pricesInto_0_e0 (by decide +kernel)
theorem dX8_pricesInto_17 : decode cX8_pricesInto 17 = .ok (.aload_n 0, 1) := rd_chunk (k := 0) (i := 17) kmX8_pricesInto_0_e0 (by decide +kernel)
theorem dX8_pricesInto_18 : decode cX8_pricesInto 18 = .ok (.iload_n 3, 1) := rd_chunk (k := 0) (i := 18) kmX8_pricesInto_0_e0 (by decide +kernel)
theorem dX8_pricesInto_19 : decode cX8_pricesInto 19 = .ok (.invokevirtual 81, 3) := rd_chunk (k := 0) (i := 19) kmX8_pricesInto_0_e0 (by decide +kernel)
theorem dX8_pricesInto_22 : decode cX8_pricesInto 22 = .ok (.ifCond .ne 4, 3) := rd_chunk (k := 0) (i := 22) kmX8_pricesInto_0_e0 (by decide +kernel)
theorem dX8_pricesInto_25 : decode cX8_pricesInto 25 = .ok (.return_, 1) := rd_chunk (k := 0) (i := 25) kmX8_pricesInto_0_e0 (by decide +kernel)
theorem dX8_pricesInto_26 : decode cX8_pricesInto 26 = .ok (.iload_n 2, 1) := rd_chunk (k := 0) (i := 26) kmX8_pricesInto_0_e0 (by decide +kernel)
theorem dX8_pricesInto_27 : decode cX8_pricesInto 27 = .ok (.ifCond .ne 24, 3) := rd_chunk (k := 0) (i := 27) kmX8_pricesInto_0_e0 (by decide +kernel)
theorem dX8_pricesInto_30 : decode cX8_pricesInto 30 = .ok (.aload 7, 2) := rd_chunk (k := 0) (i := 30) kmX8_pricesInto_0_e0 (by decide +kernel)
theorem dX8_pricesInto_32 : decode cX8_pricesInto 32 = .ok (.invokevirtual 88, 3) := rd_chunk (k := 0) (i := 32) kmX8_pricesInto_0_e0 (by decide +kernel)
theorem dX8_pricesInto_35 : decode cX8_pricesInto 35 = .ok (.ifCond .ne 16, 3) := rd_chunk (k := 0) (i := 35) kmX8_pricesInto_0_e0 (by decide +kernel)
theorem dX8_pricesInto_38 : decode cX8_pricesInto 38 = .ok (.aload_n 0, 1) := rd_chunk (k := 0) (i := 38) kmX8_pricesInto_0_e0 (by decide +kernel)
theorem dX8_pricesInto_39 : decode cX8_pricesInto 39 = .ok (.getfield 21, 3) := rd_chunk (k := 0) (i := 39) kmX8_pricesInto_0_e0 (by decide +kernel)
theorem dX8_pricesInto_42 : decode cX8_pricesInto 42 = .ok (.iload_n 3, 1) := rd_chunk (k := 0) (i := 42) kmX8_pricesInto_0_e0 (by decide +kernel)
theorem dX8_pricesInto_43 : decode cX8_pricesInto 43 = .ok (.iaload, 1) := rd_chunk (k := 0) (i := 43) kmX8_pricesInto_0_e0 (by decide +kernel)
theorem dX8_pricesInto_44 : decode cX8_pricesInto 44 = .ok (.ifCond .ne 7, 3) := rd_chunk (k := 0) (i := 44) kmX8_pricesInto_0_e0 (by decide +kernel)
theorem dX8_pricesInto_47 : decode cX8_pricesInto 47 = .ok (.iconst 1, 1) := rd_chunk (k := 0) (i := 47) kmX8_pricesInto_0_e0 (by decide +kernel)
theorem dX8_pricesInto_48 : decode cX8_pricesInto 48 = .ok (.goto 4, 3) := rd_chunk (k := 0) (i := 48) kmX8_pricesInto_0_e0 (by decide +kernel)
theorem dX8_pricesInto_51 : decode cX8_pricesInto 51 = .ok (.iconst 0, 1) := rd_chunk (k := 0) (i := 51) kmX8_pricesInto_0_e0 (by decide +kernel)
theorem dX8_pricesInto_52 : decode cX8_pricesInto 52 = .ok (.istore 8, 2) := rd_chunk (k := 0) (i := 52) kmX8_pricesInto_0_e0 (by decide +kernel)
theorem dX8_pricesInto_54 : decode cX8_pricesInto 54 = .ok (.aload_n 0, 1) := rd_chunk (k := 0) (i := 54) kmX8_pricesInto_0_e0 (by decide +kernel)
theorem dX8_pricesInto_55 : decode cX8_pricesInto 55 = .ok (.iload_n 3, 1) := rd_chunk (k := 0) (i := 55) kmX8_pricesInto_0_e0 (by decide +kernel)
theorem dX8_pricesInto_56 : decode cX8_pricesInto 56 = .ok (.iload 4, 2) := rd_chunk (k := 0) (i := 56) kmX8_pricesInto_0_e0 (by decide +kernel)
theorem dX8_pricesInto_58 : decode cX8_pricesInto 58 = .ok (.iload 5, 2) := rd_chunk (k := 0) (i := 58) kmX8_pricesInto_0_e0 (by decide +kernel)
theorem dX8_pricesInto_60 : decode cX8_pricesInto 60 = .ok (.iload 6, 2) := rd_chunk (k := 0) (i := 60) kmX8_pricesInto_0_e0 (by decide +kernel)
theorem dX8_pricesInto_62 : decode cX8_pricesInto 62 = .ok (.invokevirtual 92, 3) := rd_chunk (k := 0) (i := 62) kmX8_pricesInto_0_e0 (by decide +kernel)
abbrev mX8_pricesInto_64_e0 : ByteArray := .mk #[0x5c, 0x19, 0x07, 0x2a, 0xb4, 0x00, 0x2c, 0xb6, 0x00, 0x60, 0x36, 0x09, 0x03, 0x36, 0x0a, 0x15, 0x0a, 0x2b, 0xbe, 0xa2, 0x00, 0x36, 0x2a, 0xb4, 0x00, 0x2c, 0x03, 0x15, 0x0a, 0x4f, 0x2b, 0x15, 0x0a, 0x15, 0x08, 0x99, 0x00, 0x08, 0x15, 0x0a, 0xa7, 0x00, 0x1a, 0x19, 0x07, 0x03, 0xb6, 0x00, 0x64, 0x99, 0x00, 0x0f, 0x19, 0x07, 0x2a, 0xb4, 0x00, 0x2c, 0xb6, 0x00, 0x60, 0xa7, 0x00, 0x05, 0x15, 0x09, 0x4f, 0x84, 0x0a, 0x01, 0xa7, 0xff]
theorem kmX8_pricesInto_64_e0 : CK cX8_pricesInto 64 mX8_pricesInto_64_e0 := ck_of (by decide +kernel)
theorem dX8_pricesInto_65 : decode cX8_pricesInto 65 = .ok (.aload 7, 2) := rd_chunk (k := 64) (i := 1) kmX8_pricesInto_64_e0 (by decide +kernel)
theorem dX8_pricesInto_67 : decode cX8_pricesInto 67 = .ok (.aload_n 0, 1) := rd_chunk (k := 64) (i := 3) kmX8_pricesInto_64_e0 (by decide +kernel)
theorem dX8_pricesInto_68 : decode cX8_pricesInto 68 = .ok (.getfield 44, 3) := rd_chunk (k := 64) (i := 4) kmX8_pricesInto_64_e0 (by decide +kernel)
theorem dX8_pricesInto_71 : decode cX8_pricesInto 71 = .ok (.invokevirtual 96, 3) := rd_chunk (k := 64) (i := 7) kmX8_pricesInto_64_e0 (by decide +kernel)
theorem dX8_pricesInto_74 : decode cX8_pricesInto 74 = .ok (.istore 9, 2) := rd_chunk (k := 64) (i := 10) kmX8_pricesInto_64_e0 (by decide +kernel)
theorem dX8_pricesInto_76 : decode cX8_pricesInto 76 = .ok (.iconst 0, 1) := rd_chunk (k := 64) (i := 12) kmX8_pricesInto_64_e0 (by decide +kernel)
theorem dX8_pricesInto_77 : decode cX8_pricesInto 77 = .ok (.istore 10, 2) := rd_chunk (k := 64) (i := 13) kmX8_pricesInto_64_e0 (by decide +kernel)
theorem dX8_pricesInto_79 : decode cX8_pricesInto 79 = .ok (.iload 10, 2) := rd_chunk (k := 64) (i := 15) kmX8_pricesInto_64_e0 (by decide +kernel)
theorem dX8_pricesInto_81 : decode cX8_pricesInto 81 = .ok (.aload_n 1, 1) := rd_chunk (k := 64) (i := 17) kmX8_pricesInto_64_e0 (by decide +kernel)
theorem dX8_pricesInto_82 : decode cX8_pricesInto 82 = .ok (.arraylength, 1) := rd_chunk (k := 64) (i := 18) kmX8_pricesInto_64_e0 (by decide +kernel)
theorem dX8_pricesInto_83 : decode cX8_pricesInto 83 = .ok (.if_icmp .ge 54, 3) := rd_chunk (k := 64) (i := 19) kmX8_pricesInto_64_e0 (by decide +kernel)
theorem dX8_pricesInto_86 : decode cX8_pricesInto 86 = .ok (.aload_n 0, 1) := rd_chunk (k := 64) (i := 22) kmX8_pricesInto_64_e0 (by decide +kernel)
theorem dX8_pricesInto_87 : decode cX8_pricesInto 87 = .ok (.getfield 44, 3) := rd_chunk (k := 64) (i := 23) kmX8_pricesInto_64_e0 (by decide +kernel)
theorem dX8_pricesInto_90 : decode cX8_pricesInto 90 = .ok (.iconst 0, 1) := rd_chunk (k := 64) (i := 26) kmX8_pricesInto_64_e0 (by decide +kernel)
theorem dX8_pricesInto_91 : decode cX8_pricesInto 91 = .ok (.iload 10, 2) := rd_chunk (k := 64) (i := 27) kmX8_pricesInto_64_e0 (by decide +kernel)
theorem dX8_pricesInto_93 : decode cX8_pricesInto 93 = .ok (.iastore, 1) := rd_chunk (k := 64) (i := 29) kmX8_pricesInto_64_e0 (by decide +kernel)
theorem dX8_pricesInto_94 : decode cX8_pricesInto 94 = .ok (.aload_n 1, 1) := rd_chunk (k := 64) (i := 30) kmX8_pricesInto_64_e0 (by decide +kernel)
theorem dX8_pricesInto_95 : decode cX8_pricesInto 95 = .ok (.iload 10, 2) := rd_chunk (k := 64) (i := 31) kmX8_pricesInto_64_e0 (by decide +kernel)
theorem dX8_pricesInto_97 : decode cX8_pricesInto 97 = .ok (.iload 8, 2) := rd_chunk (k := 64) (i := 33) kmX8_pricesInto_64_e0 (by decide +kernel)
theorem dX8_pricesInto_99 : decode cX8_pricesInto 99 = .ok (.ifCond .eq 8, 3) := rd_chunk (k := 64) (i := 35) kmX8_pricesInto_64_e0 (by decide +kernel)
theorem dX8_pricesInto_102 : decode cX8_pricesInto 102 = .ok (.iload 10, 2) := rd_chunk (k := 64) (i := 38) kmX8_pricesInto_64_e0 (by decide +kernel)
theorem dX8_pricesInto_104 : decode cX8_pricesInto 104 = .ok (.goto 26, 3) := rd_chunk (k := 64) (i := 40) kmX8_pricesInto_64_e0 (by decide +kernel)
theorem dX8_pricesInto_107 : decode cX8_pricesInto 107 = .ok (.aload 7, 2) := rd_chunk (k := 64) (i := 43) kmX8_pricesInto_64_e0 (by decide +kernel)
theorem dX8_pricesInto_109 : decode cX8_pricesInto 109 = .ok (.iconst 0, 1) := rd_chunk (k := 64) (i := 45) kmX8_pricesInto_64_e0 (by decide +kernel)
theorem dX8_pricesInto_110 : decode cX8_pricesInto 110 = .ok (.invokevirtual 100, 3) := rd_chunk (k := 64) (i := 46) kmX8_pricesInto_64_e0 (by decide +kernel)
theorem dX8_pricesInto_113 : decode cX8_pricesInto 113 = .ok (.ifCond .eq 15, 3) := rd_chunk (k := 64) (i := 49) kmX8_pricesInto_64_e0 (by decide +kernel)
theorem dX8_pricesInto_116 : decode cX8_pricesInto 116 = .ok (.aload 7, 2) := rd_chunk (k := 64) (i := 52) kmX8_pricesInto_64_e0 (by decide +kernel)
theorem dX8_pricesInto_118 : decode cX8_pricesInto 118 = .ok (.aload_n 0, 1) := rd_chunk (k := 64) (i := 54) kmX8_pricesInto_64_e0 (by decide +kernel)
theorem dX8_pricesInto_119 : decode cX8_pricesInto 119 = .ok (.getfield 44, 3) := rd_chunk (k := 64) (i := 55) kmX8_pricesInto_64_e0 (by decide +kernel)
theorem dX8_pricesInto_122 : decode cX8_pricesInto 122 = .ok (.invokevirtual 96, 3) := rd_chunk (k := 64) (i := 58) kmX8_pricesInto_64_e0 (by decide +kernel)
theorem dX8_pricesInto_125 : decode cX8_pricesInto 125 = .ok (.goto 5, 3) := rd_chunk (k := 64) (i := 61) kmX8_pricesInto_64_e0 (by decide +kernel)
abbrev mX8_pricesInto_128_e0 : ByteArray := .mk #[0x15, 0x09, 0x4f, 0x84, 0x0a, 0x01, 0xa7, 0xff, 0xc9, 0xb1]
theorem kmX8_pricesInto_128_e0 : CK cX8_pricesInto 128 mX8_pricesInto_128_e0 := ck_of (by decide +kernel)
theorem dX8_pricesInto_128 : decode cX8_pricesInto 128 = .ok (.iload 9, 2) := rd_chunk (k := 128) (i := 0) kmX8_pricesInto_128_e0 (by decide +kernel)
theorem dX8_pricesInto_130 : decode cX8_pricesInto 130 = .ok (.iastore, 1) := rd_chunk (k := 128) (i := 2) kmX8_pricesInto_128_e0 (by decide +kernel)
theorem dX8_pricesInto_131 : decode cX8_pricesInto 131 = .ok (.iinc 10 1, 3) := rd_chunk (k := 128) (i := 3) kmX8_pricesInto_128_e0 (by decide +kernel)
theorem dX8_pricesInto_134 : decode cX8_pricesInto 134 = .ok (.goto (-55), 3) := rd_chunk (k := 128) (i := 6) kmX8_pricesInto_128_e0 (by decide +kernel)
theorem dX8_pricesInto_137 : decode cX8_pricesInto 137 = .ok (.return_, 1) := rd_chunk (k := 128) (i := 9) kmX8_pricesInto_128_e0 (by decide +kernel)
abbrev mX8_putLetters_0_e0 : ByteArray := .mk #[0x2a, 0x1b, 0xb6, 0x00, 0x51, 0x9a, 0x00, 0x04, 0xb1, 0x2a, 0xb4, 0x00, 0x2c, 0x03, 0x2a, 0xb4, 0x00, 0x12, 0x1b, 0x2e, 0x4f, 0x2a, 0xb4, 0x00, 0x2c, 0x04, 0x2a, 0xb4, 0x00, 0x09, 0x1b, 0x2e, 0x4f, 0x2a, 0xb4, 0x00, 0x2c, 0x05, 0x2a, 0xb4, 0x00, 0x0f, 0x1b, 0x2e, 0x4f, 0x2a, 0xb4, 0x00, 0x2c, 0x06, 0x2a, 0xb4, 0x00, 0x15, 0x1b, 0x2e, 0x4f, 0x2a, 0xb4, 0x00, 0x2c, 0x07, 0x2a, 0x1c, 0xb6, 0x00, 0x51, 0x99, 0x00, 0x1e, 0x2a, 0x2a]
theorem kmX8_putLetters_0_e0 : CK cX8_putLetters 0 mX8_putLetters_0_e0 := ck_of (by decide +kernel)
theorem dX8_putLetters_0 : decode cX8_putLetters 0 = .ok (.aload_n 0, 1) := rd_chunk (k := 0) (i := 0) kmX8_putLetters_0_e0 (by decide +kernel)
theorem dX8_putLetters_1 : decode cX8_putLetters 1 = .ok (.iload_n 1, 1) := rd_chunk (k := 0) (i := 1) kmX8_putLetters_0_e0 (by decide +kernel)
theorem dX8_putLetters_2 : decode cX8_putLetters 2 = .ok (.invokevirtual 81, 3) := rd_chunk (k := 0) (i := 2) kmX8_putLetters_0_e0 (by decide +kernel)
theorem dX8_putLetters_5 : decode cX8_putLetters 5 = .ok (.ifCond .ne 4, 3) := rd_chunk (k := 0) (i := 5) kmX8_putLetters_0_e0 (by decide +kernel)
theorem dX8_putLetters_8 : decode cX8_putLetters 8 = .ok (.return_, 1) := rd_chunk (k := 0) (i := 8) kmX8_putLetters_0_e0 (by decide +kernel)
theorem dX8_putLetters_9 : decode cX8_putLetters 9 = .ok (.aload_n 0, 1) := rd_chunk (k := 0) (i := 9) kmX8_putLetters_0_e0 (by decide +kernel)
theorem dX8_putLetters_10 : decode cX8_putLetters 10 = .ok (.getfield 44, 3) := rd_chunk (k := 0) (i := 10) kmX8_putLetters_0_e0 (by decide +kernel)
theorem dX8_putLetters_13 : decode cX8_putLetters 13 = .ok (.iconst 0, 1) := rd_chunk (k := 0) (i := 13) kmX8_putLetters_0_e0 (by decide +kernel)
theorem dX8_putLetters_14 : decode cX8_putLetters 14 = .ok (.aload_n 0, 1) := rd_chunk (k := 0) (i := 14) kmX8_putLetters_0_e0 (by decide +kernel)
theorem dX8_putLetters_15 : decode cX8_putLetters 15 = .ok (.getfield 18, 3) := rd_chunk (k := 0) (i := 15) kmX8_putLetters_0_e0 (by decide +kernel)
theorem dX8_putLetters_18 : decode cX8_putLetters 18 = .ok (.iload_n 1, 1) := rd_chunk (k := 0) (i := 18) kmX8_putLetters_0_e0 (by decide +kernel)
theorem dX8_putLetters_19 : decode cX8_putLetters 19 = .ok (.iaload, 1) := rd_chunk (k := 0) (i := 19) kmX8_putLetters_0_e0 (by decide +kernel)
theorem dX8_putLetters_20 : decode cX8_putLetters 20 = .ok (.iastore, 1) := rd_chunk (k := 0) (i := 20) kmX8_putLetters_0_e0 (by decide +kernel)
theorem dX8_putLetters_21 : decode cX8_putLetters 21 = .ok (.aload_n 0, 1) := rd_chunk (k := 0) (i := 21) kmX8_putLetters_0_e0 (by decide +kernel)
theorem dX8_putLetters_22 : decode cX8_putLetters 22 = .ok (.getfield 44, 3) := rd_chunk (k := 0) (i := 22) kmX8_putLetters_0_e0 (by decide +kernel)
theorem dX8_putLetters_25 : decode cX8_putLetters 25 = .ok (.iconst 1, 1) := rd_chunk (k := 0) (i := 25) kmX8_putLetters_0_e0 (by decide +kernel)
theorem dX8_putLetters_26 : decode cX8_putLetters 26 = .ok (.aload_n 0, 1) := rd_chunk (k := 0) (i := 26) kmX8_putLetters_0_e0 (by decide +kernel)
theorem dX8_putLetters_27 : decode cX8_putLetters 27 = .ok (.getfield 9, 3) := rd_chunk (k := 0) (i := 27) kmX8_putLetters_0_e0 (by decide +kernel)
theorem dX8_putLetters_30 : decode cX8_putLetters 30 = .ok (.iload_n 1, 1) := rd_chunk (k := 0) (i := 30) kmX8_putLetters_0_e0 (by decide +kernel)
theorem dX8_putLetters_31 : decode cX8_putLetters 31 = .ok (.iaload, 1) := rd_chunk (k := 0) (i := 31) kmX8_putLetters_0_e0 (by decide +kernel)
theorem dX8_putLetters_32 : decode cX8_putLetters 32 = .ok (.iastore, 1) := rd_chunk (k := 0) (i := 32) kmX8_putLetters_0_e0 (by decide +kernel)
theorem dX8_putLetters_33 : decode cX8_putLetters 33 = .ok (.aload_n 0, 1) := rd_chunk (k := 0) (i := 33) kmX8_putLetters_0_e0 (by decide +kernel)
theorem dX8_putLetters_34 : decode cX8_putLetters 34 = .ok (.getfield 44, 3) := rd_chunk (k := 0) (i := 34) kmX8_putLetters_0_e0 (by decide +kernel)
theorem dX8_putLetters_37 : decode cX8_putLetters 37 = .ok (.iconst 2, 1) := rd_chunk (k := 0) (i := 37) kmX8_putLetters_0_e0 (by decide +kernel)
theorem dX8_putLetters_38 : decode cX8_putLetters 38 = .ok (.aload_n 0, 1) := rd_chunk (k := 0) (i := 38) kmX8_putLetters_0_e0 (by decide +kernel)
theorem dX8_putLetters_39 : decode cX8_putLetters 39 = .ok (.getfield 15, 3) := rd_chunk (k := 0) (i := 39) kmX8_putLetters_0_e0 (by decide +kernel)
theorem dX8_putLetters_42 : decode cX8_putLetters 42 = .ok (.iload_n 1, 1) := rd_chunk (k := 0) (i := 42) kmX8_putLetters_0_e0 (by decide +kernel)
theorem dX8_putLetters_43 : decode cX8_putLetters 43 = .ok (.iaload, 1) := rd_chunk (k := 0) (i := 43) kmX8_putLetters_0_e0 (by decide +kernel)
theorem dX8_putLetters_44 : decode cX8_putLetters 44 = .ok (.iastore, 1) := rd_chunk (k := 0) (i := 44) kmX8_putLetters_0_e0 (by decide +kernel)
theorem dX8_putLetters_45 : decode cX8_putLetters 45 = .ok (.aload_n 0, 1) := rd_chunk (k := 0) (i := 45) kmX8_putLetters_0_e0 (by decide +kernel)
theorem dX8_putLetters_46 : decode cX8_putLetters 46 = .ok (.getfield 44, 3) := rd_chunk (k := 0) (i := 46) kmX8_putLetters_0_e0 (by decide +kernel)
theorem dX8_putLetters_49 : decode cX8_putLetters 49 = .ok (.iconst 3, 1) := rd_chunk (k := 0) (i := 49) kmX8_putLetters_0_e0 (by decide +kernel)
theorem dX8_putLetters_50 : decode cX8_putLetters 50 = .ok (.aload_n 0, 1) := rd_chunk (k := 0) (i := 50) kmX8_putLetters_0_e0 (by decide +kernel)
theorem dX8_putLetters_51 : decode cX8_putLetters 51 = .ok (.getfield 21, 3) := rd_chunk (k := 0) (i := 51) kmX8_putLetters_0_e0 (by decide +kernel)
theorem dX8_putLetters_54 : decode cX8_putLetters 54 = .ok (.iload_n 1, 1) := rd_chunk (k := 0) (i := 54) kmX8_putLetters_0_e0 (by decide +kernel)
theorem dX8_putLetters_55 : decode cX8_putLetters 55 = .ok (.iaload, 1) := rd_chunk (k := 0) (i := 55) kmX8_putLetters_0_e0 (by decide +kernel)
theorem dX8_putLetters_56 : decode cX8_putLetters 56 = .ok (.iastore, 1) := rd_chunk (k := 0) (i := 56) kmX8_putLetters_0_e0 (by decide +kernel)
theorem dX8_putLetters_57 : decode cX8_putLetters 57 = .ok (.aload_n 0, 1) := rd_chunk (k := 0) (i := 57) kmX8_putLetters_0_e0 (by decide +kernel)
theorem dX8_putLetters_58 : decode cX8_putLetters 58 = .ok (.getfield 44, 3) := rd_chunk (k := 0) (i := 58) kmX8_putLetters_0_e0 (by decide +kernel)
theorem dX8_putLetters_61 : decode cX8_putLetters 61 = .ok (.iconst 4, 1) := rd_chunk (k := 0) (i := 61) kmX8_putLetters_0_e0 (by decide +kernel)
theorem dX8_putLetters_62 : decode cX8_putLetters 62 = .ok (.aload_n 0, 1) := rd_chunk (k := 0) (i := 62) kmX8_putLetters_0_e0 (by decide +kernel)
theorem dX8_putLetters_63 : decode cX8_putLetters 63 = .ok (.iload_n 2, 1) := rd_chunk (k := 0) (i := 63) kmX8_putLetters_0_e0 (by decide +kernel)
abbrev mX8_putLetters_64_e0 : ByteArray := .mk #[0xb6, 0x00, 0x51, 0x99, 0x00, 0x1e, 0x2a, 0x2a, 0xb4, 0x00, 0x1b, 0x1b, 0xb6, 0x00, 0x67, 0x2a, 0xb4, 0x00, 0x1b, 0x1c, 0xb6, 0x00, 0x67, 0xb6, 0x00, 0x6a, 0x99, 0x00, 0x07, 0x04, 0xa7, 0x00, 0x04, 0x03, 0x4f, 0x2a, 0xb4, 0x00, 0x2c, 0x08, 0x15, 0x04, 0x4f, 0x2a, 0xb4, 0x00, 0x2c, 0x10, 0x06, 0x1d, 0x4f, 0xb1]
theorem kmX8_putLetters_64_e0 : CK cX8_putLetters 64 mX8_putLetters_64_e0 := ck_of (by decide +kernel)
theorem dX8_putLetters_64 : decode cX8_putLetters 64 = .ok (.invokevirtual 81, 3) := rd_chunk (k := 64) (i := 0) kmX8_putLetters_64_e0 (by decide +kernel)
theorem dX8_putLetters_67 : decode cX8_putLetters 67 = .ok (.ifCond .eq 30, 3) := rd_chunk (k := 64) (i := 3) kmX8_putLetters_64_e0 (by decide +kernel)
theorem dX8_putLetters_70 : decode cX8_putLetters 70 = .ok (.aload_n 0, 1) := rd_chunk (k := 64) (i := 6) kmX8_putLetters_64_e0 (by decide +kernel)
theorem dX8_putLetters_71 : decode cX8_putLetters 71 = .ok (.aload_n 0, 1) := rd_chunk (k := 64) (i := 7) kmX8_putLetters_64_e0 (by decide +kernel)
theorem dX8_putLetters_72 : decode cX8_putLetters 72 = .ok (.getfield 27, 3) := rd_chunk (k := 64) (i := 8) kmX8_putLetters_64_e0 (by decide +kernel)
theorem dX8_putLetters_75 : decode cX8_putLetters 75 = .ok (.iload_n 1, 1) := rd_chunk (k := 64) (i := 11) kmX8_putLetters_64_e0 (by decide +kernel)
theorem dX8_putLetters_76 : decode cX8_putLetters 76 = .ok (.invokevirtual 103, 3) := rd_chunk (k := 64) (i := 12) kmX8_putLetters_64_e0 (by decide +kernel)
theorem dX8_putLetters_79 : decode cX8_putLetters 79 = .ok (.aload_n 0, 1) := rd_chunk (k := 64) (i := 15) kmX8_putLetters_64_e0 (by decide +kernel)
theorem dX8_putLetters_80 : decode cX8_putLetters 80 = .ok (.getfield 27, 3) := rd_chunk (k := 64) (i := 16) kmX8_putLetters_64_e0 (by decide +kernel)
theorem dX8_putLetters_83 : decode cX8_putLetters 83 = .ok (.iload_n 2, 1) := rd_chunk (k := 64) (i := 19) kmX8_putLetters_64_e0 (by decide +kernel)
theorem dX8_putLetters_84 : decode cX8_putLetters 84 = .ok (.invokevirtual 103, 3) := rd_chunk (k := 64) (i := 20) kmX8_putLetters_64_e0 (by decide +kernel)
theorem dX8_putLetters_87 : decode cX8_putLetters 87 = .ok (.invokevirtual 106, 3) := rd_chunk (k := 64) (i := 23) kmX8_putLetters_64_e0 (by decide +kernel)
theorem dX8_putLetters_90 : decode cX8_putLetters 90 = .ok (.ifCond .eq 7, 3) := rd_chunk (k := 64) (i := 26) kmX8_putLetters_64_e0 (by decide +kernel)
theorem dX8_putLetters_93 : decode cX8_putLetters 93 = .ok (.iconst 1, 1) := rd_chunk (k := 64) (i := 29) kmX8_putLetters_64_e0 (by decide +kernel)
theorem dX8_putLetters_94 : decode cX8_putLetters 94 = .ok (.goto 4, 3) := rd_chunk (k := 64) (i := 30) kmX8_putLetters_64_e0 (by decide +kernel)
theorem dX8_putLetters_97 : decode cX8_putLetters 97 = .ok (.iconst 0, 1) := rd_chunk (k := 64) (i := 33) kmX8_putLetters_64_e0 (by decide +kernel)
theorem dX8_putLetters_98 : decode cX8_putLetters 98 = .ok (.iastore, 1) := rd_chunk (k := 64) (i := 34) kmX8_putLetters_64_e0 (by decide +kernel)
theorem dX8_putLetters_99 : decode cX8_putLetters 99 = .ok (.aload_n 0, 1) := rd_chunk (k := 64) (i := 35) kmX8_putLetters_64_e0 (by decide +kernel)
theorem dX8_putLetters_100 : decode cX8_putLetters 100 = .ok (.getfield 44, 3) := rd_chunk (k := 64) (i := 36) kmX8_putLetters_64_e0 (by decide +kernel)
theorem dX8_putLetters_103 : decode cX8_putLetters 103 = .ok (.iconst 5, 1) := rd_chunk (k := 64) (i := 39) kmX8_putLetters_64_e0 (by decide +kernel)
theorem dX8_putLetters_104 : decode cX8_putLetters 104 = .ok (.iload 4, 2) := rd_chunk (k := 64) (i := 40) kmX8_putLetters_64_e0 (by decide +kernel)
theorem dX8_putLetters_106 : decode cX8_putLetters 106 = .ok (.iastore, 1) := rd_chunk (k := 64) (i := 42) kmX8_putLetters_64_e0 (by decide +kernel)
theorem dX8_putLetters_107 : decode cX8_putLetters 107 = .ok (.aload_n 0, 1) := rd_chunk (k := 64) (i := 43) kmX8_putLetters_64_e0 (by decide +kernel)
theorem dX8_putLetters_108 : decode cX8_putLetters 108 = .ok (.getfield 44, 3) := rd_chunk (k := 64) (i := 44) kmX8_putLetters_64_e0 (by decide +kernel)
theorem dX8_putLetters_111 : decode cX8_putLetters 111 = .ok (.bipush 6, 2) := rd_chunk (k := 64) (i := 47) kmX8_putLetters_64_e0 (by decide +kernel)
theorem dX8_putLetters_113 : decode cX8_putLetters 113 = .ok (.iload_n 3, 1) := rd_chunk (k := 64) (i := 49) kmX8_putLetters_64_e0 (by decide +kernel)
theorem dX8_putLetters_114 : decode cX8_putLetters 114 = .ok (.iastore, 1) := rd_chunk (k := 64) (i := 50) kmX8_putLetters_64_e0 (by decide +kernel)
theorem dX8_putLetters_115 : decode cX8_putLetters 115 = .ok (.return_, 1) := rd_chunk (k := 64) (i := 51) kmX8_putLetters_64_e0 (by decide +kernel)
abbrev mX8_mindsFeud_0_e0 : ByteArray := .mk #[0x2a, 0xb4, 0x00, 0x25, 0x07, 0xb6, 0x00, 0x64, 0x9a, 0x00, 0x0e, 0x2a, 0xb4, 0x00, 0x29, 0x07, 0xb6, 0x00, 0x64, 0x99, 0x00, 0x07, 0x04, 0xa7, 0x00, 0x04, 0x03, 0x3e, 0x03, 0x36, 0x04, 0x15, 0x04, 0x2a, 0xb4, 0x00, 0x2f, 0xa2, 0x00, 0x5b, 0x1d, 0x99, 0x00, 0x57, 0x15, 0x04, 0x04, 0x60, 0x36, 0x05, 0x15, 0x05, 0x2a, 0xb4, 0x00, 0x2f, 0xa2, 0x00, 0x42, 0x15, 0x05, 0x15, 0x04, 0x06, 0x60, 0xa3, 0x00, 0x39, 0x2a, 0xb4, 0x00, 0x1b]
theorem kmX8_mindsFeud_0_e0 : CK cX8_mindsFeud 0 mX8_mindsFeud_0_e0 := ck_of (by decide +kernel)
theorem dX8_mindsFeud_0 : decode cX8_mindsFeud 0 = .ok (.aload_n 0, 1) := rd_chunk (k := 0) (i := 0) kmX8_mindsFeud_0_e0 (by decide +kernel)
theorem dX8_mindsFeud_1 : decode cX8_mindsFeud 1 = .ok (.getfield 37, 3) := rd_chunk (k := 0) (i := 1) kmX8_mindsFeud_0_e0 (by decide +kernel)
theorem dX8_mindsFeud_4 : decode cX8_mindsFeud 4 = .ok (.iconst 4, 1) := rd_chunk (k := 0) (i := 4) kmX8_mindsFeud_0_e0 (by decide +kernel)
theorem dX8_mindsFeud_5 : decode cX8_mindsFeud 5 = .ok (.invokevirtual 100, 3) := rd_chunk (k := 0) (i := 5) kmX8_mindsFeud_0_e0 (by decide +kernel)
theorem dX8_mindsFeud_8 : decode cX8_mindsFeud 8 = .ok (.ifCond .ne 14, 3) := rd_chunk (k := 0) (i := 8) kmX8_mindsFeud_0_e0 (by decide +kernel)
theorem dX8_mindsFeud_11 : decode cX8_mindsFeud 11 = .ok (.aload_n 0, 1) := rd_chunk (k := 0) (i := 11) kmX8_mindsFeud_0_e0 (by decide +kernel)
theorem dX8_mindsFeud_12 : decode cX8_mindsFeud 12 = .ok (.getfield 41, 3) := rd_chunk (k := 0) (i := 12) kmX8_mindsFeud_0_e0 (by decide +kernel)
theorem dX8_mindsFeud_15 : decode cX8_mindsFeud 15 = .ok (.iconst 4, 1) := rd_chunk (k := 0) (i := 15) kmX8_mindsFeud_0_e0 (by decide +kernel)
theorem dX8_mindsFeud_16 : decode cX8_mindsFeud 16 = .ok (.invokevirtual 100, 3) := rd_chunk (k := 0) (i := 16) kmX8_mindsFeud_0_e0 (by decide +kernel)
theorem dX8_mindsFeud_19 : decode cX8_mindsFeud 19 = .ok (.ifCond .eq 7, 3) := rd_chunk (k := 0) (i := 19) kmX8_mindsFeud_0_e0 (by decide +kernel)
theorem dX8_mindsFeud_22 : decode cX8_mindsFeud 22 = .ok (.iconst 1, 1) := rd_chunk (k := 0) (i := 22) kmX8_mindsFeud_0_e0 (by decide +kernel)
theorem dX8_mindsFeud_23 : decode cX8_mindsFeud 23 = .ok (.goto 4, 3) := rd_chunk (k := 0) (i := 23) kmX8_mindsFeud_0_e0 (by decide +kernel)
theorem dX8_mindsFeud_26 : decode cX8_mindsFeud 26 = .ok (.iconst 0, 1) := rd_chunk (k := 0) (i := 26) kmX8_mindsFeud_0_e0 (by decide +kernel)
theorem dX8_mindsFeud_27 : decode cX8_mindsFeud 27 = .ok (.istore_n 3, 1) := rd_chunk (k := 0) (i := 27) kmX8_mindsFeud_0_e0 (by decide +kernel)
theorem dX8_mindsFeud_28 : decode cX8_mindsFeud 28 = .ok (.iconst 0, 1) := rd_chunk (k := 0) (i := 28) kmX8_mindsFeud_0_e0 (by decide +kernel)
theorem dX8_mindsFeud_29 : decode cX8_mindsFeud 29 = .ok (.istore 4, 2) := rd_chunk (k := 0) (i := 29) kmX8_mindsFeud_0_e0 (by decide +kernel)
theorem dX8_mindsFeud_31 : decode cX8_mindsFeud 31 = .ok (.iload 4, 2) := rd_chunk (k := 0) (i := 31) kmX8_mindsFeud_0_e0 (by decide +kernel)
theorem dX8_mindsFeud_33 : decode cX8_mindsFeud 33 = .ok (.aload_n 0, 1) := rd_chunk (k := 0) (i := 33) kmX8_mindsFeud_0_e0 (by decide +kernel)
theorem dX8_mindsFeud_34 : decode cX8_mindsFeud 34 = .ok (.getfield 47, 3) := rd_chunk (k := 0) (i := 34) kmX8_mindsFeud_0_e0 (by decide +kernel)
theorem dX8_mindsFeud_37 : decode cX8_mindsFeud 37 = .ok (.if_icmp .ge 91, 3) := rd_chunk (k := 0) (i := 37) kmX8_mindsFeud_0_e0 (by decide +kernel)
theorem dX8_mindsFeud_40 : decode cX8_mindsFeud 40 = .ok (.iload_n 3, 1) := rd_chunk (k := 0) (i := 40) kmX8_mindsFeud_0_e0 (by decide +kernel)
theorem dX8_mindsFeud_41 : decode cX8_mindsFeud 41 = .ok (.ifCond .eq 87, 3) := rd_chunk (k := 0) (i := 41) kmX8_mindsFeud_0_e0 (by decide +kernel)
theorem dX8_mindsFeud_44 : decode cX8_mindsFeud 44 = .ok (.iload 4, 2) := rd_chunk (k := 0) (i := 44) kmX8_mindsFeud_0_e0 (by decide +kernel)
theorem dX8_mindsFeud_46 : decode cX8_mindsFeud 46 = .ok (.iconst 1, 1) := rd_chunk (k := 0) (i := 46) kmX8_mindsFeud_0_e0 (by decide +kernel)
theorem dX8_mindsFeud_47 : decode cX8_mindsFeud 47 = .ok (.iadd, 1) := rd_chunk (k := 0) (i := 47) kmX8_mindsFeud_0_e0 (by decide +kernel)
theorem dX8_mindsFeud_48 : decode cX8_mindsFeud 48 = .ok (.istore 5, 2) := rd_chunk (k := 0) (i := 48) kmX8_mindsFeud_0_e0 (by decide +kernel)
theorem dX8_mindsFeud_50 : decode cX8_mindsFeud 50 = .ok (.iload 5, 2) := rd_chunk (k := 0) (i := 50) kmX8_mindsFeud_0_e0 (by decide +kernel)
theorem dX8_mindsFeud_52 : decode cX8_mindsFeud 52 = .ok (.aload_n 0, 1) := rd_chunk (k := 0) (i := 52) kmX8_mindsFeud_0_e0 (by decide +kernel)
theorem dX8_mindsFeud_53 : decode cX8_mindsFeud 53 = .ok (.getfield 47, 3) := rd_chunk (k := 0) (i := 53) kmX8_mindsFeud_0_e0 (by decide +kernel)
theorem dX8_mindsFeud_56 : decode cX8_mindsFeud 56 = .ok (.if_icmp .ge 66, 3) := rd_chunk (k := 0) (i := 56) kmX8_mindsFeud_0_e0 (by decide +kernel)
theorem dX8_mindsFeud_59 : decode cX8_mindsFeud 59 = .ok (.iload 5, 2) := rd_chunk (k := 0) (i := 59) kmX8_mindsFeud_0_e0 (by decide +kernel)
theorem dX8_mindsFeud_61 : decode cX8_mindsFeud 61 = .ok (.iload 4, 2) := rd_chunk (k := 0) (i := 61) kmX8_mindsFeud_0_e0 (by decide +kernel)
theorem dX8_mindsFeud_63 : decode cX8_mindsFeud 63 = .ok (.iconst 3, 1) := rd_chunk (k := 0) (i := 63) kmX8_mindsFeud_0_e0 (by decide +kernel)
abbrev mX8_mindsFeud_64_e0 : ByteArray := .mk #[0x60, 0xa3, 0x00, 0x39, 0x2a, 0xb4, 0x00, 0x1b, 0x15, 0x04, 0xb6, 0x00, 0x67, 0x36, 0x06, 0x2a, 0xb4, 0x00, 0x1b, 0x15, 0x05, 0xb6, 0x00, 0x67, 0x36, 0x07, 0x15, 0x06, 0x1b, 0xa0, 0x00, 0x09, 0x15, 0x07, 0x1c, 0x9f, 0x00, 0x0f, 0x15, 0x06, 0x1c, 0xa0, 0x00, 0x0b, 0x15, 0x07, 0x1b, 0xa0, 0x00, 0x05, 0x04, 0xac, 0x84, 0x05, 0x01, 0xa7, 0xff, 0xbb, 0x84, 0x04, 0x01, 0xa7, 0xff, 0xa2, 0x03, 0xac]
theorem kmX8_mindsFeud_64_e0 : CK cX8_mindsFeud 64 mX8_mindsFeud_64_e0 := ck_of (by decide +kernel)
theorem dX8_mindsFeud_64 : decode cX8_mindsFeud 64 = .ok (.iadd, 1) := rd_chunk (k := 64) (i := 0) kmX8_mindsFeud_64_e0 (by decide +kernel)
theorem dX8_mindsFeud_65 : decode cX8_mindsFeud 65 = .ok (.if_icmp .gt 57, 3) := rd_chunk (k := 64) (i := 1) kmX8_mindsFeud_64_e0 (by decide +kernel)
theorem dX8_mindsFeud_68 : decode cX8_mindsFeud 68 = .ok (.aload_n 0, 1) := rd_chunk (k := 64) (i := 4) kmX8_mindsFeud_64_e0 (by decide +kernel)
theorem dX8_mindsFeud_69 : decode cX8_mindsFeud 69 = .ok (.getfield 27, 3) := rd_chunk (k := 64) (i := 5) kmX8_mindsFeud_64_e0 (by decide +kernel)
theorem dX8_mindsFeud_72 : decode cX8_mindsFeud 72 = .ok (.iload 4, 2) := rd_chunk (k := 64) (i := 8) kmX8_mindsFeud_64_e0 (by decide +kernel)
theorem dX8_mindsFeud_74 : decode cX8_mindsFeud 74 = .ok (.invokevirtual 103, 3) := rd_chunk (k := 64) (i := 10) kmX8_mindsFeud_64_e0 (by decide +kernel)
theorem dX8_mindsFeud_77 : decode cX8_mindsFeud 77 = .ok (.istore 6, 2) := rd_chunk (k := 64) (i := 13) kmX8_mindsFeud_64_e0 (by decide +kernel)
theorem dX8_mindsFeud_79 : decode cX8_mindsFeud 79 = .ok (.aload_n 0, 1) := rd_chunk (k := 64) (i := 15) kmX8_mindsFeud_64_e0 (by decide +kernel)
theorem dX8_mindsFeud_80 : decode cX8_mindsFeud 80 = .ok (.getfield 27, 3) := rd_chunk (k := 64) (i := 16) kmX8_mindsFeud_64_e0 (by decide +kernel)
theorem dX8_mindsFeud_83 : decode cX8_mindsFeud 83 = .ok (.iload 5, 2) := rd_chunk (k := 64) (i := 19) kmX8_mindsFeud_64_e0 (by decide +kernel)
theorem dX8_mindsFeud_85 : decode cX8_mindsFeud 85 = .ok (.invokevirtual 103, 3) := rd_chunk (k := 64) (i := 21) kmX8_mindsFeud_64_e0 (by decide +kernel)
theorem dX8_mindsFeud_88 : decode cX8_mindsFeud 88 = .ok (.istore 7, 2) := rd_chunk (k := 64) (i := 24) kmX8_mindsFeud_64_e0 (by decide +kernel)
theorem dX8_mindsFeud_90 : decode cX8_mindsFeud 90 = .ok (.iload 6, 2) := rd_chunk (k := 64) (i := 26) kmX8_mindsFeud_64_e0 (by decide +kernel)
theorem dX8_mindsFeud_92 : decode cX8_mindsFeud 92 = .ok (.iload_n 1, 1) := rd_chunk (k := 64) (i := 28) kmX8_mindsFeud_64_e0 (by decide +kernel)
theorem dX8_mindsFeud_93 : decode cX8_mindsFeud 93 = .ok (.if_icmp .ne 9, 3) := rd_chunk (k := 64) (i := 29) kmX8_mindsFeud_64_e0 (by decide +kernel)
theorem dX8_mindsFeud_96 : decode cX8_mindsFeud 96 = .ok (.iload 7, 2) := rd_chunk (k := 64) (i := 32) kmX8_mindsFeud_64_e0 (by decide +kernel)
theorem dX8_mindsFeud_98 : decode cX8_mindsFeud 98 = .ok (.iload_n 2, 1) := rd_chunk (k := 64) (i := 34) kmX8_mindsFeud_64_e0 (by decide +kernel)
theorem dX8_mindsFeud_99 : decode cX8_mindsFeud 99 = .ok (.if_icmp .eq 15, 3) := rd_chunk (k := 64) (i := 35) kmX8_mindsFeud_64_e0 (by decide +kernel)
theorem dX8_mindsFeud_102 : decode cX8_mindsFeud 102 = .ok (.iload 6, 2) := rd_chunk (k := 64) (i := 38) kmX8_mindsFeud_64_e0 (by decide +kernel)
theorem dX8_mindsFeud_104 : decode cX8_mindsFeud 104 = .ok (.iload_n 2, 1) := rd_chunk (k := 64) (i := 40) kmX8_mindsFeud_64_e0 (by decide +kernel)
theorem dX8_mindsFeud_105 : decode cX8_mindsFeud 105 = .ok (.if_icmp .ne 11, 3) := rd_chunk (k := 64) (i := 41) kmX8_mindsFeud_64_e0 (by decide +kernel)
theorem dX8_mindsFeud_108 : decode cX8_mindsFeud 108 = .ok (.iload 7, 2) := rd_chunk (k := 64) (i := 44) kmX8_mindsFeud_64_e0 (by decide +kernel)
theorem dX8_mindsFeud_110 : decode cX8_mindsFeud 110 = .ok (.iload_n 1, 1) := rd_chunk (k := 64) (i := 46) kmX8_mindsFeud_64_e0 (by decide +kernel)
theorem dX8_mindsFeud_111 : decode cX8_mindsFeud 111 = .ok (.if_icmp .ne 5, 3) := rd_chunk (k := 64) (i := 47) kmX8_mindsFeud_64_e0 (by decide +kernel)
theorem dX8_mindsFeud_114 : decode cX8_mindsFeud 114 = .ok (.iconst 1, 1) := rd_chunk (k := 64) (i := 50) kmX8_mindsFeud_64_e0 (by decide +kernel)
theorem dX8_mindsFeud_115 : decode cX8_mindsFeud 115 = .ok (.ireturn, 1) := rd_chunk (k := 64) (i := 51) kmX8_mindsFeud_64_e0 (by decide +kernel)
theorem dX8_mindsFeud_116 : decode cX8_mindsFeud 116 = .ok (.iinc 5 1, 3) := rd_chunk (k := 64) (i := 52) kmX8_mindsFeud_64_e0 (by decide +kernel)
theorem dX8_mindsFeud_119 : decode cX8_mindsFeud 119 = .ok (.goto (-69), 3) := rd_chunk (k := 64) (i := 55) kmX8_mindsFeud_64_e0 (by decide +kernel)
theorem dX8_mindsFeud_122 : decode cX8_mindsFeud 122 = .ok (.iinc 4 1, 3) := rd_chunk (k := 64) (i := 58) kmX8_mindsFeud_64_e0 (by decide +kernel)
theorem dX8_mindsFeud_125 : decode cX8_mindsFeud 125 = .ok (.goto (-94), 3) := rd_chunk (k := 64) (i := 61) kmX8_mindsFeud_64_e0 (by decide +kernel)
abbrev mX8_mindsFeud_128_e0 : ByteArray := .mk #[0x03, 0xac]
theorem kmX8_mindsFeud_128_e0 : CK cX8_mindsFeud 128 mX8_mindsFeud_128_e0 := ck_of (by decide +kernel)
theorem dX8_mindsFeud_128 : decode cX8_mindsFeud 128 = .ok (.iconst 0, 1) := rd_chunk (k := 128) (i := 0) kmX8_mindsFeud_128_e0 (by decide +kernel)
theorem dX8_mindsFeud_129 : decode cX8_mindsFeud 129 = .ok (.ireturn, 1) := rd_chunk (k := 128) (i := 1) kmX8_mindsFeud_128_e0 (by decide +kernel)
theorem dX9_init_0 : decode cX9_init 0 = .ok (.aload_n 0, 1) := by decide +kernel
theorem dX9_init_1 : decode cX9_init 1 = .ok (.invokespecial 3, 3) := by decide +kernel
theorem dX9_init_4 : decode cX9_init 4 = .ok (.aload_n 0, 1) := by decide +kernel
theorem dX9_init_5 : decode cX9_init 5 = .ok (.bipush 24, 2) := by decide +kernel
theorem dX9_init_7 : decode cX9_init 7 = .ok (.newarray .int, 2) := by decide +kernel
theorem dX9_init_9 : decode cX9_init 9 = .ok (.putfield 9, 3) := by decide +kernel
theorem dX9_init_12 : decode cX9_init 12 = .ok (.aload_n 0, 1) := by decide +kernel
theorem dX9_init_13 : decode cX9_init 13 = .ok (.bipush 24, 2) := by decide +kernel
theorem dX9_init_15 : decode cX9_init 15 = .ok (.newarray .int, 2) := by decide +kernel
theorem dX9_init_17 : decode cX9_init 17 = .ok (.putfield 15, 3) := by decide +kernel
theorem dX9_init_20 : decode cX9_init 20 = .ok (.aload_n 0, 1) := by decide +kernel
theorem dX9_init_21 : decode cX9_init 21 = .ok (.bipush 24, 2) := by decide +kernel
theorem dX9_init_23 : decode cX9_init 23 = .ok (.newarray .int, 2) := by decide +kernel
theorem dX9_init_25 : decode cX9_init 25 = .ok (.putfield 18, 3) := by decide +kernel
theorem dX9_init_28 : decode cX9_init 28 = .ok (.aload_n 0, 1) := by decide +kernel
theorem dX9_init_29 : decode cX9_init 29 = .ok (.bipush 24, 2) := by decide +kernel
theorem dX9_init_31 : decode cX9_init 31 = .ok (.newarray .int, 2) := by decide +kernel
theorem dX9_init_33 : decode cX9_init 33 = .ok (.putfield 21, 3) := by decide +kernel
theorem dX9_init_36 : decode cX9_init 36 = .ok (.aload_n 0, 1) := by decide +kernel
theorem dX9_init_37 : decode cX9_init 37 = .ok (.bipush 24, 2) := by decide +kernel
theorem dX9_init_39 : decode cX9_init 39 = .ok (.newarray .int, 2) := by decide +kernel
theorem dX9_init_41 : decode cX9_init 41 = .ok (.putfield 24, 3) := by decide +kernel
theorem dX9_init_44 : decode cX9_init 44 = .ok (.aload_n 0, 1) := by decide +kernel
theorem dX9_init_45 : decode cX9_init 45 = .ok (.iconst 0, 1) := by decide +kernel
theorem dX9_init_46 : decode cX9_init 46 = .ok (.putfield 27, 3) := by decide +kernel
theorem dX9_init_49 : decode cX9_init 49 = .ok (.aload_n 0, 1) := by decide +kernel
theorem dX9_init_50 : decode cX9_init 50 = .ok (.iconst 0, 1) := by decide +kernel
theorem dX9_init_51 : decode cX9_init 51 = .ok (.putfield 31, 3) := by decide +kernel
theorem dX9_init_54 : decode cX9_init 54 = .ok (.aload_n 0, 1) := by decide +kernel
theorem dX9_init_55 : decode cX9_init 55 = .ok (.iconst 0, 1) := by decide +kernel
theorem dX9_init_56 : decode cX9_init 56 = .ok (.putfield 34, 3) := by decide +kernel
theorem dX9_init_59 : decode cX9_init 59 = .ok (.aload_n 0, 1) := by decide +kernel
theorem dX9_init_60 : decode cX9_init 60 = .ok (.iconst (-1), 1) := by decide +kernel
theorem dX9_init_61 : decode cX9_init 61 = .ok (.putfield 37, 3) := by decide +kernel
theorem dX9_init_64 : decode cX9_init 64 = .ok (.return_, 1) := by decide +kernel
abbrev mX9_read_0_e0 : ByteArray := .mk #[0x2a, 0x03, 0xb5, 0x00, 0x1b, 0x2a, 0x03, 0xb5, 0x00, 0x1f, 0x2a, 0x02, 0xb5, 0x00, 0x25, 0x2a, 0x2b, 0xb4, 0x00, 0x28, 0x10, 0x4c, 0xb8, 0x00, 0x2b, 0xb5, 0x00, 0x22, 0x2b, 0xb4, 0x00, 0x28, 0x9e, 0x00, 0x07, 0x04, 0xa7, 0x00, 0x04, 0x03, 0x3d, 0x03, 0x3e, 0x1c, 0x99, 0x00, 0x25, 0x1d, 0x10, 0x4c, 0xa2, 0x00, 0x1f, 0x2a, 0x2b, 0xb6, 0x00, 0x31, 0x99, 0x00, 0x0f, 0x2a, 0x2b, 0xb6, 0x00, 0x35, 0x99, 0x00, 0x07, 0x04, 0xa7, 0x00]
theorem kmX9_read_0_e0 : CK cX9_read 0 mX9_read_0_e0 := ck_of (by decide +kernel)
theorem dX9_read_0 : decode cX9_read 0 = .ok (.aload_n 0, 1) := rd_chunk (k := 0) (i := 0) kmX9_read_0_e0 (by decide +kernel)
theorem dX9_read_1 : decode cX9_read 1 = .ok (.iconst 0, 1) := rd_chunk (k := 0) (i := 1) kmX9_read_0_e0 (by decide +kernel)
theorem dX9_read_2 : decode cX9_read 2 = .ok (.putfield 27, 3) := rd_chunk (k := 0) (i := 2) kmX9_read_0_e0 (by decide +kernel)
theorem dX9_read_5 : decode cX9_read 5 = .ok (.aload_n 0, 1) := rd_chunk (k := 0) (i := 5) kmX9_read_0_e0 (by decide +kernel)
theorem dX9_read_6 : decode cX9_read 6 = .ok (.iconst 0, 1) := rd_chunk (k := 0) (i := 6) kmX9_read_0_e0 (by decide +kernel)
theorem dX9_read_7 : decode cX9_read 7 = .ok (.putfield 31, 3) := rd_chunk (k := 0) (i := 7) kmX9_read_0_e0 (by decide +kernel)
theorem dX9_read_10 : decode cX9_read 10 = .ok (.aload_n 0, 1) := rd_chunk (k := 0) (i := 10) kmX9_read_0_e0 (by decide +kernel)
theorem dX9_read_11 : decode cX9_read 11 = .ok (.iconst (-1), 1) := rd_chunk (k := 0) (i := 11) kmX9_read_0_e0 (by decide +kernel)
theorem dX9_read_12 : decode cX9_read 12 = .ok (.putfield 37, 3) := rd_chunk (k := 0) (i := 12) kmX9_read_0_e0 (by decide +kernel)
theorem dX9_read_15 : decode cX9_read 15 = .ok (.aload_n 0, 1) := rd_chunk (k := 0) (i := 15) kmX9_read_0_e0 (by decide +kernel)
theorem dX9_read_16 : decode cX9_read 16 = .ok (.aload_n 1, 1) := rd_chunk (k := 0) (i := 16) kmX9_read_0_e0 (by decide +kernel)
theorem dX9_read_17 : decode cX9_read 17 = .ok (.getfield 40, 3) := rd_chunk (k := 0) (i := 17) kmX9_read_0_e0 (by decide +kernel)
theorem dX9_read_20 : decode cX9_read 20 = .ok (.bipush 76, 2) := rd_chunk (k := 0) (i := 20) kmX9_read_0_e0 (by decide +kernel)
theorem dX9_read_22 : decode cX9_read 22 = .ok (.invokestatic 43, 3) := rd_chunk (k := 0) (i := 22) kmX9_read_0_e0 (by decide +kernel)
theorem dX9_read_25 : decode cX9_read 25 = .ok (.putfield 34, 3) := rd_chunk (k := 0) (i := 25) kmX9_read_0_e0 (by decide +kernel)
theorem dX9_read_28 : decode cX9_read 28 = .ok (.aload_n 1, 1) := rd_chunk (k := 0) (i := 28) kmX9_read_0_e0 (by decide +kernel)
theorem dX9_read_29 : decode cX9_read 29 = .ok (.getfield 40, 3) := rd_chunk (k := 0) (i := 29) kmX9_read_0_e0 (by decide +kernel)
theorem dX9_read_32 : decode cX9_read 32 = .ok (.ifCond .le 7, 3) := rd_chunk (k := 0) (i := 32) kmX9_read_0_e0 (by decide +kernel)
theorem dX9_read_35 : decode cX9_read 35 = .ok (.iconst 1, 1) := rd_chunk (k := 0) (i := 35) kmX9_read_0_e0 (by decide +kernel)
theorem dX9_read_36 : decode cX9_read 36 = .ok (.goto 4, 3) := rd_chunk (k := 0) (i := 36) kmX9_read_0_e0 (by decide +kernel)
theorem dX9_read_39 : decode cX9_read 39 = .ok (.iconst 0, 1) := rd_chunk (k := 0) (i := 39) kmX9_read_0_e0 (by decide +kernel)
theorem dX9_read_40 : decode cX9_read 40 = .ok (.istore_n 2, 1) := rd_chunk (k := 0) (i := 40) kmX9_read_0_e0 (by decide +kernel)
theorem dX9_read_41 : decode cX9_read 41 = .ok (.iconst 0, 1) := rd_chunk (k := 0) (i := 41) kmX9_read_0_e0 (by decide +kernel)
theorem dX9_read_42 : decode cX9_read 42 = .ok (.istore_n 3, 1) := rd_chunk (k := 0) (i := 42) kmX9_read_0_e0 (by decide +kernel)
theorem dX9_read_43 : decode cX9_read 43 = .ok (.iload_n 2, 1) := rd_chunk (k := 0) (i := 43) kmX9_read_0_e0 (by decide +kernel)
theorem dX9_read_44 : decode cX9_read 44 = .ok (.ifCond .eq 37, 3) := rd_chunk (k := 0) (i := 44) kmX9_read_0_e0 (by decide +kernel)
theorem dX9_read_47 : decode cX9_read 47 = .ok (.iload_n 3, 1) := rd_chunk (k := 0) (i := 47) kmX9_read_0_e0 (by decide +kernel)
theorem dX9_read_48 : decode cX9_read 48 = .ok (.bipush 76, 2) := rd_chunk (k := 0) (i := 48) kmX9_read_0_e0 (by decide +kernel)
theorem dX9_read_50 : decode cX9_read 50 = .ok (.if_icmp .ge 31, 3) := rd_chunk (k := 0) (i := 50) kmX9_read_0_e0 (by decide +kernel)
theorem dX9_read_53 : decode cX9_read 53 = .ok (.aload_n 0, 1) := rd_chunk (k := 0) (i := 53) kmX9_read_0_e0 (by decide +kernel)
theorem dX9_read_54 : decode cX9_read 54 = .ok (.aload_n 1, 1) := rd_chunk (k := 0) (i := 54) kmX9_read_0_e0 (by decide +kernel)
theorem dX9_read_55 : decode cX9_read 55 = .ok (.invokevirtual 49, 3) := rd_chunk (k := 0) (i := 55) kmX9_read_0_e0 (by decide +kernel)
theorem dX9_read_58 : decode cX9_read 58 = .ok (.ifCond .eq 15, 3) := rd_chunk (k := 0) (i := 58) kmX9_read_0_e0 (by decide +kernel)
theorem dX9_read_61 : decode cX9_read 61 = .ok (.aload_n 0, 1) := rd_chunk (k := 0) (i := 61) kmX9_read_0_e0 (by decide +kernel)
theorem dX9_read_62 : decode cX9_read 62 = .ok (.aload_n 1, 1) := rd_chunk (k := 0) (i := 62) kmX9_read_0_e0 (by decide +kernel)
theorem dX9_read_63 : decode cX9_read 63 = .ok (.invokevirtual 53, 3) := rd_chunk (k := 0) (i := 63) kmX9_read_0_e0 (by decide +kernel)
abbrev mX9_read_64_e0 : ByteArray := .mk #[0x00, 0x35, 0x99, 0x00, 0x07, 0x04, 0xa7, 0x00, 0x04, 0x03, 0x3d, 0x84, 0x03, 0x01, 0xa7, 0xff, 0xdd, 0x2a, 0xb4, 0x00, 0x25, 0x02, 0xa0, 0x00, 0x12, 0x2b, 0xb4, 0x00, 0x28, 0x10, 0x4c, 0xa4, 0x00, 0x09, 0x2a, 0x10, 0x4c, 0xb5, 0x00, 0x25, 0x2a, 0xb4, 0x00, 0x25, 0x02, 0x9f, 0x00, 0x0a, 0x02, 0x2a, 0xb4, 0x00, 0x25, 0x64, 0xac, 0x2a, 0xb4, 0x00, 0x1b, 0x05, 0xa2, 0x00, 0x08, 0x10, 0x9c, 0xa7, 0x00, 0x07, 0x2a, 0xb4, 0x00, 0x1b]
theorem kmX9_read_64_e0 : CK cX9_read 64 mX9_read_64_e0 := ck_of (by decide +kernel)
theorem dX9_read_66 : decode cX9_read 66 = .ok (.ifCond .eq 7, 3) := rd_chunk (k := 64) (i := 2) kmX9_read_64_e0 (by decide +kernel)
theorem dX9_read_69 : decode cX9_read 69 = .ok (.iconst 1, 1) := rd_chunk (k := 64) (i := 5) kmX9_read_64_e0 (by decide +kernel)
theorem dX9_read_70 : decode cX9_read 70 = .ok (.goto 4, 3) := rd_chunk (k := 64) (i := 6) kmX9_read_64_e0 (by decide +kernel)
theorem dX9_read_73 : decode cX9_read 73 = .ok (.iconst 0, 1) := rd_chunk (k := 64) (i := 9) kmX9_read_64_e0 (by decide +kernel)
theorem dX9_read_74 : decode cX9_read 74 = .ok (.istore_n 2, 1) := rd_chunk (k := 64) (i := 10) kmX9_read_64_e0 (by decide +kernel)
theorem dX9_read_75 : decode cX9_read 75 = .ok (.iinc 3 1, 3) := rd_chunk (k := 64) (i := 11) kmX9_read_64_e0 (by decide +kernel)
theorem dX9_read_78 : decode cX9_read 78 = .ok (.goto (-35), 3) := rd_chunk (k := 64) (i := 14) kmX9_read_64_e0 (by decide +kernel)
theorem dX9_read_81 : decode cX9_read 81 = .ok (.aload_n 0, 1) := rd_chunk (k := 64) (i := 17) kmX9_read_64_e0 (by decide +kernel)
theorem dX9_read_82 : decode cX9_read 82 = .ok (.getfield 37, 3) := rd_chunk (k := 64) (i := 18) kmX9_read_64_e0 (by decide +kernel)
theorem dX9_read_85 : decode cX9_read 85 = .ok (.iconst (-1), 1) := rd_chunk (k := 64) (i := 21) kmX9_read_64_e0 (by decide +kernel)
theorem dX9_read_86 : decode cX9_read 86 = .ok (.if_icmp .ne 18, 3) := rd_chunk (k := 64) (i := 22) kmX9_read_64_e0 (by decide +kernel)
theorem dX9_read_89 : decode cX9_read 89 = .ok (.aload_n 1, 1) := rd_chunk (k := 64) (i := 25) kmX9_read_64_e0 (by decide +kernel)
theorem dX9_read_90 : decode cX9_read 90 = .ok (.getfield 40, 3) := rd_chunk (k := 64) (i := 26) kmX9_read_64_e0 (by decide +kernel)
theorem dX9_read_93 : decode cX9_read 93 = .ok (.bipush 76, 2) := rd_chunk (k := 64) (i := 29) kmX9_read_64_e0 (by decide +kernel)
theorem dX9_read_95 : decode cX9_read 95 = .ok (.if_icmp .le 9, 3) := rd_chunk (k := 64) (i := 31) kmX9_read_64_e0 (by decide +kernel)
theorem dX9_read_98 : decode cX9_read 98 = .ok (.aload_n 0, 1) := rd_chunk (k := 64) (i := 34) kmX9_read_64_e0 (by decide +kernel)
theorem dX9_read_99 : decode cX9_read 99 = .ok (.bipush 76, 2) := rd_chunk (k := 64) (i := 35) kmX9_read_64_e0 (by decide +kernel)
theorem dX9_read_101 : decode cX9_read 101 = .ok (.putfield 37, 3) := rd_chunk (k := 64) (i := 37) kmX9_read_64_e0 (by decide +kernel)
theorem dX9_read_104 : decode cX9_read 104 = .ok (.aload_n 0, 1) := rd_chunk (k := 64) (i := 40) kmX9_read_64_e0 (by decide +kernel)
theorem dX9_read_105 : decode cX9_read 105 = .ok (.getfield 37, 3) := rd_chunk (k := 64) (i := 41) kmX9_read_64_e0 (by decide +kernel)
theorem dX9_read_108 : decode cX9_read 108 = .ok (.iconst (-1), 1) := rd_chunk (k := 64) (i := 44) kmX9_read_64_e0 (by decide +kernel)
theorem dX9_read_109 : decode cX9_read 109 = .ok (.if_icmp .eq 10, 3) := rd_chunk (k := 64) (i := 45) kmX9_read_64_e0 (by decide +kernel)
theorem dX9_read_112 : decode cX9_read 112 = .ok (.iconst (-1), 1) := rd_chunk (k := 64) (i := 48) kmX9_read_64_e0 (by decide +kernel)
theorem dX9_read_113 : decode cX9_read 113 = .ok (.aload_n 0, 1) := rd_chunk (k := 64) (i := 49) kmX9_read_64_e0 (by decide +kernel)
theorem dX9_read_114 : decode cX9_read 114 = .ok (.getfield 37, 3) := rd_chunk (k := 64) (i := 50) kmX9_read_64_e0 (by decide +kernel)
theorem dX9_read_117 : decode cX9_read 117 = .ok (.isub, 1) := rd_chunk (k := 64) (i := 53) kmX9_read_64_e0 (by decide +kernel)
theorem dX9_read_118 : decode cX9_read 118 = .ok (.ireturn, 1) := rd_chunk (k := 64) (i := 54) kmX9_read_64_e0 (by decide +kernel)
theorem dX9_read_119 : decode cX9_read 119 = .ok (.aload_n 0, 1) := rd_chunk (k := 64) (i := 55) kmX9_read_64_e0 (by decide +kernel)
theorem dX9_read_120 : decode cX9_read 120 = .ok (.getfield 27, 3) := rd_chunk (k := 64) (i := 56) kmX9_read_64_e0 (by decide +kernel)
theorem dX9_read_123 : decode cX9_read 123 = .ok (.iconst 2, 1) := rd_chunk (k := 64) (i := 59) kmX9_read_64_e0 (by decide +kernel)
theorem dX9_read_124 : decode cX9_read 124 = .ok (.if_icmp .ge 8, 3) := rd_chunk (k := 64) (i := 60) kmX9_read_64_e0 (by decide +kernel)
theorem dX9_read_127 : decode cX9_read 127 = .ok (.bipush (-100), 2) := rd_chunk (k := 64) (i := 63) kmX9_read_64_e0 (by decide +kernel)
abbrev mX9_read_128_e0 : ByteArray := .mk #[0x9c, 0xa7, 0x00, 0x07, 0x2a, 0xb4, 0x00, 0x1b, 0xac]
theorem kmX9_read_128_e0 : CK cX9_read 128 mX9_read_128_e0 := ck_of (by decide +kernel)
theorem dX9_read_129 : decode cX9_read 129 = .ok (.goto 7, 3) := rd_chunk (k := 128) (i := 1) kmX9_read_128_e0 (by decide +kernel)
theorem dX9_read_132 : decode cX9_read 132 = .ok (.aload_n 0, 1) := rd_chunk (k := 128) (i := 4) kmX9_read_128_e0 (by decide +kernel)
theorem dX9_read_133 : decode cX9_read 133 = .ok (.getfield 27, 3) := rd_chunk (k := 128) (i := 5) kmX9_read_128_e0 (by decide +kernel)
theorem dX9_read_136 : decode cX9_read 136 = .ok (.ireturn, 1) := rd_chunk (k := 128) (i := 8) kmX9_read_128_e0 (by decide +kernel)
theorem dX9_look_0 : decode cX9_look 0 = .ok (.aload_n 0, 1) := by decide +kernel
theorem dX9_look_1 : decode cX9_look 1 = .ok (.getfield 31, 3) := by decide +kernel
theorem dX9_look_4 : decode cX9_look 4 = .ok (.aload_n 0, 1) := by decide +kernel
theorem dX9_look_5 : decode cX9_look 5 = .ok (.getfield 34, 3) := by decide +kernel
theorem dX9_look_8 : decode cX9_look 8 = .ok (.if_icmp .ge 14, 3) := by decide +kernel
theorem dX9_look_11 : decode cX9_look 11 = .ok (.aload_n 1, 1) := by decide +kernel
theorem dX9_look_12 : decode cX9_look 12 = .ok (.aload_n 0, 1) := by decide +kernel
theorem dX9_look_13 : decode cX9_look 13 = .ok (.getfield 31, 3) := by decide +kernel
theorem dX9_look_16 : decode cX9_look 16 = .ok (.invokevirtual 56, 3) := by decide +kernel
theorem dX9_look_19 : decode cX9_look 19 = .ok (.goto 4, 3) := by decide +kernel
theorem dX9_look_22 : decode cX9_look 22 = .ok (.iconst (-1), 1) := by decide +kernel
theorem dX9_look_23 : decode cX9_look 23 = .ok (.ireturn, 1) := by decide +kernel
theorem dX9_fail_0 : decode cX9_fail 0 = .ok (.aload_n 0, 1) := by decide +kernel
theorem dX9_fail_1 : decode cX9_fail 1 = .ok (.iload_n 1, 1) := by decide +kernel
theorem dX9_fail_2 : decode cX9_fail 2 = .ok (.putfield 37, 3) := by decide +kernel
theorem dX9_fail_5 : decode cX9_fail 5 = .ok (.iconst 0, 1) := by decide +kernel
theorem dX9_fail_6 : decode cX9_fail 6 = .ok (.ireturn, 1) := by decide +kernel
theorem dX9_readBreak_0 : decode cX9_readBreak 0 = .ok (.aload_n 0, 1) := by decide +kernel
theorem dX9_readBreak_1 : decode cX9_readBreak 1 = .ok (.getfield 31, 3) := by decide +kernel
theorem dX9_readBreak_4 : decode cX9_readBreak 4 = .ok (.aload_n 0, 1) := by decide +kernel
theorem dX9_readBreak_5 : decode cX9_readBreak 5 = .ok (.getfield 34, 3) := by decide +kernel
theorem dX9_readBreak_8 : decode cX9_readBreak 8 = .ok (.if_icmp .ge 17, 3) := by decide +kernel
theorem dX9_readBreak_11 : decode cX9_readBreak 11 = .ok (.aload_n 0, 1) := by decide +kernel
theorem dX9_readBreak_12 : decode cX9_readBreak 12 = .ok (.aload_n 1, 1) := by decide +kernel
theorem dX9_readBreak_13 : decode cX9_readBreak 13 = .ok (.bipush 59, 2) := by decide +kernel
theorem dX9_readBreak_15 : decode cX9_readBreak 15 = .ok (.invokevirtual 60, 3) := by decide +kernel
theorem dX9_readBreak_18 : decode cX9_readBreak 18 = .ok (.ifCond .eq 7, 3) := by decide +kernel
theorem dX9_readBreak_21 : decode cX9_readBreak 21 = .ok (.iconst 1, 1) := by decide +kernel
theorem dX9_readBreak_22 : decode cX9_readBreak 22 = .ok (.goto 4, 3) := by decide +kernel
theorem dX9_readBreak_25 : decode cX9_readBreak 25 = .ok (.iconst 0, 1) := by decide +kernel
theorem dX9_readBreak_26 : decode cX9_readBreak 26 = .ok (.ireturn, 1) := by decide +kernel
theorem dX9_readMark_0 : decode cX9_readMark 0 = .ok (.aload_n 0, 1) := by decide +kernel
theorem dX9_readMark_1 : decode cX9_readMark 1 = .ok (.aload_n 1, 1) := by decide +kernel
theorem dX9_readMark_2 : decode cX9_readMark 2 = .ok (.invokevirtual 64, 3) := by decide +kernel
theorem dX9_readMark_5 : decode cX9_readMark 5 = .ok (.iload_n 2, 1) := by decide +kernel
theorem dX9_readMark_6 : decode cX9_readMark 6 = .ok (.if_icmp .eq 12, 3) := by decide +kernel
theorem dX9_readMark_9 : decode cX9_readMark 9 = .ok (.aload_n 0, 1) := by decide +kernel
theorem dX9_readMark_10 : decode cX9_readMark 10 = .ok (.aload_n 0, 1) := by decide +kernel
theorem dX9_readMark_11 : decode cX9_readMark 11 = .ok (.getfield 31, 3) := by decide +kernel
theorem dX9_readMark_14 : decode cX9_readMark 14 = .ok (.invokevirtual 68, 3) := by decide +kernel
theorem dX9_readMark_17 : decode cX9_readMark 17 = .ok (.ireturn, 1) := by decide +kernel
theorem dX9_readMark_18 : decode cX9_readMark 18 = .ok (.aload_n 0, 1) := by decide +kernel
theorem dX9_readMark_19 : decode cX9_readMark 19 = .ok (.dup, 1) := by decide +kernel
theorem dX9_readMark_20 : decode cX9_readMark 20 = .ok (.getfield 31, 3) := by decide +kernel
theorem dX9_readMark_23 : decode cX9_readMark 23 = .ok (.iconst 1, 1) := by decide +kernel
theorem dX9_readMark_24 : decode cX9_readMark 24 = .ok (.iadd, 1) := by decide +kernel
theorem dX9_readMark_25 : decode cX9_readMark 25 = .ok (.putfield 31, 3) := by decide +kernel
theorem dX9_readMark_28 : decode cX9_readMark 28 = .ok (.iconst 1, 1) := by decide +kernel
theorem dX9_readMark_29 : decode cX9_readMark 29 = .ok (.ireturn, 1) := by decide +kernel
abbrev mX9_readNumber_0_e0 : ByteArray := .mk #[0x03, 0x36, 0x04, 0x03, 0x36, 0x05, 0x15, 0x05, 0x05, 0xa2, 0x00, 0x2e, 0x2a, 0x2b, 0xb6, 0x00, 0x40, 0xb8, 0x00, 0x48, 0x99, 0x00, 0x23, 0x15, 0x04, 0x10, 0x0a, 0x68, 0x2a, 0x2b, 0xb6, 0x00, 0x40, 0x60, 0x10, 0x30, 0x64, 0x36, 0x04, 0x2a, 0x59, 0xb4, 0x00, 0x1f, 0x04, 0x60, 0xb5, 0x00, 0x1f, 0x84, 0x05, 0x01, 0xa7, 0xff, 0xd2, 0x15, 0x05, 0x9e, 0x00, 0x13, 0x15, 0x04, 0x1c, 0xa1, 0x00, 0x0d, 0x15, 0x04, 0x1d, 0xa3, 0x00, 0x07]
theorem kmX9_readNumber_0_e0 : CK cX9_readNumber 0 mX9_readNumber_0_e0 := ck_of (by decide +kernel)
theorem dX9_readNumber_0 : decode cX9_readNumber 0 = .ok (.iconst 0, 1) := rd_chunk (k := 0) (i := 0) kmX9_readNumber_0_e0 (by decide +kernel)
theorem dX9_readNumber_1 : decode cX9_readNumber 1 = .ok (.istore 4, 2) := rd_chunk (k := 0) (i := 1) kmX9_readNumber_0_e0 (by decide +kernel)
theorem dX9_readNumber_3 : decode cX9_readNumber 3 = .ok (.iconst 0, 1) := rd_chunk (k := 0) (i := 3) kmX9_readNumber_0_e0 (by decide +kernel)
theorem dX9_readNumber_4 : decode cX9_readNumber 4 = .ok (.istore 5, 2) := rd_chunk (k := 0) (i := 4) kmX9_readNumber_0_e0 (by decide +kernel)
theorem dX9_readNumber_6 : decode cX9_readNumber 6 = .ok (.iload 5, 2) := rd_chunk (k := 0) (i := 6) kmX9_readNumber_0_e0 (by decide +kernel)
theorem dX9_readNumber_8 : decode cX9_readNumber 8 = .ok (.iconst 2, 1) := rd_chunk (k := 0) (i := 8) kmX9_readNumber_0_e0 (by decide +kernel)
theorem dX9_readNumber_9 : decode cX9_readNumber 9 = .ok (.if_icmp .ge 46, 3) := rd_chunk (k := 0) (i := 9) kmX9_readNumber_0_e0 (by decide +kernel)
theorem dX9_readNumber_12 : decode cX9_readNumber 12 = .ok (.aload_n 0, 1) := rd_chunk (k := 0) (i := 12) kmX9_readNumber_0_e0 (by decide +kernel)
theorem dX9_readNumber_13 : decode cX9_readNumber 13 = .ok (.aload_n 1, 1) := rd_chunk (k := 0) (i := 13) kmX9_readNumber_0_e0 (by decide +kernel)
theorem dX9_readNumber_14 : decode cX9_readNumber 14 = .ok (.invokevirtual 64, 3) := rd_chunk (k := 0) (i := 14) kmX9_readNumber_0_e0 (by decide +kernel)
theorem dX9_readNumber_17 : decode cX9_readNumber 17 = .ok (.invokestatic 72, 3) := rd_chunk (k := 0) (i := 17) kmX9_readNumber_0_e0 (by decide +kernel)
theorem dX9_readNumber_20 : decode cX9_readNumber 20 = .ok (.ifCond .eq 35, 3) := rd_chunk (k := 0) (i := 20) kmX9_readNumber_0_e0 (by decide +kernel)
theorem dX9_readNumber_23 : decode cX9_readNumber 23 = .ok (.iload 4, 2) := rd_chunk (k := 0) (i := 23) kmX9_readNumber_0_e0 (by decide +kernel)
theorem dX9_readNumber_25 : decode cX9_readNumber 25 = .ok (.bipush 10, 2) := rd_chunk (k := 0) (i := 25) kmX9_readNumber_0_e0 (by decide +kernel)
theorem dX9_readNumber_27 : decode cX9_readNumber 27 = .ok (.imul, 1) := rd_chunk (k := 0) (i := 27) kmX9_readNumber_0_e0 (by decide +kernel)
theorem dX9_readNumber_28 : decode cX9_readNumber 28 = .ok (.aload_n 0, 1) := rd_chunk (k := 0) (i := 28) kmX9_readNumber_0_e0 (by decide +kernel)
theorem dX9_readNumber_29 : decode cX9_readNumber 29 = .ok (.aload_n 1, 1) := rd_chunk (k := 0) (i := 29) kmX9_readNumber_0_e0 (by decide +kernel)
theorem dX9_readNumber_30 : decode cX9_readNumber 30 = .ok (.invokevirtual 64, 3) := rd_chunk (k := 0) (i := 30) kmX9_readNumber_0_e0 (by decide +kernel)
theorem dX9_readNumber_33 : decode cX9_readNumber 33 = .ok (.iadd, 1) := rd_chunk (k := 0) (i := 33) kmX9_readNumber_0_e0 (by decide +kernel)
theorem dX9_readNumber_34 : decode cX9_readNumber 34 = .ok (.bipush 48, 2) := rd_chunk (k := 0) (i := 34) kmX9_readNumber_0_e0 (by decide +kernel)
theorem dX9_readNumber_36 : decode cX9_readNumber 36 = .ok (.isub, 1) := rd_chunk (k := 0) (i := 36) kmX9_readNumber_0_e0 (by decide +kernel)
theorem dX9_readNumber_37 : decode cX9_readNumber 37 = .ok (.istore 4, 2) := rd_chunk (k := 0) (i := 37) kmX9_readNumber_0_e0 (by decide +kernel)
theorem dX9_readNumber_39 : decode cX9_readNumber 39 = .ok (.aload_n 0, 1) := rd_chunk (k := 0) (i := 39) kmX9_readNumber_0_e0 (by decide +kernel)
theorem dX9_readNumber_40 : decode cX9_readNumber 40 = .ok (.dup, 1) := rd_chunk (k := 0) (i := 40) kmX9_readNumber_0_e0 (by decide +kernel)
theorem dX9_readNumber_41 : decode cX9_readNumber 41 = .ok (.getfield 31, 3) := rd_chunk (k := 0) (i := 41) kmX9_readNumber_0_e0 (by decide +kernel)
theorem dX9_readNumber_44 : decode cX9_readNumber 44 = .ok (.iconst 1, 1) := rd_chunk (k := 0) (i := 44) kmX9_readNumber_0_e0 (by decide +kernel)
theorem dX9_readNumber_45 : decode cX9_readNumber 45 = .ok (.iadd, 1) := rd_chunk (k := 0) (i := 45) kmX9_readNumber_0_e0 (by decide +kernel)
theorem dX9_readNumber_46 : decode cX9_readNumber 46 = .ok (.putfield 31, 3) := rd_chunk (k := 0) (i := 46) kmX9_readNumber_0_e0 (by decide +kernel)
theorem dX9_readNumber_49 : decode cX9_readNumber 49 = .ok (.iinc 5 1, 3) := rd_chunk (k := 0) (i := 49) kmX9_readNumber_0_e0 (by decide +kernel)
theorem dX9_readNumber_52 : decode cX9_readNumber 52 = .ok (.goto (-46), 3) := rd_chunk (k := 0) (i := 52) kmX9_readNumber_0_e0 (by decide +kernel)
theorem dX9_readNumber_55 : decode cX9_readNumber 55 = .ok (.iload 5, 2) := rd_chunk (k := 0) (i := 55) kmX9_readNumber_0_e0 (by decide +kernel)
theorem dX9_readNumber_57 : decode cX9_readNumber 57 = .ok (.ifCond .le 19, 3) := rd_chunk (k := 0) (i := 57) kmX9_readNumber_0_e0 (by decide +kernel)
theorem dX9_readNumber_60 : decode cX9_readNumber 60 = .ok (.iload 4, 2) := rd_chunk (k := 0) (i := 60) kmX9_readNumber_0_e0 (by decide +kernel)
theorem dX9_readNumber_62 : decode cX9_readNumber 62 = .ok (.iload_n 2, 1) := rd_chunk (k := 0) (i := 62) kmX9_readNumber_0_e0 (by decide +kernel)
theorem dX9_readNumber_63 : decode cX9_readNumber 63 = .ok (.if_icmp .lt 13, 3) := rd_chunk (k := 0) (i := 63) kmX9_readNumber_0_e0 (by decide +kernel)
abbrev mX9_readNumber_64_e0 : ByteArray := .mk #[0x00, 0x0d, 0x15, 0x04, 0x1d, 0xa3, 0x00, 0x07, 0x04, 0xa7, 0x00, 0x04, 0x03, 0x36, 0x06, 0x15, 0x06, 0x9a, 0x00, 0x1a, 0x2a, 0x15, 0x05, 0x9a, 0x00, 0x0a, 0x2a, 0xb4, 0x00, 0x1f, 0xa7, 0x00, 0x09, 0x2a, 0xb4, 0x00, 0x1f, 0x04, 0x64, 0xb6, 0x00, 0x44, 0x57, 0x15, 0x06, 0x99, 0x00, 0x08, 0x15, 0x04, 0xa7, 0x00, 0x04, 0x02, 0xac]
theorem kmX9_readNumber_64_e0 : CK cX9_readNumber 64 mX9_readNumber_64_e0 := ck_of (by decide +kernel)
theorem dX9_readNumber_66 : decode cX9_readNumber 66 = .ok (.iload 4, 2) := rd_chunk (k := 64) (i := 2) kmX9_readNumber_64_e0 (by decide +kernel)
theorem dX9_readNumber_68 : decode cX9_readNumber 68 = .ok (.iload_n 3, 1) := rd_chunk (k := 64) (i := 4) kmX9_readNumber_64_e0 (by decide +kernel)
theorem dX9_readNumber_69 : decode cX9_readNumber 69 = .ok (.if_icmp .gt 7, 3) := rd_chunk (k := 64) (i := 5) kmX9_readNumber_64_e0 (by decide +kernel)
theorem dX9_readNumber_72 : decode cX9_readNumber 72 = .ok (.iconst 1, 1) := rd_chunk (k := 64) (i := 8) kmX9_readNumber_64_e0 (by decide +kernel)
theorem dX9_readNumber_73 : decode cX9_readNumber 73 = .ok (.goto 4, 3) := rd_chunk (k := 64) (i := 9) kmX9_readNumber_64_e0 (by decide +kernel)
theorem dX9_readNumber_76 : decode cX9_readNumber 76 = .ok (.iconst 0, 1) := rd_chunk (k := 64) (i := 12) kmX9_readNumber_64_e0 (by decide +kernel)
theorem dX9_readNumber_77 : decode cX9_readNumber 77 = .ok (.istore 6, 2) := rd_chunk (k := 64) (i := 13) kmX9_readNumber_64_e0 (by decide +kernel)
theorem dX9_readNumber_79 : decode cX9_readNumber 79 = .ok (.iload 6, 2) := rd_chunk (k := 64) (i := 15) kmX9_readNumber_64_e0 (by decide +kernel)
theorem dX9_readNumber_81 : decode cX9_readNumber 81 = .ok (.ifCond .ne 26, 3) := rd_chunk (k := 64) (i := 17) kmX9_readNumber_64_e0 (by decide +kernel)
theorem dX9_readNumber_84 : decode cX9_readNumber 84 = .ok (.aload_n 0, 1) := rd_chunk (k := 64) (i := 20) kmX9_readNumber_64_e0 (by decide +kernel)
theorem dX9_readNumber_85 : decode cX9_readNumber 85 = .ok (.iload 5, 2) := rd_chunk (k := 64) (i := 21) kmX9_readNumber_64_e0 (by decide +kernel)
theorem dX9_readNumber_87 : decode cX9_readNumber 87 = .ok (.ifCond .ne 10, 3) := rd_chunk (k := 64) (i := 23) kmX9_readNumber_64_e0 (by decide +kernel)
theorem dX9_readNumber_90 : decode cX9_readNumber 90 = .ok (.aload_n 0, 1) := rd_chunk (k := 64) (i := 26) kmX9_readNumber_64_e0 (by decide +kernel)
theorem dX9_readNumber_91 : decode cX9_readNumber 91 = .ok (.getfield 31, 3) := rd_chunk (k := 64) (i := 27) kmX9_readNumber_64_e0 (by decide +kernel)
theorem dX9_readNumber_94 : decode cX9_readNumber 94 = .ok (.goto 9, 3) := rd_chunk (k := 64) (i := 30) kmX9_readNumber_64_e0 (by decide +kernel)
theorem dX9_readNumber_97 : decode cX9_readNumber 97 = .ok (.aload_n 0, 1) := rd_chunk (k := 64) (i := 33) kmX9_readNumber_64_e0 (by decide +kernel)
theorem dX9_readNumber_98 : decode cX9_readNumber 98 = .ok (.getfield 31, 3) := rd_chunk (k := 64) (i := 34) kmX9_readNumber_64_e0 (by decide +kernel)
theorem dX9_readNumber_101 : decode cX9_readNumber 101 = .ok (.iconst 1, 1) := rd_chunk (k := 64) (i := 37) kmX9_readNumber_64_e0 (by decide +kernel)
theorem dX9_readNumber_102 : decode cX9_readNumber 102 = .ok (.isub, 1) := rd_chunk (k := 64) (i := 38) kmX9_readNumber_64_e0 (by decide +kernel)
theorem dX9_readNumber_103 : decode cX9_readNumber 103 = .ok (.invokevirtual 68, 3) := rd_chunk (k := 64) (i := 39) kmX9_readNumber_64_e0 (by decide +kernel)
theorem dX9_readNumber_106 : decode cX9_readNumber 106 = .ok (.pop, 1) := rd_chunk (k := 64) (i := 42) kmX9_readNumber_64_e0 (by decide +kernel)
theorem dX9_readNumber_107 : decode cX9_readNumber 107 = .ok (.iload 6, 2) := rd_chunk (k := 64) (i := 43) kmX9_readNumber_64_e0 (by decide +kernel)
theorem dX9_readNumber_109 : decode cX9_readNumber 109 = .ok (.ifCond .eq 8, 3) := rd_chunk (k := 64) (i := 45) kmX9_readNumber_64_e0 (by decide +kernel)
theorem dX9_readNumber_112 : decode cX9_readNumber 112 = .ok (.iload 4, 2) := rd_chunk (k := 64) (i := 48) kmX9_readNumber_64_e0 (by decide +kernel)
theorem dX9_readNumber_114 : decode cX9_readNumber 114 = .ok (.goto 4, 3) := rd_chunk (k := 64) (i := 50) kmX9_readNumber_64_e0 (by decide +kernel)
theorem dX9_readNumber_117 : decode cX9_readNumber 117 = .ok (.iconst (-1), 1) := rd_chunk (k := 64) (i := 53) kmX9_readNumber_64_e0 (by decide +kernel)
theorem dX9_readNumber_118 : decode cX9_readNumber 118 = .ok (.ireturn, 1) := rd_chunk (k := 64) (i := 54) kmX9_readNumber_64_e0 (by decide +kernel)
theorem dX9_readFamily_0 : decode cX9_readFamily 0 = .ok (.aload_n 0, 1) := by decide +kernel
theorem dX9_readFamily_1 : decode cX9_readFamily 1 = .ok (.aload_n 1, 1) := by decide +kernel
theorem dX9_readFamily_2 : decode cX9_readFamily 2 = .ok (.invokevirtual 64, 3) := by decide +kernel
theorem dX9_readFamily_5 : decode cX9_readFamily 5 = .ok (.bipush 48, 2) := by decide +kernel
theorem dX9_readFamily_7 : decode cX9_readFamily 7 = .ok (.isub, 1) := by decide +kernel
theorem dX9_readFamily_8 : decode cX9_readFamily 8 = .ok (.istore_n 2, 1) := by decide +kernel
theorem dX9_readFamily_9 : decode cX9_readFamily 9 = .ok (.iload_n 2, 1) := by decide +kernel
theorem dX9_readFamily_10 : decode cX9_readFamily 10 = .ok (.invokestatic 75, 3) := by decide +kernel
theorem dX9_readFamily_13 : decode cX9_readFamily 13 = .ok (.ifCond .ne 14, 3) := by decide +kernel
theorem dX9_readFamily_16 : decode cX9_readFamily 16 = .ok (.aload_n 0, 1) := by decide +kernel
theorem dX9_readFamily_17 : decode cX9_readFamily 17 = .ok (.aload_n 0, 1) := by decide +kernel
theorem dX9_readFamily_18 : decode cX9_readFamily 18 = .ok (.getfield 31, 3) := by decide +kernel
theorem dX9_readFamily_21 : decode cX9_readFamily 21 = .ok (.invokevirtual 68, 3) := by decide +kernel
theorem dX9_readFamily_24 : decode cX9_readFamily 24 = .ok (.pop, 1) := by decide +kernel
theorem dX9_readFamily_25 : decode cX9_readFamily 25 = .ok (.iconst (-1), 1) := by decide +kernel
theorem dX9_readFamily_26 : decode cX9_readFamily 26 = .ok (.ireturn, 1) := by decide +kernel
theorem dX9_readFamily_27 : decode cX9_readFamily 27 = .ok (.aload_n 0, 1) := by decide +kernel
theorem dX9_readFamily_28 : decode cX9_readFamily 28 = .ok (.dup, 1) := by decide +kernel
theorem dX9_readFamily_29 : decode cX9_readFamily 29 = .ok (.getfield 31, 3) := by decide +kernel
theorem dX9_readFamily_32 : decode cX9_readFamily 32 = .ok (.iconst 1, 1) := by decide +kernel
theorem dX9_readFamily_33 : decode cX9_readFamily 33 = .ok (.iadd, 1) := by decide +kernel
theorem dX9_readFamily_34 : decode cX9_readFamily 34 = .ok (.putfield 31, 3) := by decide +kernel
theorem dX9_readFamily_37 : decode cX9_readFamily 37 = .ok (.iload_n 2, 1) := by decide +kernel
theorem dX9_readFamily_38 : decode cX9_readFamily 38 = .ok (.ireturn, 1) := by decide +kernel
abbrev mX9_readLine_0_e0 : ByteArray := .mk #[0x2a, 0xb4, 0x00, 0x1b, 0x10, 0x18, 0xa1, 0x00, 0x0c, 0x2a, 0x2a, 0xb4, 0x00, 0x1f, 0xb6, 0x00, 0x44, 0xac, 0x2a, 0x2b, 0x04, 0x10, 0x1e, 0xb6, 0x00, 0x4e, 0x3d, 0x1c, 0x02, 0x9f, 0x00, 0x0d, 0x2a, 0x2b, 0x10, 0x2c, 0xb6, 0x00, 0x3c, 0x9a, 0x00, 0x05, 0x03, 0xac, 0x2a, 0x2b, 0x03, 0x10, 0x09, 0xb6, 0x00, 0x4e, 0x3e, 0x1d, 0x02, 0x9f, 0x00, 0x0d, 0x2a, 0x2b, 0x10, 0x2c, 0xb6, 0x00, 0x3c, 0x9a, 0x00, 0x05, 0x03, 0xac, 0x2a, 0x2b]
theorem kmX9_readLine_0_e0 : CK cX9_readLine 0 mX9_readLine_0_e0 := ck_of (by decide +kernel)
theorem dX9_readLine_0 : decode cX9_readLine 0 = .ok (.aload_n 0, 1) := rd_chunk (k := 0) (i := 0) kmX9_readLine_0_e0 (by decide +kernel)
theorem dX9_readLine_1 : decode cX9_readLine 1 = .ok (.getfield 27, 3) := rd_chunk (k := 0) (i := 1) kmX9_readLine_0_e0 (by decide +kernel)
theorem dX9_readLine_4 : decode cX9_readLine 4 = .ok (.bipush 24, 2) := rd_chunk (k := 0) (i := 4) kmX9_readLine_0_e0 (by decide +kernel)
theorem dX9_readLine_6 : decode cX9_readLine 6 = .ok (.if_icmp .lt 12, 3) := rd_chunk (k := 0) (i := 6) kmX9_readLine_0_e0 (by decide +kernel)
theorem dX9_readLine_9 : decode cX9_readLine 9 = .ok (.aload_n 0, 1) := rd_chunk (k := 0) (i := 9) kmX9_readLine_0_e0 (by decide +kernel)
theorem dX9_readLine_10 : decode cX9_readLine 10 = .ok (.aload_n 0, 1) := rd_chunk (k := 0) (i := 10) kmX9_readLine_0_e0 (by decide +kernel)
theorem dX9_readLine_11 : decode cX9_readLine 11 = .ok (.getfield 31, 3) := rd_chunk (k := 0) (i := 11) kmX9_readLine_0_e0 (by decide +kernel)
theorem dX9_readLine_14 : decode cX9_readLine 14 = .ok (.invokevirtual 68, 3) := rd_chunk (k := 0) (i := 14) kmX9_readLine_0_e0 (by decide +kernel)
theorem dX9_readLine_17 : decode cX9_readLine 17 = .ok (.ireturn, 1) := rd_chunk (k := 0) (i := 17) kmX9_readLine_0_e0 (by decide +kernel)
theorem dX9_readLine_18 : decode cX9_readLine 18 = .ok (.aload_n 0, 1) := rd_chunk (k := 0) (i := 18) kmX9_readLine_0_e0 (by decide +kernel)
theorem dX9_readLine_19 : decode cX9_readLine 19 = .ok (.aload_n 1, 1) := rd_chunk (k := 0) (i := 19) kmX9_readLine_0_e0 (by decide +kernel)
theorem dX9_readLine_20 : decode cX9_readLine 20 = .ok (.iconst 1, 1) := rd_chunk (k := 0) (i := 20) kmX9_readLine_0_e0 (by decide +kernel)
theorem dX9_readLine_21 : decode cX9_readLine 21 = .ok (.bipush 30, 2) := rd_chunk (k := 0) (i := 21) kmX9_readLine_0_e0 (by decide +kernel)
theorem dX9_readLine_23 : decode cX9_readLine 23 = .ok (.invokevirtual 78, 3) := rd_chunk (k := 0) (i := 23) kmX9_readLine_0_e0 (by decide +kernel)
theorem dX9_readLine_26 : decode cX9_readLine 26 = .ok (.istore_n 2, 1) := rd_chunk (k := 0) (i := 26) kmX9_readLine_0_e0 (by decide +kernel)
theorem dX9_readLine_27 : decode cX9_readLine 27 = .ok (.iload_n 2, 1) := rd_chunk (k := 0) (i := 27) kmX9_readLine_0_e0 (by decide +kernel)
theorem dX9_readLine_28 : decode cX9_readLine 28 = .ok (.iconst (-1), 1) := rd_chunk (k := 0) (i := 28) kmX9_readLine_0_e0 (by decide +kernel)
theorem dX9_readLine_29 : decode cX9_readLine 29 = .ok (.if_icmp .eq 13, 3) := rd_chunk (k := 0) (i := 29) kmX9_readLine_0_e0 (by decide +kernel)
theorem dX9_readLine_32 : decode cX9_readLine 32 = .ok (.aload_n 0, 1) := rd_chunk (k := 0) (i := 32) kmX9_readLine_0_e0 (by decide +kernel)
theorem dX9_readLine_33 : decode cX9_readLine 33 = .ok (.aload_n 1, 1) := rd_chunk (k := 0) (i := 33) kmX9_readLine_0_e0 (by decide +kernel)
theorem dX9_readLine_34 : decode cX9_readLine 34 = .ok (.bipush 44, 2) := rd_chunk (k := 0) (i := 34) kmX9_readLine_0_e0 (by decide +kernel)
theorem dX9_readLine_36 : decode cX9_readLine 36 = .ok (.invokevirtual 60, 3) := rd_chunk (k := 0) (i := 36) kmX9_readLine_0_e0 (by decide +kernel)
theorem dX9_readLine_39 : decode cX9_readLine 39 = .ok (.ifCond .ne 5, 3) := rd_chunk (k := 0) (i := 39) kmX9_readLine_0_e0 (by decide +kernel)
theorem dX9_readLine_42 : decode cX9_readLine 42 = .ok (.iconst 0, 1) := rd_chunk (k := 0) (i := 42) kmX9_readLine_0_e0 (by decide +kernel)
theorem dX9_readLine_43 : decode cX9_readLine 43 = .ok (.ireturn, 1) := rd_chunk (k := 0) (i := 43) kmX9_readLine_0_e0 (by decide +kernel)
theorem dX9_readLine_44 : decode cX9_readLine 44 = .ok (.aload_n 0, 1) := rd_chunk (k := 0) (i := 44) kmX9_readLine_0_e0 (by decide +kernel)
theorem dX9_readLine_45 : decode cX9_readLine 45 = .ok (.aload_n 1, 1) := rd_chunk (k := 0) (i := 45) kmX9_readLine_0_e0 (by decide +kernel)
theorem dX9_readLine_46 : decode cX9_readLine 46 = .ok (.iconst 0, 1) := rd_chunk (k := 0) (i := 46) kmX9_readLine_0_e0 (by decide +kernel)
theorem dX9_readLine_47 : decode cX9_readLine 47 = .ok (.bipush 9, 2) := rd_chunk (k := 0) (i := 47) kmX9_readLine_0_e0 (by decide +kernel)
theorem dX9_readLine_49 : decode cX9_readLine 49 = .ok (.invokevirtual 78, 3) := rd_chunk (k := 0) (i := 49) kmX9_readLine_0_e0 (by decide +kernel)
theorem dX9_readLine_52 : decode cX9_readLine 52 = .ok (.istore_n 3, 1) := rd_chunk (k := 0) (i := 52) kmX9_readLine_0_e0 (by decide +kernel)
theorem dX9_readLine_53 : decode cX9_readLine 53 = .ok (.iload_n 3, 1) := rd_chunk (k := 0) (i := 53) kmX9_readLine_0_e0 (by decide +kernel)
theorem dX9_readLine_54 : decode cX9_readLine 54 = .ok (.iconst (-1), 1) := rd_chunk (k := 0) (i := 54) kmX9_readLine_0_e0 (by decide +kernel)
theorem dX9_readLine_55 : decode cX9_readLine 55 = .ok (.if_icmp .eq 13, 3) := rd_chunk (k := 0) (i := 55) kmX9_readLine_0_e0 (by decide +kernel)
theorem dX9_readLine_58 : decode cX9_readLine 58 = .ok (.aload_n 0, 1) := rd_chunk (k := 0) (i := 58) kmX9_readLine_0_e0 (by decide +kernel)
theorem dX9_readLine_59 : decode cX9_readLine 59 = .ok (.aload_n 1, 1) := rd_chunk (k := 0) (i := 59) kmX9_readLine_0_e0 (by decide +kernel)
theorem dX9_readLine_60 : decode cX9_readLine 60 = .ok (.bipush 44, 2) := rd_chunk (k := 0) (i := 60) kmX9_readLine_0_e0 (by decide +kernel)
theorem dX9_readLine_62 : decode cX9_readLine 62 = .ok (.invokevirtual 60, 3) := rd_chunk (k := 0) (i := 62) kmX9_readLine_0_e0 (by decide +kernel)
abbrev mX9_readLine_64_e0 : ByteArray := .mk #[0x3c, 0x9a, 0x00, 0x05, 0x03, 0xac, 0x2a, 0x2b, 0x03, 0x10, 0x14, 0xb6, 0x00, 0x4e, 0x36, 0x04, 0x15, 0x04, 0x02, 0x9f, 0x00, 0x0d, 0x2a, 0x2b, 0x10, 0x40, 0xb6, 0x00, 0x3c, 0x9a, 0x00, 0x05, 0x03, 0xac, 0x2a, 0x2b, 0xb6, 0x00, 0x52, 0x36, 0x05, 0x15, 0x05, 0x02, 0xa0, 0x00, 0x05, 0x03, 0xac, 0x2a, 0x2b, 0xb6, 0x00, 0x40, 0x10, 0x77, 0xa0, 0x00, 0x07, 0x04, 0xa7, 0x00, 0x04, 0x03, 0x36, 0x06, 0x2a, 0x59, 0xb4, 0x00, 0x1f, 0x15]
theorem kmX9_readLine_64_e0 : CK cX9_readLine 64 mX9_readLine_64_e0 := ck_of (by decide +kernel)
theorem dX9_readLine_65 : decode cX9_readLine 65 = .ok (.ifCond .ne 5, 3) := rd_chunk (k := 64) (i := 1) kmX9_readLine_64_e0 (by decide +kernel)
theorem dX9_readLine_68 : decode cX9_readLine 68 = .ok (.iconst 0, 1) := rd_chunk (k := 64) (i := 4) kmX9_readLine_64_e0 (by decide +kernel)
theorem dX9_readLine_69 : decode cX9_readLine 69 = .ok (.ireturn, 1) := rd_chunk (k := 64) (i := 5) kmX9_readLine_64_e0 (by decide +kernel)
theorem dX9_readLine_70 : decode cX9_readLine 70 = .ok (.aload_n 0, 1) := rd_chunk (k := 64) (i := 6) kmX9_readLine_64_e0 (by decide +kernel)
theorem dX9_readLine_71 : decode cX9_readLine 71 = .ok (.aload_n 1, 1) := rd_chunk (k := 64) (i := 7) kmX9_readLine_64_e0 (by decide +kernel)
theorem dX9_readLine_72 : decode cX9_readLine 72 = .ok (.iconst 0, 1) := rd_chunk (k := 64) (i := 8) kmX9_readLine_64_e0 (by decide +kernel)
theorem dX9_readLine_73 : decode cX9_readLine 73 = .ok (.bipush 20, 2) := rd_chunk (k := 64) (i := 9) kmX9_readLine_64_e0 (by decide +kernel)
theorem dX9_readLine_75 : decode cX9_readLine 75 = .ok (.invokevirtual 78, 3) := rd_chunk (k := 64) (i := 11) kmX9_readLine_64_e0 (by decide +kernel)
theorem dX9_readLine_78 : decode cX9_readLine 78 = .ok (.istore 4, 2) := rd_chunk (k := 64) (i := 14) kmX9_readLine_64_e0 (by decide +kernel)
theorem dX9_readLine_80 : decode cX9_readLine 80 = .ok (.iload 4, 2) := rd_chunk (k := 64) (i := 16) kmX9_readLine_64_e0 (by decide +kernel)
theorem dX9_readLine_82 : decode cX9_readLine 82 = .ok (.iconst (-1), 1) := rd_chunk (k := 64) (i := 18) kmX9_readLine_64_e0 (by decide +kernel)
theorem dX9_readLine_83 : decode cX9_readLine 83 = .ok (.if_icmp .eq 13, 3) := rd_chunk (k := 64) (i := 19) kmX9_readLine_64_e0 (by decide +kernel)
theorem dX9_readLine_86 : decode cX9_readLine 86 = .ok (.aload_n 0, 1) := rd_chunk (k := 64) (i := 22) kmX9_readLine_64_e0 (by decide +kernel)
theorem dX9_readLine_87 : decode cX9_readLine 87 = .ok (.aload_n 1, 1) := rd_chunk (k := 64) (i := 23) kmX9_readLine_64_e0 (by decide +kernel)
theorem dX9_readLine_88 : decode cX9_readLine 88 = .ok (.bipush 64, 2) := rd_chunk (k := 64) (i := 24) kmX9_readLine_64_e0 (by decide +kernel)
theorem dX9_readLine_90 : decode cX9_readLine 90 = .ok (.invokevirtual 60, 3) := rd_chunk (k := 64) (i := 26) kmX9_readLine_64_e0 (by decide +kernel)
theorem dX9_readLine_93 : decode cX9_readLine 93 = .ok (.ifCond .ne 5, 3) := rd_chunk (k := 64) (i := 29) kmX9_readLine_64_e0 (by decide +kernel)
theorem dX9_readLine_96 : decode cX9_readLine 96 = .ok (.iconst 0, 1) := rd_chunk (k := 64) (i := 32) kmX9_readLine_64_e0 (by decide +kernel)
theorem dX9_readLine_97 : decode cX9_readLine 97 = .ok (.ireturn, 1) := rd_chunk (k := 64) (i := 33) kmX9_readLine_64_e0 (by decide +kernel)
theorem dX9_readLine_98 : decode cX9_readLine 98 = .ok (.aload_n 0, 1) := rd_chunk (k := 64) (i := 34) kmX9_readLine_64_e0 (by decide +kernel)
theorem dX9_readLine_99 : decode cX9_readLine 99 = .ok (.aload_n 1, 1) := rd_chunk (k := 64) (i := 35) kmX9_readLine_64_e0 (by decide +kernel)
theorem dX9_readLine_100 : decode cX9_readLine 100 = .ok (.invokevirtual 82, 3) := rd_chunk (k := 64) (i := 36) kmX9_readLine_64_e0 (by decide +kernel)
theorem dX9_readLine_103 : decode cX9_readLine 103 = .ok (.istore 5, 2) := rd_chunk (k := 64) (i := 39) kmX9_readLine_64_e0 (by decide +kernel)
theorem dX9_readLine_105 : decode cX9_readLine 105 = .ok (.iload 5, 2) := rd_chunk (k := 64) (i := 41) kmX9_readLine_64_e0 (by decide +kernel)
theorem dX9_readLine_107 : decode cX9_readLine 107 = .ok (.iconst (-1), 1) := rd_chunk (k := 64) (i := 43) kmX9_readLine_64_e0 (by decide +kernel)
theorem dX9_readLine_108 : decode cX9_readLine 108 = .ok (.if_icmp .ne 5, 3) := rd_chunk (k := 64) (i := 44) kmX9_readLine_64_e0 (by decide +kernel)
theorem dX9_readLine_111 : decode cX9_readLine 111 = .ok (.iconst 0, 1) := rd_chunk (k := 64) (i := 47) kmX9_readLine_64_e0 (by decide +kernel)
theorem dX9_readLine_112 : decode cX9_readLine 112 = .ok (.ireturn, 1) := rd_chunk (k := 64) (i := 48) kmX9_readLine_64_e0 (by decide +kernel)
theorem dX9_readLine_113 : decode cX9_readLine 113 = .ok (.aload_n 0, 1) := rd_chunk (k := 64) (i := 49) kmX9_readLine_64_e0 (by decide +kernel)
theorem dX9_readLine_114 : decode cX9_readLine 114 = .ok (.aload_n 1, 1) := rd_chunk (k := 64) (i := 50) kmX9_readLine_64_e0 (by decide +kernel)
theorem dX9_readLine_115 : decode cX9_readLine 115 = .ok (.invokevirtual 64, 3) := rd_chunk (k := 64) (i := 51) kmX9_readLine_64_e0 (by decide +kernel)
theorem dX9_readLine_118 : decode cX9_readLine 118 = .ok (.bipush 119, 2) := rd_chunk (k := 64) (i := 54) kmX9_readLine_64_e0 (by decide +kernel)
theorem dX9_readLine_120 : decode cX9_readLine 120 = .ok (.if_icmp .ne 7, 3) := rd_chunk (k := 64) (i := 56) kmX9_readLine_64_e0 (by decide +kernel)
theorem dX9_readLine_123 : decode cX9_readLine 123 = .ok (.iconst 1, 1) := rd_chunk (k := 64) (i := 59) kmX9_readLine_64_e0 (by decide +kernel)
theorem dX9_readLine_124 : decode cX9_readLine 124 = .ok (.goto 4, 3) := rd_chunk (k := 64) (i := 60) kmX9_readLine_64_e0 (by decide +kernel)
theorem dX9_readLine_127 : decode cX9_readLine 127 = .ok (.iconst 0, 1) := rd_chunk (k := 64) (i := 63) kmX9_readLine_64_e0 (by decide +kernel)
abbrev mX9_readLine_128_e0 : ByteArray := .mk #[0x36, 0x06, 0x2a, 0x59, 0xb4, 0x00, 0x1f, 0x15, 0x06, 0x60, 0xb5, 0x00, 0x1f, 0x2a, 0x2b, 0xb6, 0x00, 0x55, 0x36, 0x07, 0x03, 0x36, 0x08, 0x15, 0x08, 0x15, 0x07, 0xa2, 0x00, 0x15, 0x2a, 0x1c, 0x1d, 0x15, 0x04, 0x15, 0x06, 0x15, 0x05, 0xb6, 0x00, 0x58, 0x84, 0x08, 0x01, 0xa7, 0xff, 0xea, 0x15, 0x07, 0x02, 0x9f, 0x00, 0x07, 0x04, 0xa7, 0x00, 0x04, 0x03, 0xac]
theorem kmX9_readLine_128_e0 : CK cX9_readLine 128 mX9_readLine_128_e0 := ck_of (by decide +kernel)
theorem dX9_readLine_128 : decode cX9_readLine 128 = .ok (.istore 6, 2) := rd_chunk (k := 128) (i := 0) kmX9_readLine_128_e0 (by decide +kernel)
theorem dX9_readLine_130 : decode cX9_readLine 130 = .ok (.aload_n 0, 1) := rd_chunk (k := 128) (i := 2) kmX9_readLine_128_e0 (by decide +kernel)
theorem dX9_readLine_131 : decode cX9_readLine 131 = .ok (.dup, 1) := rd_chunk (k := 128) (i := 3) kmX9_readLine_128_e0 (by decide +kernel)
theorem dX9_readLine_132 : decode cX9_readLine 132 = .ok (.getfield 31, 3) := rd_chunk (k := 128) (i := 4) kmX9_readLine_128_e0 (by decide +kernel)
theorem dX9_readLine_135 : decode cX9_readLine 135 = .ok (.iload 6, 2) := rd_chunk (k := 128) (i := 7) kmX9_readLine_128_e0 (by decide +kernel)
theorem dX9_readLine_137 : decode cX9_readLine 137 = .ok (.iadd, 1) := rd_chunk (k := 128) (i := 9) kmX9_readLine_128_e0 (by decide +kernel)
theorem dX9_readLine_138 : decode cX9_readLine 138 = .ok (.putfield 31, 3) := rd_chunk (k := 128) (i := 10) kmX9_readLine_128_e0 (by decide +kernel)
theorem dX9_readLine_141 : decode cX9_readLine 141 = .ok (.aload_n 0, 1) := rd_chunk (k := 128) (i := 13) kmX9_readLine_128_e0 (by decide +kernel)
theorem dX9_readLine_142 : decode cX9_readLine 142 = .ok (.aload_n 1, 1) := rd_chunk (k := 128) (i := 14) kmX9_readLine_128_e0 (by decide +kernel)
theorem dX9_readLine_143 : decode cX9_readLine 143 = .ok (.invokevirtual 85, 3) := rd_chunk (k := 128) (i := 15) kmX9_readLine_128_e0 (by decide +kernel)
theorem dX9_readLine_146 : decode cX9_readLine 146 = .ok (.istore 7, 2) := rd_chunk (k := 128) (i := 18) kmX9_readLine_128_e0 (by decide +kernel)
theorem dX9_readLine_148 : decode cX9_readLine 148 = .ok (.iconst 0, 1) := rd_chunk (k := 128) (i := 20) kmX9_readLine_128_e0 (by decide +kernel)
theorem dX9_readLine_149 : decode cX9_readLine 149 = .ok (.istore 8, 2) := rd_chunk (k := 128) (i := 21) kmX9_readLine_128_e0 (by decide +kernel)
theorem dX9_readLine_151 : decode cX9_readLine 151 = .ok (.iload 8, 2) := rd_chunk (k := 128) (i := 23) kmX9_readLine_128_e0 (by decide +kernel)
theorem dX9_readLine_153 : decode cX9_readLine 153 = .ok (.iload 7, 2) := rd_chunk (k := 128) (i := 25) kmX9_readLine_128_e0 (by decide +kernel)
theorem dX9_readLine_155 : decode cX9_readLine 155 = .ok (.if_icmp .ge 21, 3) := rd_chunk (k := 128) (i := 27) kmX9_readLine_128_e0 (by decide +kernel)
theorem dX9_readLine_158 : decode cX9_readLine 158 = .ok (.aload_n 0, 1) := rd_chunk (k := 128) (i := 30) kmX9_readLine_128_e0 (by decide +kernel)
theorem dX9_readLine_159 : decode cX9_readLine 159 = .ok (.iload_n 2, 1) := rd_chunk (k := 128) (i := 31) kmX9_readLine_128_e0 (by decide +kernel)
theorem dX9_readLine_160 : decode cX9_readLine 160 = .ok (.iload_n 3, 1) := rd_chunk (k := 128) (i := 32) kmX9_readLine_128_e0 (by decide +kernel)
theorem dX9_readLine_161 : decode cX9_readLine 161 = .ok (.iload 4, 2) := rd_chunk (k := 128) (i := 33) kmX9_readLine_128_e0 (by decide +kernel)
theorem dX9_readLine_163 : decode cX9_readLine 163 = .ok (.iload 6, 2) := rd_chunk (k := 128) (i := 35) kmX9_readLine_128_e0 (by decide +kernel)
theorem dX9_readLine_165 : decode cX9_readLine 165 = .ok (.iload 5, 2) := rd_chunk (k := 128) (i := 37) kmX9_readLine_128_e0 (by decide +kernel)
theorem dX9_readLine_167 : decode cX9_readLine 167 = .ok (.invokevirtual 88, 3) := rd_chunk (k := 128) (i := 39) kmX9_readLine_128_e0 (by decide +kernel)
theorem dX9_readLine_170 : decode cX9_readLine 170 = .ok (.iinc 8 1, 3) := rd_chunk (k := 128) (i := 42) kmX9_readLine_128_e0 (by decide +kernel)
theorem dX9_readLine_173 : decode cX9_readLine 173 = .ok (.goto (-22), 3) := rd_chunk (k := 128) (i := 45) kmX9_readLine_128_e0 (by decide +kernel)
theorem dX9_readLine_176 : decode cX9_readLine 176 = .ok (.iload 7, 2) := rd_chunk (k := 128) (i := 48) kmX9_readLine_128_e0 (by decide +kernel)
theorem dX9_readLine_178 : decode cX9_readLine 178 = .ok (.iconst (-1), 1) := rd_chunk (k := 128) (i := 50) kmX9_readLine_128_e0 (by decide +kernel)
theorem dX9_readLine_179 : decode cX9_readLine 179 = .ok (.if_icmp .eq 7, 3) := rd_chunk (k := 128) (i := 51) kmX9_readLine_128_e0 (by decide +kernel)
theorem dX9_readLine_182 : decode cX9_readLine 182 = .ok (.iconst 1, 1) := rd_chunk (k := 128) (i := 54) kmX9_readLine_128_e0 (by decide +kernel)
theorem dX9_readLine_183 : decode cX9_readLine 183 = .ok (.goto 4, 3) := rd_chunk (k := 128) (i := 55) kmX9_readLine_128_e0 (by decide +kernel)
theorem dX9_readLine_186 : decode cX9_readLine 186 = .ok (.iconst 0, 1) := rd_chunk (k := 128) (i := 58) kmX9_readLine_128_e0 (by decide +kernel)
theorem dX9_readLine_187 : decode cX9_readLine 187 = .ok (.ireturn, 1) := rd_chunk (k := 128) (i := 59) kmX9_readLine_128_e0 (by decide +kernel)
theorem dX9_readTimes_0 : decode cX9_readTimes 0 = .ok (.aload_n 0, 1) := by decide +kernel
theorem dX9_readTimes_1 : decode cX9_readTimes 1 = .ok (.aload_n 1, 1) := by decide +kernel
theorem dX9_readTimes_2 : decode cX9_readTimes 2 = .ok (.invokevirtual 64, 3) := by decide +kernel
theorem dX9_readTimes_5 : decode cX9_readTimes 5 = .ok (.bipush 42, 2) := by decide +kernel
theorem dX9_readTimes_7 : decode cX9_readTimes 7 = .ok (.if_icmp .eq 5, 3) := by decide +kernel
theorem dX9_readTimes_10 : decode cX9_readTimes 10 = .ok (.iconst 1, 1) := by decide +kernel
theorem dX9_readTimes_11 : decode cX9_readTimes 11 = .ok (.ireturn, 1) := by decide +kernel
theorem dX9_readTimes_12 : decode cX9_readTimes 12 = .ok (.aload_n 0, 1) := by decide +kernel
theorem dX9_readTimes_13 : decode cX9_readTimes 13 = .ok (.dup, 1) := by decide +kernel
theorem dX9_readTimes_14 : decode cX9_readTimes 14 = .ok (.getfield 31, 3) := by decide +kernel
theorem dX9_readTimes_17 : decode cX9_readTimes 17 = .ok (.iconst 1, 1) := by decide +kernel
theorem dX9_readTimes_18 : decode cX9_readTimes 18 = .ok (.iadd, 1) := by decide +kernel
theorem dX9_readTimes_19 : decode cX9_readTimes 19 = .ok (.putfield 31, 3) := by decide +kernel
theorem dX9_readTimes_22 : decode cX9_readTimes 22 = .ok (.aload_n 0, 1) := by decide +kernel
theorem dX9_readTimes_23 : decode cX9_readTimes 23 = .ok (.aload_n 1, 1) := by decide +kernel
theorem dX9_readTimes_24 : decode cX9_readTimes 24 = .ok (.iconst 1, 1) := by decide +kernel
theorem dX9_readTimes_25 : decode cX9_readTimes 25 = .ok (.bipush 24, 2) := by decide +kernel
theorem dX9_readTimes_27 : decode cX9_readTimes 27 = .ok (.aload_n 0, 1) := by decide +kernel
theorem dX9_readTimes_28 : decode cX9_readTimes 28 = .ok (.getfield 27, 3) := by decide +kernel
theorem dX9_readTimes_31 : decode cX9_readTimes 31 = .ok (.isub, 1) := by decide +kernel
theorem dX9_readTimes_32 : decode cX9_readTimes 32 = .ok (.invokevirtual 78, 3) := by decide +kernel
theorem dX9_readTimes_35 : decode cX9_readTimes 35 = .ok (.ireturn, 1) := by decide +kernel
theorem dX9_put_0 : decode cX9_put 0 = .ok (.aload_n 0, 1) := by decide +kernel
theorem dX9_put_1 : decode cX9_put 1 = .ok (.getfield 27, 3) := by decide +kernel
theorem dX9_put_4 : decode cX9_put 4 = .ok (.bipush 24, 2) := by decide +kernel
theorem dX9_put_6 : decode cX9_put 6 = .ok (.if_icmp .ge 65, 3) := by decide +kernel
theorem dX9_put_9 : decode cX9_put 9 = .ok (.aload_n 0, 1) := by decide +kernel
theorem dX9_put_10 : decode cX9_put 10 = .ok (.getfield 9, 3) := by decide +kernel
theorem dX9_put_13 : decode cX9_put 13 = .ok (.aload_n 0, 1) := by decide +kernel
theorem dX9_put_14 : decode cX9_put 14 = .ok (.getfield 27, 3) := by decide +kernel
theorem dX9_put_17 : decode cX9_put 17 = .ok (.iload_n 1, 1) := by decide +kernel
theorem dX9_put_18 : decode cX9_put 18 = .ok (.iastore, 1) := by decide +kernel
theorem dX9_put_19 : decode cX9_put 19 = .ok (.aload_n 0, 1) := by decide +kernel
theorem dX9_put_20 : decode cX9_put 20 = .ok (.getfield 15, 3) := by decide +kernel
theorem dX9_put_23 : decode cX9_put 23 = .ok (.aload_n 0, 1) := by decide +kernel
theorem dX9_put_24 : decode cX9_put 24 = .ok (.getfield 27, 3) := by decide +kernel
theorem dX9_put_27 : decode cX9_put 27 = .ok (.iload_n 2, 1) := by decide +kernel
theorem dX9_put_28 : decode cX9_put 28 = .ok (.iastore, 1) := by decide +kernel
theorem dX9_put_29 : decode cX9_put 29 = .ok (.aload_n 0, 1) := by decide +kernel
theorem dX9_put_30 : decode cX9_put 30 = .ok (.getfield 18, 3) := by decide +kernel
theorem dX9_put_33 : decode cX9_put 33 = .ok (.aload_n 0, 1) := by decide +kernel
theorem dX9_put_34 : decode cX9_put 34 = .ok (.getfield 27, 3) := by decide +kernel
theorem dX9_put_37 : decode cX9_put 37 = .ok (.iload_n 3, 1) := by decide +kernel
theorem dX9_put_38 : decode cX9_put 38 = .ok (.iastore, 1) := by decide +kernel
theorem dX9_put_39 : decode cX9_put 39 = .ok (.aload_n 0, 1) := by decide +kernel
theorem dX9_put_40 : decode cX9_put 40 = .ok (.getfield 21, 3) := by decide +kernel
theorem dX9_put_43 : decode cX9_put 43 = .ok (.aload_n 0, 1) := by decide +kernel
theorem dX9_put_44 : decode cX9_put 44 = .ok (.getfield 27, 3) := by decide +kernel
theorem dX9_put_47 : decode cX9_put 47 = .ok (.iload 4, 2) := by decide +kernel
theorem dX9_put_49 : decode cX9_put 49 = .ok (.iastore, 1) := by decide +kernel
theorem dX9_put_50 : decode cX9_put 50 = .ok (.aload_n 0, 1) := by decide +kernel
theorem dX9_put_51 : decode cX9_put 51 = .ok (.getfield 24, 3) := by decide +kernel
theorem dX9_put_54 : decode cX9_put 54 = .ok (.aload_n 0, 1) := by decide +kernel
theorem dX9_put_55 : decode cX9_put 55 = .ok (.getfield 27, 3) := by decide +kernel
theorem dX9_put_58 : decode cX9_put 58 = .ok (.iload 5, 2) := by decide +kernel
theorem dX9_put_60 : decode cX9_put 60 = .ok (.iastore, 1) := by decide +kernel
theorem dX9_put_61 : decode cX9_put 61 = .ok (.aload_n 0, 1) := by decide +kernel
theorem dX9_put_62 : decode cX9_put 62 = .ok (.dup, 1) := by decide +kernel
theorem dX9_put_63 : decode cX9_put 63 = .ok (.getfield 27, 3) := by decide +kernel
theorem dX9_put_66 : decode cX9_put 66 = .ok (.iconst 1, 1) := by decide +kernel
theorem dX9_put_67 : decode cX9_put 67 = .ok (.iadd, 1) := by decide +kernel
theorem dX9_put_68 : decode cX9_put 68 = .ok (.putfield 27, 3) := by decide +kernel
theorem dX9_put_71 : decode cX9_put 71 = .ok (.return_, 1) := by decide +kernel
theorem dX10_init_0 : decode cX10_init 0 = .ok (.aload_n 0, 1) := by decide +kernel
theorem dX10_init_1 : decode cX10_init 1 = .ok (.invokespecial 3, 3) := by decide +kernel
theorem dX10_init_4 : decode cX10_init 4 = .ok (.aload_n 0, 1) := by decide +kernel
theorem dX10_init_5 : decode cX10_init 5 = .ok (.bipush 80, 2) := by decide +kernel
theorem dX10_init_7 : decode cX10_init 7 = .ok (.newarray .byte, 2) := by decide +kernel
theorem dX10_init_9 : decode cX10_init 9 = .ok (.putfield 11, 3) := by decide +kernel
theorem dX10_init_12 : decode cX10_init 12 = .ok (.aload_n 0, 1) := by decide +kernel
theorem dX10_init_13 : decode cX10_init 13 = .ok (.iconst 0, 1) := by decide +kernel
theorem dX10_init_14 : decode cX10_init 14 = .ok (.putfield 15, 3) := by decide +kernel
theorem dX10_init_17 : decode cX10_init 17 = .ok (.return_, 1) := by decide +kernel
theorem dX10_append_0 : decode cX10_append 0 = .ok (.aload_n 0, 1) := by decide +kernel
theorem dX10_append_1 : decode cX10_append 1 = .ok (.getfield 15, 3) := by decide +kernel
theorem dX10_append_4 : decode cX10_append 4 = .ok (.iconst 4, 1) := by decide +kernel
theorem dX10_append_5 : decode cX10_append 5 = .ok (.iadd, 1) := by decide +kernel
theorem dX10_append_6 : decode cX10_append 6 = .ok (.bipush 80, 2) := by decide +kernel
theorem dX10_append_8 : decode cX10_append 8 = .ok (.if_icmp .le 5, 3) := by decide +kernel
theorem dX10_append_11 : decode cX10_append 11 = .ok (.iconst 0, 1) := by decide +kernel
theorem dX10_append_12 : decode cX10_append 12 = .ok (.ireturn, 1) := by decide +kernel
theorem dX10_append_13 : decode cX10_append 13 = .ok (.bipush 24, 2) := by decide +kernel
theorem dX10_append_15 : decode cX10_append 15 = .ok (.istore_n 2, 1) := by decide +kernel
theorem dX10_append_16 : decode cX10_append 16 = .ok (.iload_n 2, 1) := by decide +kernel
theorem dX10_append_17 : decode cX10_append 17 = .ok (.ifCond .lt 32, 3) := by decide +kernel
theorem dX10_append_20 : decode cX10_append 20 = .ok (.aload_n 0, 1) := by decide +kernel
theorem dX10_append_21 : decode cX10_append 21 = .ok (.getfield 11, 3) := by decide +kernel
theorem dX10_append_24 : decode cX10_append 24 = .ok (.aload_n 0, 1) := by decide +kernel
theorem dX10_append_25 : decode cX10_append 25 = .ok (.getfield 15, 3) := by decide +kernel
theorem dX10_append_28 : decode cX10_append 28 = .ok (.iload_n 1, 1) := by decide +kernel
theorem dX10_append_29 : decode cX10_append 29 = .ok (.iload_n 2, 1) := by decide +kernel
theorem dX10_append_30 : decode cX10_append 30 = .ok (.ishr, 1) := by decide +kernel
theorem dX10_append_31 : decode cX10_append 31 = .ok (.i2b, 1) := by decide +kernel
theorem dX10_append_32 : decode cX10_append 32 = .ok (.bastore, 1) := by decide +kernel
theorem dX10_append_33 : decode cX10_append 33 = .ok (.aload_n 0, 1) := by decide +kernel
theorem dX10_append_34 : decode cX10_append 34 = .ok (.dup, 1) := by decide +kernel
theorem dX10_append_35 : decode cX10_append 35 = .ok (.getfield 15, 3) := by decide +kernel
theorem dX10_append_38 : decode cX10_append 38 = .ok (.iconst 1, 1) := by decide +kernel
theorem dX10_append_39 : decode cX10_append 39 = .ok (.iadd, 1) := by decide +kernel
theorem dX10_append_40 : decode cX10_append 40 = .ok (.putfield 15, 3) := by decide +kernel
theorem dX10_append_43 : decode cX10_append 43 = .ok (.iinc 2 (-8), 3) := by decide +kernel
theorem dX10_append_46 : decode cX10_append 46 = .ok (.goto (-30), 3) := by decide +kernel
theorem dX10_append_49 : decode cX10_append 49 = .ok (.iconst 1, 1) := by decide +kernel
theorem dX10_append_50 : decode cX10_append 50 = .ok (.ireturn, 1) := by decide +kernel
theorem dX10_cut_0 : decode cX10_cut 0 = .ok (.iload_n 1, 1) := by decide +kernel
theorem dX10_cut_1 : decode cX10_cut 1 = .ok (.ifCond .lt 11, 3) := by decide +kernel
theorem dX10_cut_4 : decode cX10_cut 4 = .ok (.iload_n 1, 1) := by decide +kernel
theorem dX10_cut_5 : decode cX10_cut 5 = .ok (.aload_n 0, 1) := by decide +kernel
theorem dX10_cut_6 : decode cX10_cut 6 = .ok (.getfield 15, 3) := by decide +kernel
theorem dX10_cut_9 : decode cX10_cut 9 = .ok (.if_icmp .le 5, 3) := by decide +kernel
theorem dX10_cut_12 : decode cX10_cut 12 = .ok (.iconst 0, 1) := by decide +kernel
theorem dX10_cut_13 : decode cX10_cut 13 = .ok (.ireturn, 1) := by decide +kernel
theorem dX10_cut_14 : decode cX10_cut 14 = .ok (.aload_n 0, 1) := by decide +kernel
theorem dX10_cut_15 : decode cX10_cut 15 = .ok (.iload_n 1, 1) := by decide +kernel
theorem dX10_cut_16 : decode cX10_cut 16 = .ok (.putfield 15, 3) := by decide +kernel
theorem dX10_cut_19 : decode cX10_cut 19 = .ok (.iconst 1, 1) := by decide +kernel
theorem dX10_cut_20 : decode cX10_cut 20 = .ok (.ireturn, 1) := by decide +kernel
theorem dX10_clear_0 : decode cX10_clear 0 = .ok (.aload_n 0, 1) := by decide +kernel
theorem dX10_clear_1 : decode cX10_clear 1 = .ok (.iconst 0, 1) := by decide +kernel
theorem dX10_clear_2 : decode cX10_clear 2 = .ok (.putfield 15, 3) := by decide +kernel
theorem dX10_clear_5 : decode cX10_clear 5 = .ok (.return_, 1) := by decide +kernel
theorem dX10_signAt_0 : decode cX10_signAt 0 = .ok (.iload_n 1, 1) := by decide +kernel
theorem dX10_signAt_1 : decode cX10_signAt 1 = .ok (.ifCond .lt 30, 3) := by decide +kernel
theorem dX10_signAt_4 : decode cX10_signAt 4 = .ok (.iload_n 1, 1) := by decide +kernel
theorem dX10_signAt_5 : decode cX10_signAt 5 = .ok (.aload_n 0, 1) := by decide +kernel
theorem dX10_signAt_6 : decode cX10_signAt 6 = .ok (.getfield 15, 3) := by decide +kernel
theorem dX10_signAt_9 : decode cX10_signAt 9 = .ok (.if_icmp .ge 22, 3) := by decide +kernel
theorem dX10_signAt_12 : decode cX10_signAt 12 = .ok (.iload_n 1, 1) := by decide +kernel
theorem dX10_signAt_13 : decode cX10_signAt 13 = .ok (.bipush 80, 2) := by decide +kernel
theorem dX10_signAt_15 : decode cX10_signAt 15 = .ok (.if_icmp .ge 16, 3) := by decide +kernel
theorem dX10_signAt_18 : decode cX10_signAt 18 = .ok (.aload_n 0, 1) := by decide +kernel
theorem dX10_signAt_19 : decode cX10_signAt 19 = .ok (.getfield 11, 3) := by decide +kernel
theorem dX10_signAt_22 : decode cX10_signAt 22 = .ok (.iload_n 1, 1) := by decide +kernel
theorem dX10_signAt_23 : decode cX10_signAt 23 = .ok (.baload, 1) := by decide +kernel
theorem dX10_signAt_24 : decode cX10_signAt 24 = .ok (.sipush 255, 3) := by decide +kernel
theorem dX10_signAt_27 : decode cX10_signAt 27 = .ok (.iand, 1) := by decide +kernel
theorem dX10_signAt_28 : decode cX10_signAt 28 = .ok (.goto 4, 3) := by decide +kernel
theorem dX10_signAt_31 : decode cX10_signAt 31 = .ok (.iconst (-1), 1) := by decide +kernel
theorem dX10_signAt_32 : decode cX10_signAt 32 = .ok (.ireturn, 1) := by decide +kernel
theorem dX10_isDigit_0 : decode cX10_isDigit 0 = .ok (.iload_n 0, 1) := by decide +kernel
theorem dX10_isDigit_1 : decode cX10_isDigit 1 = .ok (.bipush 48, 2) := by decide +kernel
theorem dX10_isDigit_3 : decode cX10_isDigit 3 = .ok (.if_icmp .lt 13, 3) := by decide +kernel
theorem dX10_isDigit_6 : decode cX10_isDigit 6 = .ok (.iload_n 0, 1) := by decide +kernel
theorem dX10_isDigit_7 : decode cX10_isDigit 7 = .ok (.bipush 57, 2) := by decide +kernel
theorem dX10_isDigit_9 : decode cX10_isDigit 9 = .ok (.if_icmp .gt 7, 3) := by decide +kernel
theorem dX10_isDigit_12 : decode cX10_isDigit 12 = .ok (.iconst 1, 1) := by decide +kernel
theorem dX10_isDigit_13 : decode cX10_isDigit 13 = .ok (.goto 4, 3) := by decide +kernel
theorem dX10_isDigit_16 : decode cX10_isDigit 16 = .ok (.iconst 0, 1) := by decide +kernel
theorem dX10_isDigit_17 : decode cX10_isDigit 17 = .ok (.ireturn, 1) := by decide +kernel
abbrev mX11_init_0_e0 : ByteArray := .mk #[0x2a, 0xb7, 0x00, 0x03, 0x2a, 0xbb, 0x00, 0x09, 0x59, 0xb7, 0x00, 0x0b, 0xb5, 0x00, 0x0c, 0x2a, 0xbb, 0x00, 0x10, 0x59, 0xb7, 0x00, 0x12, 0xb5, 0x00, 0x13, 0x2a, 0xbb, 0x00, 0x17, 0x59, 0xb7, 0x00, 0x19, 0xb5, 0x00, 0x1a, 0x2a, 0x10, 0x06, 0xbd, 0x00, 0x1e, 0xb5, 0x00, 0x20, 0x2a, 0x03, 0xb5, 0x00, 0x24, 0x2a, 0x10, 0x08, 0xbc, 0x0a, 0xb5, 0x00, 0x28, 0x2a, 0x10, 0x08, 0xbc, 0x0a, 0xb5, 0x00, 0x2c, 0x2a, 0x10, 0x08, 0xbc, 0x0a]
theorem kmX11_init_0_e0 : CK cX11_init 0 mX11_init_0_e0 := ck_of (by decide +kernel)
theorem dX11_init_0 : decode cX11_init 0 = .ok (.aload_n 0, 1) := rd_chunk (k := 0) (i := 0) kmX11_init_0_e0 (by decide +kernel)
theorem dX11_init_1 : decode cX11_init 1 = .ok (.invokespecial 3, 3) := rd_chunk (k := 0) (i := 1) kmX11_init_0_e0 (by decide +kernel)
theorem dX11_init_4 : decode cX11_init 4 = .ok (.aload_n 0, 1) := rd_chunk (k := 0) (i := 4) kmX11_init_0_e0 (by decide +kernel)
theorem dX11_init_5 : decode cX11_init 5 = .ok (.new 9, 3) := rd_chunk (k := 0) (i := 5) kmX11_init_0_e0 (by decide +kernel)
theorem dX11_init_8 : decode cX11_init 8 = .ok (.dup, 1) := rd_chunk (k := 0) (i := 8) kmX11_init_0_e0 (by decide +kernel)
theorem dX11_init_9 : decode cX11_init 9 = .ok (.invokespecial 11, 3) := rd_chunk (k := 0) (i := 9) kmX11_init_0_e0 (by decide +kernel)
theorem dX11_init_12 : decode cX11_init 12 = .ok (.putfield 12, 3) := rd_chunk (k := 0) (i := 12) kmX11_init_0_e0 (by decide +kernel)
theorem dX11_init_15 : decode cX11_init 15 = .ok (.aload_n 0, 1) := rd_chunk (k := 0) (i := 15) kmX11_init_0_e0 (by decide +kernel)
theorem dX11_init_16 : decode cX11_init 16 = .ok (.new 16, 3) := rd_chunk (k := 0) (i := 16) kmX11_init_0_e0 (by decide +kernel)
theorem dX11_init_19 : decode cX11_init 19 = .ok (.dup, 1) := rd_chunk (k := 0) (i := 19) kmX11_init_0_e0 (by decide +kernel)
theorem dX11_init_20 : decode cX11_init 20 = .ok (.invokespecial 18, 3) := rd_chunk (k := 0) (i := 20) kmX11_init_0_e0 (by decide +kernel)
theorem dX11_init_23 : decode cX11_init 23 = .ok (.putfield 19, 3) := rd_chunk (k := 0) (i := 23) kmX11_init_0_e0 (by decide +kernel)
theorem dX11_init_26 : decode cX11_init 26 = .ok (.aload_n 0, 1) := rd_chunk (k := 0) (i := 26) kmX11_init_0_e0 (by decide +kernel)
theorem dX11_init_27 : decode cX11_init 27 = .ok (.new 23, 3) := rd_chunk (k := 0) (i := 27) kmX11_init_0_e0 (by decide +kernel)
theorem dX11_init_30 : decode cX11_init 30 = .ok (.dup, 1) := rd_chunk (k := 0) (i := 30) kmX11_init_0_e0 (by decide +kernel)
theorem dX11_init_31 : decode cX11_init 31 = .ok (.invokespecial 25, 3) := rd_chunk (k := 0) (i := 31) kmX11_init_0_e0 (by decide +kernel)
theorem dX11_init_34 : decode cX11_init 34 = .ok (.putfield 26, 3) := rd_chunk (k := 0) (i := 34) kmX11_init_0_e0 (by decide +kernel)
theorem dX11_init_37 : decode cX11_init 37 = .ok (.aload_n 0, 1) := rd_chunk (k := 0) (i := 37) kmX11_init_0_e0 (by decide +kernel)
theorem dX11_init_38 : decode cX11_init 38 = .ok (.bipush 6, 2) := rd_chunk (k := 0) (i := 38) kmX11_init_0_e0 (by decide +kernel)
theorem dX11_init_40 : decode cX11_init 40 = .ok (.anewarray 30, 3) := rd_chunk (k := 0) (i := 40) kmX11_init_0_e0 (by decide +kernel)
theorem dX11_init_43 : decode cX11_init 43 = .ok (.putfield 32, 3) := rd_chunk (k := 0) (i := 43) kmX11_init_0_e0 (by decide +kernel)
theorem dX11_init_46 : decode cX11_init 46 = .ok (.aload_n 0, 1) := rd_chunk (k := 0) (i := 46) kmX11_init_0_e0 (by decide +kernel)
theorem dX11_init_47 : decode cX11_init 47 = .ok (.iconst 0, 1) := rd_chunk (k := 0) (i := 47) kmX11_init_0_e0 (by decide +kernel)
theorem dX11_init_48 : decode cX11_init 48 = .ok (.putfield 36, 3) := rd_chunk (k := 0) (i := 48) kmX11_init_0_e0 (by decide +kernel)
theorem dX11_init_51 : decode cX11_init 51 = .ok (.aload_n 0, 1) := rd_chunk (k := 0) (i := 51) kmX11_init_0_e0 (by decide +kernel)
theorem dX11_init_52 : decode cX11_init 52 = .ok (.bipush 8, 2) := rd_chunk (k := 0) (i := 52) kmX11_init_0_e0 (by decide +kernel)
theorem dX11_init_54 : decode cX11_init 54 = .ok (.newarray .int, 2) := by decide +kernel
theorem dX11_init_56 : decode cX11_init 56 = .ok (.putfield 40, 3) := rd_chunk (k := 0) (i := 56) kmX11_init_0_e0 (by decide +kernel)
theorem dX11_init_59 : decode cX11_init 59 = .ok (.aload_n 0, 1) := rd_chunk (k := 0) (i := 59) kmX11_init_0_e0 (by decide +kernel)
theorem dX11_init_60 : decode cX11_init 60 = .ok (.bipush 8, 2) := rd_chunk (k := 0) (i := 60) kmX11_init_0_e0 (by decide +kernel)
theorem dX11_init_62 : decode cX11_init 62 = .ok (.newarray .int, 2) := by decide +kernel
abbrev mX11_init_64_e0 : ByteArray := .mk #[0xb5, 0x00, 0x2c, 0x2a, 0x10, 0x08, 0xbc, 0x0a, 0xb5, 0x00, 0x2f, 0x2a, 0x05, 0xbd, 0x00, 0x32, 0x59, 0x03, 0xbb, 0x00, 0x32, 0x59, 0xb7, 0x00, 0x34, 0x53, 0x59, 0x04, 0xbb, 0x00, 0x32, 0x59, 0xb7, 0x00, 0x34, 0x53, 0xb5, 0x00, 0x35, 0x2a, 0xbb, 0x00, 0x39, 0x59, 0xb7, 0x00, 0x3b, 0xb5, 0x00, 0x3c, 0x2a, 0xbb, 0x00, 0x40, 0x59, 0xb7, 0x00, 0x42, 0xb5, 0x00, 0x43, 0x2a, 0x06, 0xbc, 0x0a, 0xb5, 0x00, 0x47, 0x2a, 0x06, 0xbc, 0x0a]
theorem kmX11_init_64_e0 : CK cX11_init 64 mX11_init_64_e0 := ck_of (by decide +kernel)
theorem dX11_init_64 : decode cX11_init 64 = .ok (.putfield 44, 3) := rd_chunk (k := 64) (i := 0) kmX11_init_64_e0 (by decide +kernel)
theorem dX11_init_67 : decode cX11_init 67 = .ok (.aload_n 0, 1) := rd_chunk (k := 64) (i := 3) kmX11_init_64_e0 (by decide +kernel)
theorem dX11_init_68 : decode cX11_init 68 = .ok (.bipush 8, 2) := rd_chunk (k := 64) (i := 4) kmX11_init_64_e0 (by decide +kernel)
theorem dX11_init_70 : decode cX11_init 70 = .ok (.newarray .int, 2) := by decide +kernel
theorem dX11_init_72 : decode cX11_init 72 = .ok (.putfield 47, 3) := rd_chunk (k := 64) (i := 8) kmX11_init_64_e0 (by decide +kernel)
theorem dX11_init_75 : decode cX11_init 75 = .ok (.aload_n 0, 1) := rd_chunk (k := 64) (i := 11) kmX11_init_64_e0 (by decide +kernel)
theorem dX11_init_76 : decode cX11_init 76 = .ok (.iconst 2, 1) := rd_chunk (k := 64) (i := 12) kmX11_init_64_e0 (by decide +kernel)
theorem dX11_init_77 : decode cX11_init 77 = .ok (.anewarray 50, 3) := rd_chunk (k := 64) (i := 13) kmX11_init_64_e0 (by decide +kernel)
theorem dX11_init_80 : decode cX11_init 80 = .ok (.dup, 1) := rd_chunk (k := 64) (i := 16) kmX11_init_64_e0 (by decide +kernel)
theorem dX11_init_81 : decode cX11_init 81 = .ok (.iconst 0, 1) := rd_chunk (k := 64) (i := 17) kmX11_init_64_e0 (by decide +kernel)
theorem dX11_init_82 : decode cX11_init 82 = .ok (.new 50, 3) := rd_chunk (k := 64) (i := 18) kmX11_init_64_e0 (by decide +kernel)
theorem dX11_init_85 : decode cX11_init 85 = .ok (.dup, 1) := rd_chunk (k := 64) (i := 21) kmX11_init_64_e0 (by decide +kernel)
theorem dX11_init_86 : decode cX11_init 86 = .ok (.invokespecial 52, 3) := rd_chunk (k := 64) (i := 22) kmX11_init_64_e0 (by decide +kernel)
theorem dX11_init_89 : decode cX11_init 89 = .ok (.aastore, 1) := rd_chunk (k := 64) (i := 25) kmX11_init_64_e0 (by decide +kernel)
theorem dX11_init_90 : decode cX11_init 90 = .ok (.dup, 1) := rd_chunk (k := 64) (i := 26) kmX11_init_64_e0 (by decide +kernel)
theorem dX11_init_91 : decode cX11_init 91 = .ok (.iconst 1, 1) := rd_chunk (k := 64) (i := 27) kmX11_init_64_e0 (by decide +kernel)
theorem dX11_init_92 : decode cX11_init 92 = .ok (.new 50, 3) := rd_chunk (k := 64) (i := 28) kmX11_init_64_e0 (by decide +kernel)
theorem dX11_init_95 : decode cX11_init 95 = .ok (.dup, 1) := rd_chunk (k := 64) (i := 31) kmX11_init_64_e0 (by decide +kernel)
theorem dX11_init_96 : decode cX11_init 96 = .ok (.invokespecial 52, 3) := rd_chunk (k := 64) (i := 32) kmX11_init_64_e0 (by decide +kernel)
theorem dX11_init_99 : decode cX11_init 99 = .ok (.aastore, 1) := rd_chunk (k := 64) (i := 35) kmX11_init_64_e0 (by decide +kernel)
theorem dX11_init_100 : decode cX11_init 100 = .ok (.putfield 53, 3) := rd_chunk (k := 64) (i := 36) kmX11_init_64_e0 (by decide +kernel)
theorem dX11_init_103 : decode cX11_init 103 = .ok (.aload_n 0, 1) := rd_chunk (k := 64) (i := 39) kmX11_init_64_e0 (by decide +kernel)
theorem dX11_init_104 : decode cX11_init 104 = .ok (.new 57, 3) := rd_chunk (k := 64) (i := 40) kmX11_init_64_e0 (by decide +kernel)
theorem dX11_init_107 : decode cX11_init 107 = .ok (.dup, 1) := rd_chunk (k := 64) (i := 43) kmX11_init_64_e0 (by decide +kernel)
theorem dX11_init_108 : decode cX11_init 108 = .ok (.invokespecial 59, 3) := rd_chunk (k := 64) (i := 44) kmX11_init_64_e0 (by decide +kernel)
theorem dX11_init_111 : decode cX11_init 111 = .ok (.putfield 60, 3) := rd_chunk (k := 64) (i := 47) kmX11_init_64_e0 (by decide +kernel)
theorem dX11_init_114 : decode cX11_init 114 = .ok (.aload_n 0, 1) := rd_chunk (k := 64) (i := 50) kmX11_init_64_e0 (by decide +kernel)
theorem dX11_init_115 : decode cX11_init 115 = .ok (.new 64, 3) := rd_chunk (k := 64) (i := 51) kmX11_init_64_e0 (by decide +kernel)
theorem dX11_init_118 : decode cX11_init 118 = .ok (.dup, 1) := rd_chunk (k := 64) (i := 54) kmX11_init_64_e0 (by decide +kernel)
theorem dX11_init_119 : decode cX11_init 119 = .ok (.invokespecial 66, 3) := rd_chunk (k := 64) (i := 55) kmX11_init_64_e0 (by decide +kernel)
theorem dX11_init_122 : decode cX11_init 122 = .ok (.putfield 67, 3) := rd_chunk (k := 64) (i := 58) kmX11_init_64_e0 (by decide +kernel)
theorem dX11_init_125 : decode cX11_init 125 = .ok (.aload_n 0, 1) := rd_chunk (k := 64) (i := 61) kmX11_init_64_e0 (by decide +kernel)
theorem dX11_init_126 : decode cX11_init 126 = .ok (.iconst 3, 1) := rd_chunk (k := 64) (i := 62) kmX11_init_64_e0 (by decide +kernel)
theorem dX11_init_127 : decode cX11_init 127 = .ok (.newarray .int, 2) := by decide +kernel
abbrev mX11_init_128_e0 : ByteArray := .mk #[0x0a, 0xb5, 0x00, 0x47, 0x2a, 0x06, 0xbc, 0x0a, 0xb5, 0x00, 0x4a, 0x2a, 0x10, 0x15, 0xbc, 0x0a, 0xb5, 0x00, 0x4d, 0x2a, 0x10, 0x15, 0xbc, 0x0a, 0xb5, 0x00, 0x50, 0x2a, 0x10, 0x1a, 0xbc, 0x0b, 0xb5, 0x00, 0x53, 0x2a, 0x03, 0xb5, 0x00, 0x57, 0xb1]
theorem kmX11_init_128_e0 : CK cX11_init 128 mX11_init_128_e0 := ck_of (by decide +kernel)
theorem dX11_init_129 : decode cX11_init 129 = .ok (.putfield 71, 3) := rd_chunk (k := 128) (i := 1) kmX11_init_128_e0 (by decide +kernel)
theorem dX11_init_132 : decode cX11_init 132 = .ok (.aload_n 0, 1) := rd_chunk (k := 128) (i := 4) kmX11_init_128_e0 (by decide +kernel)
theorem dX11_init_133 : decode cX11_init 133 = .ok (.iconst 3, 1) := rd_chunk (k := 128) (i := 5) kmX11_init_128_e0 (by decide +kernel)
theorem dX11_init_134 : decode cX11_init 134 = .ok (.newarray .int, 2) := by decide +kernel
theorem dX11_init_136 : decode cX11_init 136 = .ok (.putfield 74, 3) := rd_chunk (k := 128) (i := 8) kmX11_init_128_e0 (by decide +kernel)
theorem dX11_init_139 : decode cX11_init 139 = .ok (.aload_n 0, 1) := rd_chunk (k := 128) (i := 11) kmX11_init_128_e0 (by decide +kernel)
theorem dX11_init_140 : decode cX11_init 140 = .ok (.bipush 21, 2) := rd_chunk (k := 128) (i := 12) kmX11_init_128_e0 (by decide +kernel)
theorem dX11_init_142 : decode cX11_init 142 = .ok (.newarray .int, 2) := by decide +kernel
theorem dX11_init_144 : decode cX11_init 144 = .ok (.putfield 77, 3) := rd_chunk (k := 128) (i := 16) kmX11_init_128_e0 (by decide +kernel)
theorem dX11_init_147 : decode cX11_init 147 = .ok (.aload_n 0, 1) := rd_chunk (k := 128) (i := 19) kmX11_init_128_e0 (by decide +kernel)
theorem dX11_init_148 : decode cX11_init 148 = .ok (.bipush 21, 2) := rd_chunk (k := 128) (i := 20) kmX11_init_128_e0 (by decide +kernel)
theorem dX11_init_150 : decode cX11_init 150 = .ok (.newarray .int, 2) := by decide +kernel
theorem dX11_init_152 : decode cX11_init 152 = .ok (.putfield 80, 3) := rd_chunk (k := 128) (i := 24) kmX11_init_128_e0 (by decide +kernel)
theorem dX11_init_155 : decode cX11_init 155 = .ok (.aload_n 0, 1) := rd_chunk (k := 128) (i := 27) kmX11_init_128_e0 (by decide +kernel)
theorem dX11_init_156 : decode cX11_init 156 = .ok (.bipush 26, 2) := rd_chunk (k := 128) (i := 28) kmX11_init_128_e0 (by decide +kernel)
theorem dX11_init_158 : decode cX11_init 158 = .ok (.newarray .long, 2) := by decide +kernel
theorem dX11_init_160 : decode cX11_init 160 = .ok (.putfield 83, 3) := rd_chunk (k := 128) (i := 32) kmX11_init_128_e0 (by decide +kernel)
theorem dX11_init_163 : decode cX11_init 163 = .ok (.aload_n 0, 1) := rd_chunk (k := 128) (i := 35) kmX11_init_128_e0 (by decide +kernel)
theorem dX11_init_164 : decode cX11_init 164 = .ok (.iconst 0, 1) := rd_chunk (k := 128) (i := 36) kmX11_init_128_e0 (by decide +kernel)
theorem dX11_init_165 : decode cX11_init 165 = .ok (.putfield 87, 3) := rd_chunk (k := 128) (i := 37) kmX11_init_128_e0 (by decide +kernel)
theorem dX11_init_168 : decode cX11_init 168 = .ok (.return_, 1) := rd_chunk (k := 128) (i := 40) kmX11_init_128_e0 (by decide +kernel)
theorem dX11_sign_0 : decode cX11_sign 0 = .ok (.aload_n 0, 1) := by decide +kernel
theorem dX11_sign_1 : decode cX11_sign 1 = .ok (.getfield 12, 3) := by decide +kernel
theorem dX11_sign_4 : decode cX11_sign 4 = .ok (.iload_n 1, 1) := by decide +kernel
theorem dX11_sign_5 : decode cX11_sign 5 = .ok (.invokevirtual 90, 3) := by decide +kernel
theorem dX11_sign_8 : decode cX11_sign 8 = .ok (.ifCond .eq 13, 3) := by decide +kernel
theorem dX11_sign_11 : decode cX11_sign 11 = .ok (.aload_n 0, 1) := by decide +kernel
theorem dX11_sign_12 : decode cX11_sign 12 = .ok (.getfield 12, 3) := by decide +kernel
theorem dX11_sign_15 : decode cX11_sign 15 = .ok (.getfield 94, 3) := by decide +kernel
theorem dX11_sign_18 : decode cX11_sign 18 = .ok (.goto 4, 3) := by decide +kernel
theorem dX11_sign_21 : decode cX11_sign 21 = .ok (.iconst (-1), 1) := by decide +kernel
theorem dX11_sign_22 : decode cX11_sign 22 = .ok (.ireturn, 1) := by decide +kernel
theorem dX11_end_0 : decode cX11_end 0 = .ok (.aload_n 0, 1) := by decide +kernel
theorem dX11_end_1 : decode cX11_end 1 = .ok (.getfield 12, 3) := by decide +kernel
theorem dX11_end_4 : decode cX11_end 4 = .ok (.iload_n 1, 1) := by decide +kernel
theorem dX11_end_5 : decode cX11_end 5 = .ok (.invokevirtual 97, 3) := by decide +kernel
theorem dX11_end_8 : decode cX11_end 8 = .ok (.ireturn, 1) := by decide +kernel
abbrev mX11_stairs_0_e0 : ByteArray := .mk #[0x2a, 0xb4, 0x00, 0x13, 0x2a, 0xb4, 0x00, 0x0c, 0xb6, 0x00, 0x64, 0x3c, 0x2a, 0xb4, 0x00, 0x0c, 0xb6, 0x00, 0x68, 0x1b, 0x9c, 0x00, 0x05, 0x1b, 0xac, 0x2a, 0xb4, 0x00, 0x1a, 0x2a, 0xb4, 0x00, 0x13, 0xb6, 0x00, 0x6b, 0x03, 0x3d, 0x1c, 0x2a, 0xb4, 0x00, 0x24, 0xa2, 0x00, 0x17, 0x2a, 0x1c, 0xb6, 0x00, 0x6f, 0x4e, 0x2d, 0xc6, 0x00, 0x07, 0x2d, 0xb6, 0x00, 0x73, 0x84, 0x02, 0x01, 0xa7, 0xff, 0xe7, 0x2a, 0xb4, 0x00, 0x28, 0x03, 0xb8]
theorem kmX11_stairs_0_e0 : CK cX11_stairs 0 mX11_stairs_0_e0 := ck_of (by decide +kernel)
theorem dX11_stairs_0 : decode cX11_stairs 0 = .ok (.aload_n 0, 1) := rd_chunk (k := 0) (i := 0) kmX11_stairs_0_e0 (by decide +kernel)
theorem dX11_stairs_1 : decode cX11_stairs 1 = .ok (.getfield 19, 3) := rd_chunk (k := 0) (i := 1) kmX11_stairs_0_e0 (by decide +kernel)
theorem dX11_stairs_4 : decode cX11_stairs 4 = .ok (.aload_n 0, 1) := rd_chunk (k := 0) (i := 4) kmX11_stairs_0_e0 (by decide +kernel)
theorem dX11_stairs_5 : decode cX11_stairs 5 = .ok (.getfield 12, 3) := rd_chunk (k := 0) (i := 5) kmX11_stairs_0_e0 (by decide +kernel)
theorem dX11_stairs_8 : decode cX11_stairs 8 = .ok (.invokevirtual 100, 3) := rd_chunk (k := 0) (i := 8) kmX11_stairs_0_e0 (by decide +kernel)
theorem dX11_stairs_11 : decode cX11_stairs 11 = .ok (.istore_n 1, 1) := rd_chunk (k := 0) (i := 11) kmX11_stairs_0_e0 (by decide +kernel)
theorem dX11_stairs_12 : decode cX11_stairs 12 = .ok (.aload_n 0, 1) := rd_chunk (k := 0) (i := 12) kmX11_stairs_0_e0 (by decide +kernel)
theorem dX11_stairs_13 : decode cX11_stairs 13 = .ok (.getfield 12, 3) := rd_chunk (k := 0) (i := 13) kmX11_stairs_0_e0 (by decide +kernel)
theorem dX11_stairs_16 : decode cX11_stairs 16 = .ok (.invokevirtual 104, 3) := rd_chunk (k := 0) (i := 16) kmX11_stairs_0_e0 (by decide +kernel)
theorem dX11_stairs_19 : decode cX11_stairs 19 = .ok (.iload_n 1, 1) := rd_chunk (k := 0) (i := 19) kmX11_stairs_0_e0 (by decide +kernel)
theorem dX11_stairs_20 : decode cX11_stairs 20 = .ok (.ifCond .ge 5, 3) := rd_chunk (k := 0) (i := 20) kmX11_stairs_0_e0 (by decide +kernel)
theorem dX11_stairs_23 : decode cX11_stairs 23 = .ok (.iload_n 1, 1) := rd_chunk (k := 0) (i := 23) kmX11_stairs_0_e0 (by decide +kernel)
theorem dX11_stairs_24 : decode cX11_stairs 24 = .ok (.ireturn, 1) := rd_chunk (k := 0) (i := 24) kmX11_stairs_0_e0 (by decide +kernel)
theorem dX11_stairs_25 : decode cX11_stairs 25 = .ok (.aload_n 0, 1) := rd_chunk (k := 0) (i := 25) kmX11_stairs_0_e0 (by decide +kernel)
theorem dX11_stairs_26 : decode cX11_stairs 26 = .ok (.getfield 26, 3) := rd_chunk (k := 0) (i := 26) kmX11_stairs_0_e0 (by decide +kernel)
theorem dX11_stairs_29 : decode cX11_stairs 29 = .ok (.aload_n 0, 1) := rd_chunk (k := 0) (i := 29) kmX11_stairs_0_e0 (by decide +kernel)
theorem dX11_stairs_30 : decode cX11_stairs 30 = .ok (.getfield 19, 3) := rd_chunk (k := 0) (i := 30) kmX11_stairs_0_e0 (by decide +kernel)
theorem dX11_stairs_33 : decode cX11_stairs 33 = .ok (.invokevirtual 107, 3) := rd_chunk (k := 0) (i := 33) kmX11_stairs_0_e0 (by decide +kernel)
theorem dX11_stairs_36 : decode cX11_stairs 36 = .ok (.iconst 0, 1) := rd_chunk (k := 0) (i := 36) kmX11_stairs_0_e0 (by decide +kernel)
theorem dX11_stairs_37 : decode cX11_stairs 37 = .ok (.istore_n 2, 1) := rd_chunk (k := 0) (i := 37) kmX11_stairs_0_e0 (by decide +kernel)
theorem dX11_stairs_38 : decode cX11_stairs 38 = .ok (.iload_n 2, 1) := rd_chunk (k := 0) (i := 38) kmX11_stairs_0_e0 (by decide +kernel)
theorem dX11_stairs_39 : decode cX11_stairs 39 = .ok (.aload_n 0, 1) := rd_chunk (k := 0) (i := 39) kmX11_stairs_0_e0 (by decide +kernel)
theorem dX11_stairs_40 : decode cX11_stairs 40 = .ok (.getfield 36, 3) := rd_chunk (k := 0) (i := 40) kmX11_stairs_0_e0 (by decide +kernel)
theorem dX11_stairs_43 : decode cX11_stairs 43 = .ok (.if_icmp .ge 23, 3) := rd_chunk (k := 0) (i := 43) kmX11_stairs_0_e0 (by decide +kernel)
theorem dX11_stairs_46 : decode cX11_stairs 46 = .ok (.aload_n 0, 1) := rd_chunk (k := 0) (i := 46) kmX11_stairs_0_e0 (by decide +kernel)
theorem dX11_stairs_47 : decode cX11_stairs 47 = .ok (.iload_n 2, 1) := rd_chunk (k := 0) (i := 47) kmX11_stairs_0_e0 (by decide +kernel)
theorem dX11_stairs_48 : decode cX11_stairs 48 = .ok (.invokevirtual 111, 3) := rd_chunk (k := 0) (i := 48) kmX11_stairs_0_e0 (by decide +kernel)
theorem dX11_stairs_51 : decode cX11_stairs 51 = .ok (.astore_n 3, 1) := rd_chunk (k := 0) (i := 51) kmX11_stairs_0_e0 (by decide +kernel)
theorem dX11_stairs_52 : decode cX11_stairs 52 = .ok (.aload_n 3, 1) := rd_chunk (k := 0) (i := 52) kmX11_stairs_0_e0 (by decide +kernel)
theorem dX11_stairs_53 : decode cX11_stairs 53 = .ok (.ifnull 7, 3) := rd_chunk (k := 0) (i := 53) kmX11_stairs_0_e0 (by decide +kernel)
theorem dX11_stairs_56 : decode cX11_stairs 56 = .ok (.aload_n 3, 1) := rd_chunk (k := 0) (i := 56) kmX11_stairs_0_e0 (by decide +kernel)
theorem dX11_stairs_57 : decode cX11_stairs 57 = .ok (.invokevirtual 115, 3) := rd_chunk (k := 0) (i := 57) kmX11_stairs_0_e0 (by decide +kernel)
theorem dX11_stairs_60 : decode cX11_stairs 60 = .ok (.iinc 2 1, 3) := rd_chunk (k := 0) (i := 60) kmX11_stairs_0_e0 (by decide +kernel)
theorem dX11_stairs_63 : decode cX11_stairs 63 = .ok (.goto (-25), 3) := rd_chunk (k := 0) (i := 63) kmX11_stairs_0_e0 (by decide +kernel)
abbrev mX11_stairs_64_e0 : ByteArray := .mk #[0xff, 0xe7, 0x2a, 0xb4, 0x00, 0x28, 0x03, 0xb8, 0x00, 0x76, 0x03, 0x3d, 0x1c, 0x2a, 0xb4, 0x00, 0x35, 0xbe, 0xa2, 0x00, 0x13, 0x2a, 0xb4, 0x00, 0x35, 0x1c, 0x32, 0x03, 0xb5, 0x00, 0x7c, 0x84, 0x02, 0x01, 0xa7, 0xff, 0xea, 0x1b, 0xac]
theorem kmX11_stairs_64_e0 : CK cX11_stairs 64 mX11_stairs_64_e0 := ck_of (by decide +kernel)
theorem dX11_stairs_66 : decode cX11_stairs 66 = .ok (.aload_n 0, 1) := rd_chunk (k := 64) (i := 2) kmX11_stairs_64_e0 (by decide +kernel)
theorem dX11_stairs_67 : decode cX11_stairs 67 = .ok (.getfield 40, 3) := rd_chunk (k := 64) (i := 3) kmX11_stairs_64_e0 (by decide +kernel)
theorem dX11_stairs_70 : decode cX11_stairs 70 = .ok (.iconst 0, 1) := rd_chunk (k := 64) (i := 6) kmX11_stairs_64_e0 (by decide +kernel)
theorem dX11_stairs_71 : decode cX11_stairs 71 = .ok (.invokestatic 118, 3) := rd_chunk (k := 64) (i := 7) kmX11_stairs_64_e0 (by decide +kernel)
theorem dX11_stairs_74 : decode cX11_stairs 74 = .ok (.iconst 0, 1) := rd_chunk (k := 64) (i := 10) kmX11_stairs_64_e0 (by decide +kernel)
theorem dX11_stairs_75 : decode cX11_stairs 75 = .ok (.istore_n 2, 1) := rd_chunk (k := 64) (i := 11) kmX11_stairs_64_e0 (by decide +kernel)
theorem dX11_stairs_76 : decode cX11_stairs 76 = .ok (.iload_n 2, 1) := rd_chunk (k := 64) (i := 12) kmX11_stairs_64_e0 (by decide +kernel)
theorem dX11_stairs_77 : decode cX11_stairs 77 = .ok (.aload_n 0, 1) := rd_chunk (k := 64) (i := 13) kmX11_stairs_64_e0 (by decide +kernel)
theorem dX11_stairs_78 : decode cX11_stairs 78 = .ok (.getfield 53, 3) := rd_chunk (k := 64) (i := 14) kmX11_stairs_64_e0 (by decide +kernel)
theorem dX11_stairs_81 : decode cX11_stairs 81 = .ok (.arraylength, 1) := rd_chunk (k := 64) (i := 17) kmX11_stairs_64_e0 (by decide +kernel)
theorem dX11_stairs_82 : decode cX11_stairs 82 = .ok (.if_icmp .ge 19, 3) := rd_chunk (k := 64) (i := 18) kmX11_stairs_64_e0 (by decide +kernel)
theorem dX11_stairs_85 : decode cX11_stairs 85 = .ok (.aload_n 0, 1) := rd_chunk (k := 64) (i := 21) kmX11_stairs_64_e0 (by decide +kernel)
theorem dX11_stairs_86 : decode cX11_stairs 86 = .ok (.getfield 53, 3) := rd_chunk (k := 64) (i := 22) kmX11_stairs_64_e0 (by decide +kernel)
theorem dX11_stairs_89 : decode cX11_stairs 89 = .ok (.iload_n 2, 1) := rd_chunk (k := 64) (i := 25) kmX11_stairs_64_e0 (by decide +kernel)
theorem dX11_stairs_90 : decode cX11_stairs 90 = .ok (.aaload, 1) := rd_chunk (k := 64) (i := 26) kmX11_stairs_64_e0 (by decide +kernel)
theorem dX11_stairs_91 : decode cX11_stairs 91 = .ok (.iconst 0, 1) := rd_chunk (k := 64) (i := 27) kmX11_stairs_64_e0 (by decide +kernel)
theorem dX11_stairs_92 : decode cX11_stairs 92 = .ok (.putfield 124, 3) := rd_chunk (k := 64) (i := 28) kmX11_stairs_64_e0 (by decide +kernel)
theorem dX11_stairs_95 : decode cX11_stairs 95 = .ok (.iinc 2 1, 3) := rd_chunk (k := 64) (i := 31) kmX11_stairs_64_e0 (by decide +kernel)
theorem dX11_stairs_98 : decode cX11_stairs 98 = .ok (.goto (-22), 3) := rd_chunk (k := 64) (i := 34) kmX11_stairs_64_e0 (by decide +kernel)
theorem dX11_stairs_101 : decode cX11_stairs 101 = .ok (.iload_n 1, 1) := rd_chunk (k := 64) (i := 37) kmX11_stairs_64_e0 (by decide +kernel)
theorem dX11_stairs_102 : decode cX11_stairs 102 = .ok (.ireturn, 1) := rd_chunk (k := 64) (i := 38) kmX11_stairs_64_e0 (by decide +kernel)
theorem dX11_law_0 : decode cX11_law 0 = .ok (.bipush (-100), 2) := by decide +kernel
theorem dX11_law_2 : decode cX11_law 2 = .ok (.istore_n 2, 1) := by decide +kernel
theorem dX11_law_3 : decode cX11_law 3 = .ok (.iload_n 1, 1) := by decide +kernel
theorem dX11_law_4 : decode cX11_law 4 = .ok (.ifCond .ne 21, 3) := by decide +kernel
theorem dX11_law_7 : decode cX11_law 7 = .ok (.aload_n 0, 1) := by decide +kernel
theorem dX11_law_8 : decode cX11_law 8 = .ok (.getfield 26, 3) := by decide +kernel
theorem dX11_law_11 : decode cX11_law 11 = .ok (.getfield 128, 3) := by decide +kernel
theorem dX11_law_14 : decode cX11_law 14 = .ok (.aload_n 0, 1) := by decide +kernel
theorem dX11_law_15 : decode cX11_law 15 = .ok (.getfield 12, 3) := by decide +kernel
theorem dX11_law_18 : decode cX11_law 18 = .ok (.invokevirtual 132, 3) := by decide +kernel
theorem dX11_law_21 : decode cX11_law 21 = .ok (.istore_n 2, 1) := by decide +kernel
theorem dX11_law_22 : decode cX11_law 22 = .ok (.goto 23, 3) := by decide +kernel
theorem dX11_law_25 : decode cX11_law 25 = .ok (.iload_n 1, 1) := by decide +kernel
theorem dX11_law_26 : decode cX11_law 26 = .ok (.iconst 1, 1) := by decide +kernel
theorem dX11_law_27 : decode cX11_law 27 = .ok (.if_icmp .ne 18, 3) := by decide +kernel
theorem dX11_law_30 : decode cX11_law 30 = .ok (.aload_n 0, 1) := by decide +kernel
theorem dX11_law_31 : decode cX11_law 31 = .ok (.getfield 26, 3) := by decide +kernel
theorem dX11_law_34 : decode cX11_law 34 = .ok (.getfield 135, 3) := by decide +kernel
theorem dX11_law_37 : decode cX11_law 37 = .ok (.aload_n 0, 1) := by decide +kernel
theorem dX11_law_38 : decode cX11_law 38 = .ok (.getfield 12, 3) := by decide +kernel
theorem dX11_law_41 : decode cX11_law 41 = .ok (.invokevirtual 132, 3) := by decide +kernel
theorem dX11_law_44 : decode cX11_law 44 = .ok (.istore_n 2, 1) := by decide +kernel
theorem dX11_law_45 : decode cX11_law 45 = .ok (.aload_n 0, 1) := by decide +kernel
theorem dX11_law_46 : decode cX11_law 46 = .ok (.getfield 12, 3) := by decide +kernel
theorem dX11_law_49 : decode cX11_law 49 = .ok (.invokevirtual 104, 3) := by decide +kernel
theorem dX11_law_52 : decode cX11_law 52 = .ok (.iload_n 2, 1) := by decide +kernel
theorem dX11_law_53 : decode cX11_law 53 = .ok (.ireturn, 1) := by decide +kernel
abbrev mX11_step_0_e0 : ByteArray := .mk #[0x2a, 0xb4, 0x00, 0x1a, 0x1b, 0xb6, 0x00, 0x8a, 0x9a, 0x00, 0x0d, 0xbb, 0x00, 0x8d, 0x59, 0x12, 0x8f, 0xb7, 0x00, 0x91, 0xbf, 0x1c, 0xaa, 0x00, 0x00, 0x00, 0x00, 0x56, 0x00, 0x00, 0x00, 0x00, 0x00, 0x00, 0x00, 0x04, 0x00, 0x00, 0x00, 0x22, 0x00, 0x00, 0x00, 0x2c, 0x00, 0x00, 0x00, 0x36, 0x00, 0x00, 0x00, 0x40, 0x00, 0x00, 0x00, 0x4a, 0x2a, 0xb4, 0x00, 0x1a, 0xb4, 0x00, 0x94, 0x1b, 0x2e, 0xac, 0x2a, 0xb4, 0x00, 0x1a, 0xb4, 0x00]
theorem kmX11_step_0_e0 : CK cX11_step 0 mX11_step_0_e0 := ck_of (by decide +kernel)
theorem dX11_step_0 : decode cX11_step 0 = .ok (.aload_n 0, 1) := rd_chunk (k := 0) (i := 0) kmX11_step_0_e0 (by decide +kernel)
theorem dX11_step_1 : decode cX11_step 1 = .ok (.getfield 26, 3) := rd_chunk (k := 0) (i := 1) kmX11_step_0_e0 (by decide +kernel)
theorem dX11_step_4 : decode cX11_step 4 = .ok (.iload_n 1, 1) := rd_chunk (k := 0) (i := 4) kmX11_step_0_e0 (by decide +kernel)
theorem dX11_step_5 : decode cX11_step 5 = .ok (.invokevirtual 138, 3) := rd_chunk (k := 0) (i := 5) kmX11_step_0_e0 (by decide +kernel)
theorem dX11_step_8 : decode cX11_step 8 = .ok (.ifCond .ne 13, 3) := rd_chunk (k := 0) (i := 8) kmX11_step_0_e0 (by decide +kernel)
theorem dX11_step_11 : decode cX11_step 11 = .ok (.new 141, 3) := rd_chunk (k := 0) (i := 11) kmX11_step_0_e0 (by decide +kernel)
theorem dX11_step_14 : decode cX11_step 14 = .ok (.dup, 1) := rd_chunk (k := 0) (i := 14) kmX11_step_0_e0 (by decide +kernel)
theorem dX11_step_15 : decode cX11_step 15 = .ok (.ldc 143, 2) := rd_chunk (k := 0) (i := 15) kmX11_step_0_e0 (by decide +kernel)
theorem dX11_step_17 : decode cX11_step 17 = .ok (.invokespecial 145, 3) := rd_chunk (k := 0) (i := 17) kmX11_step_0_e0 (by decide +kernel)
theorem dX11_step_20 : decode cX11_step 20 = .ok (.athrow, 1) := rd_chunk (k := 0) (i := 20) kmX11_step_0_e0 (by decide +kernel)
theorem dX11_step_21 : decode cX11_step 21 = .ok (.iload_n 2, 1) := rd_chunk (k := 0) (i := 21) kmX11_step_0_e0 (by decide +kernel)
theorem dX11_step_22 : decode cX11_step 22 = .ok (.tableswitch 86 0 4 #[34, 44, 54, 64, 74], 34) := by decide +kernel
theorem dX11_step_56 : decode cX11_step 56 = .ok (.aload_n 0, 1) := rd_chunk (k := 0) (i := 56) kmX11_step_0_e0 (by decide +kernel)
theorem dX11_step_57 : decode cX11_step 57 = .ok (.getfield 26, 3) := rd_chunk (k := 0) (i := 57) kmX11_step_0_e0 (by decide +kernel)
theorem dX11_step_60 : decode cX11_step 60 = .ok (.getfield 148, 3) := rd_chunk (k := 0) (i := 60) kmX11_step_0_e0 (by decide +kernel)
theorem dX11_step_63 : decode cX11_step 63 = .ok (.iload_n 1, 1) := rd_chunk (k := 0) (i := 63) kmX11_step_0_e0 (by decide +kernel)
abbrev mX11_step_64_e0 : ByteArray := .mk #[0x2e, 0xac, 0x2a, 0xb4, 0x00, 0x1a, 0xb4, 0x00, 0x97, 0x1b, 0x2e, 0xac, 0x2a, 0xb4, 0x00, 0x1a, 0xb4, 0x00, 0x9a, 0x1b, 0x2e, 0xac, 0x2a, 0xb4, 0x00, 0x1a, 0xb4, 0x00, 0x9d, 0x1b, 0x2e, 0xac, 0x2a, 0xb4, 0x00, 0x1a, 0xb4, 0x00, 0xa0, 0x1b, 0xb6, 0x00, 0xa4, 0xac, 0xbb, 0x00, 0x8d, 0x59, 0x12, 0xaa, 0xb7, 0x00, 0x91, 0xbf]
theorem kmX11_step_64_e0 : CK cX11_step 64 mX11_step_64_e0 := ck_of (by decide +kernel)
theorem dX11_step_64 : decode cX11_step 64 = .ok (.iaload, 1) := rd_chunk (k := 64) (i := 0) kmX11_step_64_e0 (by decide +kernel)
theorem dX11_step_65 : decode cX11_step 65 = .ok (.ireturn, 1) := rd_chunk (k := 64) (i := 1) kmX11_step_64_e0 (by decide +kernel)
theorem dX11_step_66 : decode cX11_step 66 = .ok (.aload_n 0, 1) := rd_chunk (k := 64) (i := 2) kmX11_step_64_e0 (by decide +kernel)
theorem dX11_step_67 : decode cX11_step 67 = .ok (.getfield 26, 3) := rd_chunk (k := 64) (i := 3) kmX11_step_64_e0 (by decide +kernel)
theorem dX11_step_70 : decode cX11_step 70 = .ok (.getfield 151, 3) := rd_chunk (k := 64) (i := 6) kmX11_step_64_e0 (by decide +kernel)
theorem dX11_step_73 : decode cX11_step 73 = .ok (.iload_n 1, 1) := rd_chunk (k := 64) (i := 9) kmX11_step_64_e0 (by decide +kernel)
theorem dX11_step_74 : decode cX11_step 74 = .ok (.iaload, 1) := rd_chunk (k := 64) (i := 10) kmX11_step_64_e0 (by decide +kernel)
theorem dX11_step_75 : decode cX11_step 75 = .ok (.ireturn, 1) := rd_chunk (k := 64) (i := 11) kmX11_step_64_e0 (by decide +kernel)
theorem dX11_step_76 : decode cX11_step 76 = .ok (.aload_n 0, 1) := rd_chunk (k := 64) (i := 12) kmX11_step_64_e0 (by decide +kernel)
theorem dX11_step_77 : decode cX11_step 77 = .ok (.getfield 26, 3) := rd_chunk (k := 64) (i := 13) kmX11_step_64_e0 (by decide +kernel)
theorem dX11_step_80 : decode cX11_step 80 = .ok (.getfield 154, 3) := rd_chunk (k := 64) (i := 16) kmX11_step_64_e0 (by decide +kernel)
theorem dX11_step_83 : decode cX11_step 83 = .ok (.iload_n 1, 1) := rd_chunk (k := 64) (i := 19) kmX11_step_64_e0 (by decide +kernel)
theorem dX11_step_84 : decode cX11_step 84 = .ok (.iaload, 1) := rd_chunk (k := 64) (i := 20) kmX11_step_64_e0 (by decide +kernel)
theorem dX11_step_85 : decode cX11_step 85 = .ok (.ireturn, 1) := rd_chunk (k := 64) (i := 21) kmX11_step_64_e0 (by decide +kernel)
theorem dX11_step_86 : decode cX11_step 86 = .ok (.aload_n 0, 1) := rd_chunk (k := 64) (i := 22) kmX11_step_64_e0 (by decide +kernel)
theorem dX11_step_87 : decode cX11_step 87 = .ok (.getfield 26, 3) := rd_chunk (k := 64) (i := 23) kmX11_step_64_e0 (by decide +kernel)
theorem dX11_step_90 : decode cX11_step 90 = .ok (.getfield 157, 3) := rd_chunk (k := 64) (i := 26) kmX11_step_64_e0 (by decide +kernel)
theorem dX11_step_93 : decode cX11_step 93 = .ok (.iload_n 1, 1) := rd_chunk (k := 64) (i := 29) kmX11_step_64_e0 (by decide +kernel)
theorem dX11_step_94 : decode cX11_step 94 = .ok (.iaload, 1) := rd_chunk (k := 64) (i := 30) kmX11_step_64_e0 (by decide +kernel)
theorem dX11_step_95 : decode cX11_step 95 = .ok (.ireturn, 1) := rd_chunk (k := 64) (i := 31) kmX11_step_64_e0 (by decide +kernel)
theorem dX11_step_96 : decode cX11_step 96 = .ok (.aload_n 0, 1) := rd_chunk (k := 64) (i := 32) kmX11_step_64_e0 (by decide +kernel)
theorem dX11_step_97 : decode cX11_step 97 = .ok (.getfield 26, 3) := rd_chunk (k := 64) (i := 33) kmX11_step_64_e0 (by decide +kernel)
theorem dX11_step_100 : decode cX11_step 100 = .ok (.getfield 160, 3) := rd_chunk (k := 64) (i := 36) kmX11_step_64_e0 (by decide +kernel)
theorem dX11_step_103 : decode cX11_step 103 = .ok (.iload_n 1, 1) := rd_chunk (k := 64) (i := 39) kmX11_step_64_e0 (by decide +kernel)
theorem dX11_step_104 : decode cX11_step 104 = .ok (.invokevirtual 164, 3) := rd_chunk (k := 64) (i := 40) kmX11_step_64_e0 (by decide +kernel)
theorem dX11_step_107 : decode cX11_step 107 = .ok (.ireturn, 1) := rd_chunk (k := 64) (i := 43) kmX11_step_64_e0 (by decide +kernel)
theorem dX11_step_108 : decode cX11_step 108 = .ok (.new 141, 3) := rd_chunk (k := 64) (i := 44) kmX11_step_64_e0 (by decide +kernel)
theorem dX11_step_111 : decode cX11_step 111 = .ok (.dup, 1) := rd_chunk (k := 64) (i := 47) kmX11_step_64_e0 (by decide +kernel)
theorem dX11_step_112 : decode cX11_step 112 = .ok (.ldc 170, 2) := rd_chunk (k := 64) (i := 48) kmX11_step_64_e0 (by decide +kernel)
theorem dX11_step_114 : decode cX11_step 114 = .ok (.invokespecial 145, 3) := rd_chunk (k := 64) (i := 50) kmX11_step_64_e0 (by decide +kernel)
theorem dX11_step_117 : decode cX11_step 117 = .ok (.athrow, 1) := rd_chunk (k := 64) (i := 53) kmX11_step_64_e0 (by decide +kernel)
theorem dX11_set_0 : decode cX11_set 0 = .ok (.aload_n 0, 1) := by decide +kernel
theorem dX11_set_1 : decode cX11_set 1 = .ok (.getfield 26, 3) := by decide +kernel
theorem dX11_set_4 : decode cX11_set 4 = .ok (.iload_n 1, 1) := by decide +kernel
theorem dX11_set_5 : decode cX11_set 5 = .ok (.invokevirtual 138, 3) := by decide +kernel
theorem dX11_set_8 : decode cX11_set 8 = .ok (.ifCond .eq 7, 3) := by decide +kernel
theorem dX11_set_11 : decode cX11_set 11 = .ok (.iload_n 3, 1) := by decide +kernel
theorem dX11_set_12 : decode cX11_set 12 = .ok (.ifCond .ge 5, 3) := by decide +kernel
theorem dX11_set_15 : decode cX11_set 15 = .ok (.iconst (-1), 1) := by decide +kernel
theorem dX11_set_16 : decode cX11_set 16 = .ok (.ireturn, 1) := by decide +kernel
theorem dX11_set_17 : decode cX11_set 17 = .ok (.iconst (-1), 1) := by decide +kernel
theorem dX11_set_18 : decode cX11_set 18 = .ok (.istore 4, 2) := by decide +kernel
theorem dX11_set_20 : decode cX11_set 20 = .ok (.iload_n 2, 1) := by decide +kernel
theorem dX11_set_21 : decode cX11_set 21 = .ok (.ifCond .ne 33, 3) := by decide +kernel
theorem dX11_set_24 : decode cX11_set 24 = .ok (.iload_n 3, 1) := by decide +kernel
theorem dX11_set_25 : decode cX11_set 25 = .ok (.bipush 20, 2) := by decide +kernel
theorem dX11_set_27 : decode cX11_set 27 = .ok (.if_icmp .gt 27, 3) := by decide +kernel
theorem dX11_set_30 : decode cX11_set 30 = .ok (.aload_n 0, 1) := by decide +kernel
theorem dX11_set_31 : decode cX11_set 31 = .ok (.getfield 26, 3) := by decide +kernel
theorem dX11_set_34 : decode cX11_set 34 = .ok (.getfield 154, 3) := by decide +kernel
theorem dX11_set_37 : decode cX11_set 37 = .ok (.iload_n 1, 1) := by decide +kernel
theorem dX11_set_38 : decode cX11_set 38 = .ok (.iaload, 1) := by decide +kernel
theorem dX11_set_39 : decode cX11_set 39 = .ok (.istore 4, 2) := by decide +kernel
theorem dX11_set_41 : decode cX11_set 41 = .ok (.aload_n 0, 1) := by decide +kernel
theorem dX11_set_42 : decode cX11_set 42 = .ok (.getfield 26, 3) := by decide +kernel
theorem dX11_set_45 : decode cX11_set 45 = .ok (.getfield 154, 3) := by decide +kernel
theorem dX11_set_48 : decode cX11_set 48 = .ok (.iload_n 1, 1) := by decide +kernel
theorem dX11_set_49 : decode cX11_set 49 = .ok (.iload_n 3, 1) := by decide +kernel
theorem dX11_set_50 : decode cX11_set 50 = .ok (.iastore, 1) := by decide +kernel
theorem dX11_set_51 : decode cX11_set 51 = .ok (.goto 35, 3) := by decide +kernel
theorem dX11_set_54 : decode cX11_set 54 = .ok (.iload_n 2, 1) := by decide +kernel
theorem dX11_set_55 : decode cX11_set 55 = .ok (.iconst 1, 1) := by decide +kernel
theorem dX11_set_56 : decode cX11_set 56 = .ok (.if_icmp .ne 30, 3) := by decide +kernel
theorem dX11_set_59 : decode cX11_set 59 = .ok (.iload_n 3, 1) := by decide +kernel
theorem dX11_set_60 : decode cX11_set 60 = .ok (.bipush 9, 2) := by decide +kernel
theorem dX11_set_62 : decode cX11_set 62 = .ok (.if_icmp .gt 24, 3) := by decide +kernel
theorem dX11_set_65 : decode cX11_set 65 = .ok (.aload_n 0, 1) := by decide +kernel
theorem dX11_set_66 : decode cX11_set 66 = .ok (.getfield 26, 3) := by decide +kernel
theorem dX11_set_69 : decode cX11_set 69 = .ok (.getfield 151, 3) := by decide +kernel
theorem dX11_set_72 : decode cX11_set 72 = .ok (.iload_n 1, 1) := by decide +kernel
theorem dX11_set_73 : decode cX11_set 73 = .ok (.iaload, 1) := by decide +kernel
theorem dX11_set_74 : decode cX11_set 74 = .ok (.istore 4, 2) := by decide +kernel
theorem dX11_set_76 : decode cX11_set 76 = .ok (.aload_n 0, 1) := by decide +kernel
theorem dX11_set_77 : decode cX11_set 77 = .ok (.getfield 26, 3) := by decide +kernel
theorem dX11_set_80 : decode cX11_set 80 = .ok (.getfield 151, 3) := by decide +kernel
theorem dX11_set_83 : decode cX11_set 83 = .ok (.iload_n 1, 1) := by decide +kernel
theorem dX11_set_84 : decode cX11_set 84 = .ok (.iload_n 3, 1) := by decide +kernel
theorem dX11_set_85 : decode cX11_set 85 = .ok (.iastore, 1) := by decide +kernel
theorem dX11_set_86 : decode cX11_set 86 = .ok (.iload 4, 2) := by decide +kernel
theorem dX11_set_88 : decode cX11_set 88 = .ok (.ireturn, 1) := by decide +kernel
abbrev mX11_sheet_0_e0 : ByteArray := .mk #[0x1b, 0x9b, 0x00, 0x0e, 0x1b, 0x06, 0xa3, 0x00, 0x09, 0x1c, 0x10, 0x18, 0xa4, 0x00, 0x05, 0x02, 0xac, 0x1b, 0x06, 0xa0, 0x00, 0x07, 0x04, 0xa7, 0x00, 0x04, 0x03, 0x36, 0x05, 0x15, 0x05, 0x9a, 0x00, 0x0a, 0x1c, 0x9c, 0x00, 0x06, 0x10, 0xfe, 0xac, 0x15, 0x05, 0x99, 0x00, 0x07, 0x03, 0xa7, 0x00, 0x04, 0x1c, 0x36, 0x06, 0x03, 0x36, 0x07, 0x15, 0x07, 0x2a, 0xb4, 0x00, 0x1a, 0xb4, 0x00, 0xac, 0xa2, 0x00, 0x29, 0x2a, 0xb4, 0x00, 0x1a]
theorem kmX11_sheet_0_e0 : CK cX11_sheet 0 mX11_sheet_0_e0 := ck_of (by decide +kernel)
theorem dX11_sheet_0 : decode cX11_sheet 0 = .ok (.iload_n 1, 1) := rd_chunk (k := 0) (i := 0) kmX11_sheet_0_e0 (by decide +kernel)
theorem dX11_sheet_1 : decode cX11_sheet 1 = .ok (.ifCond .lt 14, 3) := rd_chunk (k := 0) (i := 1) kmX11_sheet_0_e0 (by decide +kernel)
theorem dX11_sheet_4 : decode cX11_sheet 4 = .ok (.iload_n 1, 1) := rd_chunk (k := 0) (i := 4) kmX11_sheet_0_e0 (by decide +kernel)
theorem dX11_sheet_5 : decode cX11_sheet 5 = .ok (.iconst 3, 1) := rd_chunk (k := 0) (i := 5) kmX11_sheet_0_e0 (by decide +kernel)
theorem dX11_sheet_6 : decode cX11_sheet 6 = .ok (.if_icmp .gt 9, 3) := rd_chunk (k := 0) (i := 6) kmX11_sheet_0_e0 (by decide +kernel)
theorem dX11_sheet_9 : decode cX11_sheet 9 = .ok (.iload_n 2, 1) := rd_chunk (k := 0) (i := 9) kmX11_sheet_0_e0 (by decide +kernel)
theorem dX11_sheet_10 : decode cX11_sheet 10 = .ok (.bipush 24, 2) := rd_chunk (k := 0) (i := 10) kmX11_sheet_0_e0 (by decide +kernel)
theorem dX11_sheet_12 : decode cX11_sheet 12 = .ok (.if_icmp .le 5, 3) := rd_chunk (k := 0) (i := 12) kmX11_sheet_0_e0 (by decide +kernel)
theorem dX11_sheet_15 : decode cX11_sheet 15 = .ok (.iconst (-1), 1) := rd_chunk (k := 0) (i := 15) kmX11_sheet_0_e0 (by decide +kernel)
theorem dX11_sheet_16 : decode cX11_sheet 16 = .ok (.ireturn, 1) := rd_chunk (k := 0) (i := 16) kmX11_sheet_0_e0 (by decide +kernel)
theorem dX11_sheet_17 : decode cX11_sheet 17 = .ok (.iload_n 1, 1) := rd_chunk (k := 0) (i := 17) kmX11_sheet_0_e0 (by decide +kernel)
theorem dX11_sheet_18 : decode cX11_sheet 18 = .ok (.iconst 3, 1) := rd_chunk (k := 0) (i := 18) kmX11_sheet_0_e0 (by decide +kernel)
theorem dX11_sheet_19 : decode cX11_sheet 19 = .ok (.if_icmp .ne 7, 3) := rd_chunk (k := 0) (i := 19) kmX11_sheet_0_e0 (by decide +kernel)
theorem dX11_sheet_22 : decode cX11_sheet 22 = .ok (.iconst 1, 1) := rd_chunk (k := 0) (i := 22) kmX11_sheet_0_e0 (by decide +kernel)
theorem dX11_sheet_23 : decode cX11_sheet 23 = .ok (.goto 4, 3) := rd_chunk (k := 0) (i := 23) kmX11_sheet_0_e0 (by decide +kernel)
theorem dX11_sheet_26 : decode cX11_sheet 26 = .ok (.iconst 0, 1) := rd_chunk (k := 0) (i := 26) kmX11_sheet_0_e0 (by decide +kernel)
theorem dX11_sheet_27 : decode cX11_sheet 27 = .ok (.istore 5, 2) := rd_chunk (k := 0) (i := 27) kmX11_sheet_0_e0 (by decide +kernel)
theorem dX11_sheet_29 : decode cX11_sheet 29 = .ok (.iload 5, 2) := rd_chunk (k := 0) (i := 29) kmX11_sheet_0_e0 (by decide +kernel)
theorem dX11_sheet_31 : decode cX11_sheet 31 = .ok (.ifCond .ne 10, 3) := rd_chunk (k := 0) (i := 31) kmX11_sheet_0_e0 (by decide +kernel)
theorem dX11_sheet_34 : decode cX11_sheet 34 = .ok (.iload_n 2, 1) := rd_chunk (k := 0) (i := 34) kmX11_sheet_0_e0 (by decide +kernel)
theorem dX11_sheet_35 : decode cX11_sheet 35 = .ok (.ifCond .ge 6, 3) := rd_chunk (k := 0) (i := 35) kmX11_sheet_0_e0 (by decide +kernel)
theorem dX11_sheet_38 : decode cX11_sheet 38 = .ok (.bipush (-2), 2) := rd_chunk (k := 0) (i := 38) kmX11_sheet_0_e0 (by decide +kernel)
theorem dX11_sheet_40 : decode cX11_sheet 40 = .ok (.ireturn, 1) := rd_chunk (k := 0) (i := 40) kmX11_sheet_0_e0 (by decide +kernel)
theorem dX11_sheet_41 : decode cX11_sheet 41 = .ok (.iload 5, 2) := rd_chunk (k := 0) (i := 41) kmX11_sheet_0_e0 (by decide +kernel)
theorem dX11_sheet_43 : decode cX11_sheet 43 = .ok (.ifCond .eq 7, 3) := rd_chunk (k := 0) (i := 43) kmX11_sheet_0_e0 (by decide +kernel)
theorem dX11_sheet_46 : decode cX11_sheet 46 = .ok (.iconst 0, 1) := rd_chunk (k := 0) (i := 46) kmX11_sheet_0_e0 (by decide +kernel)
theorem dX11_sheet_47 : decode cX11_sheet 47 = .ok (.goto 4, 3) := rd_chunk (k := 0) (i := 47) kmX11_sheet_0_e0 (by decide +kernel)
theorem dX11_sheet_50 : decode cX11_sheet 50 = .ok (.iload_n 2, 1) := rd_chunk (k := 0) (i := 50) kmX11_sheet_0_e0 (by decide +kernel)
theorem dX11_sheet_51 : decode cX11_sheet 51 = .ok (.istore 6, 2) := rd_chunk (k := 0) (i := 51) kmX11_sheet_0_e0 (by decide +kernel)
theorem dX11_sheet_53 : decode cX11_sheet 53 = .ok (.iconst 0, 1) := rd_chunk (k := 0) (i := 53) kmX11_sheet_0_e0 (by decide +kernel)
theorem dX11_sheet_54 : decode cX11_sheet 54 = .ok (.istore 7, 2) := rd_chunk (k := 0) (i := 54) kmX11_sheet_0_e0 (by decide +kernel)
theorem dX11_sheet_56 : decode cX11_sheet 56 = .ok (.iload 7, 2) := rd_chunk (k := 0) (i := 56) kmX11_sheet_0_e0 (by decide +kernel)
theorem dX11_sheet_58 : decode cX11_sheet 58 = .ok (.aload_n 0, 1) := rd_chunk (k := 0) (i := 58) kmX11_sheet_0_e0 (by decide +kernel)
theorem dX11_sheet_59 : decode cX11_sheet 59 = .ok (.getfield 26, 3) := rd_chunk (k := 0) (i := 59) kmX11_sheet_0_e0 (by decide +kernel)
theorem dX11_sheet_62 : decode cX11_sheet 62 = .ok (.getfield 172, 3) := rd_chunk (k := 0) (i := 62) kmX11_sheet_0_e0 (by decide +kernel)
abbrev mX11_sheet_64_e0 : ByteArray := .mk #[0xac, 0xa2, 0x00, 0x29, 0x2a, 0xb4, 0x00, 0x1a, 0xb4, 0x00, 0x9a, 0x15, 0x07, 0x15, 0x07, 0x15, 0x06, 0xa2, 0x00, 0x11, 0x1b, 0x1d, 0x15, 0x07, 0x15, 0x04, 0x68, 0x60, 0xb8, 0x00, 0xad, 0xa7, 0x00, 0x04, 0x03, 0x4f, 0x84, 0x07, 0x01, 0xa7, 0xff, 0xd1, 0x15, 0x05, 0x99, 0x00, 0x08, 0x10, 0xfd, 0xa7, 0x00, 0x0a, 0x2a, 0xb4, 0x00, 0x1a, 0xb6, 0x00, 0xb1, 0xac]
theorem kmX11_sheet_64_e0 : CK cX11_sheet 64 mX11_sheet_64_e0 := ck_of (by decide +kernel)
theorem dX11_sheet_65 : decode cX11_sheet 65 = .ok (.if_icmp .ge 41, 3) := rd_chunk (k := 64) (i := 1) kmX11_sheet_64_e0 (by decide +kernel)
theorem dX11_sheet_68 : decode cX11_sheet 68 = .ok (.aload_n 0, 1) := rd_chunk (k := 64) (i := 4) kmX11_sheet_64_e0 (by decide +kernel)
theorem dX11_sheet_69 : decode cX11_sheet 69 = .ok (.getfield 26, 3) := rd_chunk (k := 64) (i := 5) kmX11_sheet_64_e0 (by decide +kernel)
theorem dX11_sheet_72 : decode cX11_sheet 72 = .ok (.getfield 154, 3) := rd_chunk (k := 64) (i := 8) kmX11_sheet_64_e0 (by decide +kernel)
theorem dX11_sheet_75 : decode cX11_sheet 75 = .ok (.iload 7, 2) := rd_chunk (k := 64) (i := 11) kmX11_sheet_64_e0 (by decide +kernel)
theorem dX11_sheet_77 : decode cX11_sheet 77 = .ok (.iload 7, 2) := rd_chunk (k := 64) (i := 13) kmX11_sheet_64_e0 (by decide +kernel)
theorem dX11_sheet_79 : decode cX11_sheet 79 = .ok (.iload 6, 2) := rd_chunk (k := 64) (i := 15) kmX11_sheet_64_e0 (by decide +kernel)
theorem dX11_sheet_81 : decode cX11_sheet 81 = .ok (.if_icmp .ge 17, 3) := rd_chunk (k := 64) (i := 17) kmX11_sheet_64_e0 (by decide +kernel)
theorem dX11_sheet_84 : decode cX11_sheet 84 = .ok (.iload_n 1, 1) := rd_chunk (k := 64) (i := 20) kmX11_sheet_64_e0 (by decide +kernel)
theorem dX11_sheet_85 : decode cX11_sheet 85 = .ok (.iload_n 3, 1) := rd_chunk (k := 64) (i := 21) kmX11_sheet_64_e0 (by decide +kernel)
theorem dX11_sheet_86 : decode cX11_sheet 86 = .ok (.iload 7, 2) := rd_chunk (k := 64) (i := 22) kmX11_sheet_64_e0 (by decide +kernel)
theorem dX11_sheet_88 : decode cX11_sheet 88 = .ok (.iload 4, 2) := rd_chunk (k := 64) (i := 24) kmX11_sheet_64_e0 (by decide +kernel)
theorem dX11_sheet_90 : decode cX11_sheet 90 = .ok (.imul, 1) := rd_chunk (k := 64) (i := 26) kmX11_sheet_64_e0 (by decide +kernel)
theorem dX11_sheet_91 : decode cX11_sheet 91 = .ok (.iadd, 1) := rd_chunk (k := 64) (i := 27) kmX11_sheet_64_e0 (by decide +kernel)
theorem dX11_sheet_92 : decode cX11_sheet 92 = .ok (.invokestatic 173, 3) := rd_chunk (k := 64) (i := 28) kmX11_sheet_64_e0 (by decide +kernel)
theorem dX11_sheet_95 : decode cX11_sheet 95 = .ok (.goto 4, 3) := rd_chunk (k := 64) (i := 31) kmX11_sheet_64_e0 (by decide +kernel)
theorem dX11_sheet_98 : decode cX11_sheet 98 = .ok (.iconst 0, 1) := rd_chunk (k := 64) (i := 34) kmX11_sheet_64_e0 (by decide +kernel)
theorem dX11_sheet_99 : decode cX11_sheet 99 = .ok (.iastore, 1) := rd_chunk (k := 64) (i := 35) kmX11_sheet_64_e0 (by decide +kernel)
theorem dX11_sheet_100 : decode cX11_sheet 100 = .ok (.iinc 7 1, 3) := rd_chunk (k := 64) (i := 36) kmX11_sheet_64_e0 (by decide +kernel)
theorem dX11_sheet_103 : decode cX11_sheet 103 = .ok (.goto (-47), 3) := rd_chunk (k := 64) (i := 39) kmX11_sheet_64_e0 (by decide +kernel)
theorem dX11_sheet_106 : decode cX11_sheet 106 = .ok (.iload 5, 2) := rd_chunk (k := 64) (i := 42) kmX11_sheet_64_e0 (by decide +kernel)
theorem dX11_sheet_108 : decode cX11_sheet 108 = .ok (.ifCond .eq 8, 3) := rd_chunk (k := 64) (i := 44) kmX11_sheet_64_e0 (by decide +kernel)
theorem dX11_sheet_111 : decode cX11_sheet 111 = .ok (.bipush (-3), 2) := rd_chunk (k := 64) (i := 47) kmX11_sheet_64_e0 (by decide +kernel)
theorem dX11_sheet_113 : decode cX11_sheet 113 = .ok (.goto 10, 3) := rd_chunk (k := 64) (i := 49) kmX11_sheet_64_e0 (by decide +kernel)
theorem dX11_sheet_116 : decode cX11_sheet 116 = .ok (.aload_n 0, 1) := rd_chunk (k := 64) (i := 52) kmX11_sheet_64_e0 (by decide +kernel)
theorem dX11_sheet_117 : decode cX11_sheet 117 = .ok (.getfield 26, 3) := rd_chunk (k := 64) (i := 53) kmX11_sheet_64_e0 (by decide +kernel)
theorem dX11_sheet_120 : decode cX11_sheet 120 = .ok (.invokevirtual 177, 3) := rd_chunk (k := 64) (i := 56) kmX11_sheet_64_e0 (by decide +kernel)
theorem dX11_sheet_123 : decode cX11_sheet 123 = .ok (.ireturn, 1) := rd_chunk (k := 64) (i := 59) kmX11_sheet_64_e0 (by decide +kernel)
theorem dX11_feud_0 : decode cX11_feud 0 = .ok (.iload_n 1, 1) := by decide +kernel
theorem dX11_feud_1 : decode cX11_feud 1 = .ok (.invokestatic 181, 3) := by decide +kernel
theorem dX11_feud_4 : decode cX11_feud 4 = .ok (.ifCond .eq 15, 3) := by decide +kernel
theorem dX11_feud_7 : decode cX11_feud 7 = .ok (.iload_n 2, 1) := by decide +kernel
theorem dX11_feud_8 : decode cX11_feud 8 = .ok (.invokestatic 181, 3) := by decide +kernel
theorem dX11_feud_11 : decode cX11_feud 11 = .ok (.ifCond .eq 8, 3) := by decide +kernel
theorem dX11_feud_14 : decode cX11_feud 14 = .ok (.iload_n 1, 1) := by decide +kernel
theorem dX11_feud_15 : decode cX11_feud 15 = .ok (.iload_n 2, 1) := by decide +kernel
theorem dX11_feud_16 : decode cX11_feud 16 = .ok (.if_icmp .ne 5, 3) := by decide +kernel
theorem dX11_feud_19 : decode cX11_feud 19 = .ok (.iconst 0, 1) := by decide +kernel
theorem dX11_feud_20 : decode cX11_feud 20 = .ok (.ireturn, 1) := by decide +kernel
theorem dX11_feud_21 : decode cX11_feud 21 = .ok (.aload_n 0, 1) := by decide +kernel
theorem dX11_feud_22 : decode cX11_feud 22 = .ok (.getfield 26, 3) := by decide +kernel
theorem dX11_feud_25 : decode cX11_feud 25 = .ok (.iload_n 1, 1) := by decide +kernel
theorem dX11_feud_26 : decode cX11_feud 26 = .ok (.iload_n 2, 1) := by decide +kernel
theorem dX11_feud_27 : decode cX11_feud 27 = .ok (.iload_n 3, 1) := by decide +kernel
theorem dX11_feud_28 : decode cX11_feud 28 = .ok (.invokevirtual 184, 3) := by decide +kernel
theorem dX11_feud_31 : decode cX11_feud 31 = .ok (.iconst 1, 1) := by decide +kernel
theorem dX11_feud_32 : decode cX11_feud 32 = .ok (.ireturn, 1) := by decide +kernel
theorem dX11_wears_0 : decode cX11_wears 0 = .ok (.iload_n 1, 1) := by decide +kernel
theorem dX11_wears_1 : decode cX11_wears 1 = .ok (.ifCond .lt 9, 3) := by decide +kernel
theorem dX11_wears_4 : decode cX11_wears 4 = .ok (.iload_n 1, 1) := by decide +kernel
theorem dX11_wears_5 : decode cX11_wears 5 = .ok (.bipush 9, 2) := by decide +kernel
theorem dX11_wears_7 : decode cX11_wears 7 = .ok (.if_icmp .le 5, 3) := by decide +kernel
theorem dX11_wears_10 : decode cX11_wears 10 = .ok (.iconst (-1), 1) := by decide +kernel
theorem dX11_wears_11 : decode cX11_wears 11 = .ok (.ireturn, 1) := by decide +kernel
theorem dX11_wears_12 : decode cX11_wears 12 = .ok (.iconst 0, 1) := by decide +kernel
theorem dX11_wears_13 : decode cX11_wears 13 = .ok (.istore_n 2, 1) := by decide +kernel
theorem dX11_wears_14 : decode cX11_wears 14 = .ok (.iconst 0, 1) := by decide +kernel
theorem dX11_wears_15 : decode cX11_wears 15 = .ok (.istore_n 3, 1) := by decide +kernel
theorem dX11_wears_16 : decode cX11_wears 16 = .ok (.iload_n 3, 1) := by decide +kernel
theorem dX11_wears_17 : decode cX11_wears 17 = .ok (.aload_n 0, 1) := by decide +kernel
theorem dX11_wears_18 : decode cX11_wears 18 = .ok (.getfield 26, 3) := by decide +kernel
theorem dX11_wears_21 : decode cX11_wears 21 = .ok (.getfield 172, 3) := by decide +kernel
theorem dX11_wears_24 : decode cX11_wears 24 = .ok (.if_icmp .ge 45, 3) := by decide +kernel
theorem dX11_wears_27 : decode cX11_wears 27 = .ok (.aload_n 0, 1) := by decide +kernel
theorem dX11_wears_28 : decode cX11_wears 28 = .ok (.getfield 26, 3) := by decide +kernel
theorem dX11_wears_31 : decode cX11_wears 31 = .ok (.getfield 151, 3) := by decide +kernel
theorem dX11_wears_34 : decode cX11_wears 34 = .ok (.iload_n 3, 1) := by decide +kernel
theorem dX11_wears_35 : decode cX11_wears 35 = .ok (.iconst 0, 1) := by decide +kernel
theorem dX11_wears_36 : decode cX11_wears 36 = .ok (.aload_n 0, 1) := by decide +kernel
theorem dX11_wears_37 : decode cX11_wears 37 = .ok (.getfield 26, 3) := by decide +kernel
theorem dX11_wears_40 : decode cX11_wears 40 = .ok (.getfield 151, 3) := by decide +kernel
theorem dX11_wears_43 : decode cX11_wears 43 = .ok (.iload_n 3, 1) := by decide +kernel
theorem dX11_wears_44 : decode cX11_wears 44 = .ok (.iaload, 1) := by decide +kernel
theorem dX11_wears_45 : decode cX11_wears 45 = .ok (.iload_n 1, 1) := by decide +kernel
theorem dX11_wears_46 : decode cX11_wears 46 = .ok (.isub, 1) := by decide +kernel
theorem dX11_wears_47 : decode cX11_wears 47 = .ok (.invokestatic 188, 3) := by decide +kernel
theorem dX11_wears_50 : decode cX11_wears 50 = .ok (.iastore, 1) := by decide +kernel
theorem dX11_wears_51 : decode cX11_wears 51 = .ok (.iload_n 2, 1) := by decide +kernel
theorem dX11_wears_52 : decode cX11_wears 52 = .ok (.aload_n 0, 1) := by decide +kernel
theorem dX11_wears_53 : decode cX11_wears 53 = .ok (.getfield 26, 3) := by decide +kernel
theorem dX11_wears_56 : decode cX11_wears 56 = .ok (.getfield 151, 3) := by decide +kernel
theorem dX11_wears_59 : decode cX11_wears 59 = .ok (.iload_n 3, 1) := by decide +kernel
theorem dX11_wears_60 : decode cX11_wears 60 = .ok (.iaload, 1) := by decide +kernel
theorem dX11_wears_61 : decode cX11_wears 61 = .ok (.iadd, 1) := by decide +kernel
theorem dX11_wears_62 : decode cX11_wears 62 = .ok (.istore_n 2, 1) := by decide +kernel
theorem dX11_wears_63 : decode cX11_wears 63 = .ok (.iinc 3 1, 3) := by decide +kernel
theorem dX11_wears_66 : decode cX11_wears 66 = .ok (.goto (-50), 3) := by decide +kernel
theorem dX11_wears_69 : decode cX11_wears 69 = .ok (.iload_n 2, 1) := by decide +kernel
theorem dX11_wears_70 : decode cX11_wears 70 = .ok (.ireturn, 1) := by decide +kernel
abbrev mX11_pilgrim_0_e0 : ByteArray := .mk #[0x1b, 0x04, 0xa1, 0x00, 0x2e, 0x1b, 0x10, 0x78, 0xa3, 0x00, 0x28, 0x1c, 0x9b, 0x00, 0x24, 0x1c, 0x11, 0x03, 0xe7, 0xa3, 0x00, 0x1d, 0x1d, 0x04, 0xa1, 0x00, 0x18, 0x1d, 0x06, 0xa3, 0x00, 0x13, 0x15, 0x04, 0x9b, 0x00, 0x0e, 0x15, 0x04, 0x10, 0x32, 0xa3, 0x00, 0x07, 0x04, 0xa7, 0x00, 0x04, 0x03, 0x36, 0x05, 0x15, 0x05, 0x99, 0x00, 0x0c, 0x2a, 0xb4, 0x00, 0x24, 0x10, 0x06, 0xa1, 0x00, 0x05, 0x02, 0xac, 0x2a, 0xb4, 0x00, 0x20, 0x2a]
theorem kmX11_pilgrim_0_e0 : CK cX11_pilgrim 0 mX11_pilgrim_0_e0 := ck_of (by decide +kernel)
theorem dX11_pilgrim_0 : decode cX11_pilgrim 0 = .ok (.iload_n 1, 1) := rd_chunk (k := 0) (i := 0) kmX11_pilgrim_0_e0 (by decide +kernel)
theorem dX11_pilgrim_1 : decode cX11_pilgrim 1 = .ok (.iconst 1, 1) := rd_chunk (k := 0) (i := 1) kmX11_pilgrim_0_e0 (by decide +kernel)
theorem dX11_pilgrim_2 : decode cX11_pilgrim 2 = .ok (.if_icmp .lt 46, 3) := rd_chunk (k := 0) (i := 2) kmX11_pilgrim_0_e0 (by decide +kernel)
theorem dX11_pilgrim_5 : decode cX11_pilgrim 5 = .ok (.iload_n 1, 1) := rd_chunk (k := 0) (i := 5) kmX11_pilgrim_0_e0 (by decide +kernel)
theorem dX11_pilgrim_6 : decode cX11_pilgrim 6 = .ok (.bipush 120, 2) := rd_chunk (k := 0) (i := 6) kmX11_pilgrim_0_e0 (by decide +kernel)
theorem dX11_pilgrim_8 : decode cX11_pilgrim 8 = .ok (.if_icmp .gt 40, 3) := rd_chunk (k := 0) (i := 8) kmX11_pilgrim_0_e0 (by decide +kernel)
theorem dX11_pilgrim_11 : decode cX11_pilgrim 11 = .ok (.iload_n 2, 1) := rd_chunk (k := 0) (i := 11) kmX11_pilgrim_0_e0 (by decide +kernel)
theorem dX11_pilgrim_12 : decode cX11_pilgrim 12 = .ok (.ifCond .lt 36, 3) := rd_chunk (k := 0) (i := 12) kmX11_pilgrim_0_e0 (by decide +kernel)
theorem dX11_pilgrim_15 : decode cX11_pilgrim 15 = .ok (.iload_n 2, 1) := rd_chunk (k := 0) (i := 15) kmX11_pilgrim_0_e0 (by decide +kernel)
theorem dX11_pilgrim_16 : decode cX11_pilgrim 16 = .ok (.sipush 999, 3) := rd_chunk (k := 0) (i := 16) kmX11_pilgrim_0_e0 (by decide +kernel)
theorem dX11_pilgrim_19 : decode cX11_pilgrim 19 = .ok (.if_icmp .gt 29, 3) := rd_chunk (k := 0) (i := 19) kmX11_pilgrim_0_e0 (by decide +kernel)
theorem dX11_pilgrim_22 : decode cX11_pilgrim 22 = .ok (.iload_n 3, 1) := rd_chunk (k := 0) (i := 22) kmX11_pilgrim_0_e0 (by decide +kernel)
theorem dX11_pilgrim_23 : decode cX11_pilgrim 23 = .ok (.iconst 1, 1) := rd_chunk (k := 0) (i := 23) kmX11_pilgrim_0_e0 (by decide +kernel)
theorem dX11_pilgrim_24 : decode cX11_pilgrim 24 = .ok (.if_icmp .lt 24, 3) := rd_chunk (k := 0) (i := 24) kmX11_pilgrim_0_e0 (by decide +kernel)
theorem dX11_pilgrim_27 : decode cX11_pilgrim 27 = .ok (.iload_n 3, 1) := rd_chunk (k := 0) (i := 27) kmX11_pilgrim_0_e0 (by decide +kernel)
theorem dX11_pilgrim_28 : decode cX11_pilgrim 28 = .ok (.iconst 3, 1) := rd_chunk (k := 0) (i := 28) kmX11_pilgrim_0_e0 (by decide +kernel)
theorem dX11_pilgrim_29 : decode cX11_pilgrim 29 = .ok (.if_icmp .gt 19, 3) := rd_chunk (k := 0) (i := 29) kmX11_pilgrim_0_e0 (by decide +kernel)
theorem dX11_pilgrim_32 : decode cX11_pilgrim 32 = .ok (.iload 4, 2) := rd_chunk (k := 0) (i := 32) kmX11_pilgrim_0_e0 (by decide +kernel)
theorem dX11_pilgrim_34 : decode cX11_pilgrim 34 = .ok (.ifCond .lt 14, 3) := rd_chunk (k := 0) (i := 34) kmX11_pilgrim_0_e0 (by decide +kernel)
theorem dX11_pilgrim_37 : decode cX11_pilgrim 37 = .ok (.iload 4, 2) := rd_chunk (k := 0) (i := 37) kmX11_pilgrim_0_e0 (by decide +kernel)
theorem dX11_pilgrim_39 : decode cX11_pilgrim 39 = .ok (.bipush 50, 2) := rd_chunk (k := 0) (i := 39) kmX11_pilgrim_0_e0 (by decide +kernel)
theorem dX11_pilgrim_41 : decode cX11_pilgrim 41 = .ok (.if_icmp .gt 7, 3) := rd_chunk (k := 0) (i := 41) kmX11_pilgrim_0_e0 (by decide +kernel)
theorem dX11_pilgrim_44 : decode cX11_pilgrim 44 = .ok (.iconst 1, 1) := rd_chunk (k := 0) (i := 44) kmX11_pilgrim_0_e0 (by decide +kernel)
theorem dX11_pilgrim_45 : decode cX11_pilgrim 45 = .ok (.goto 4, 3) := rd_chunk (k := 0) (i := 45) kmX11_pilgrim_0_e0 (by decide +kernel)
theorem dX11_pilgrim_48 : decode cX11_pilgrim 48 = .ok (.iconst 0, 1) := rd_chunk (k := 0) (i := 48) kmX11_pilgrim_0_e0 (by decide +kernel)
theorem dX11_pilgrim_49 : decode cX11_pilgrim 49 = .ok (.istore 5, 2) := rd_chunk (k := 0) (i := 49) kmX11_pilgrim_0_e0 (by decide +kernel)
theorem dX11_pilgrim_51 : decode cX11_pilgrim 51 = .ok (.iload 5, 2) := rd_chunk (k := 0) (i := 51) kmX11_pilgrim_0_e0 (by decide +kernel)
theorem dX11_pilgrim_53 : decode cX11_pilgrim 53 = .ok (.ifCond .eq 12, 3) := rd_chunk (k := 0) (i := 53) kmX11_pilgrim_0_e0 (by decide +kernel)
theorem dX11_pilgrim_56 : decode cX11_pilgrim 56 = .ok (.aload_n 0, 1) := rd_chunk (k := 0) (i := 56) kmX11_pilgrim_0_e0 (by decide +kernel)
theorem dX11_pilgrim_57 : decode cX11_pilgrim 57 = .ok (.getfield 36, 3) := rd_chunk (k := 0) (i := 57) kmX11_pilgrim_0_e0 (by decide +kernel)
theorem dX11_pilgrim_60 : decode cX11_pilgrim 60 = .ok (.bipush 6, 2) := rd_chunk (k := 0) (i := 60) kmX11_pilgrim_0_e0 (by decide +kernel)
theorem dX11_pilgrim_62 : decode cX11_pilgrim 62 = .ok (.if_icmp .lt 5, 3) := rd_chunk (k := 0) (i := 62) kmX11_pilgrim_0_e0 (by decide +kernel)
abbrev mX11_pilgrim_64_e0 : ByteArray := .mk #[0x05, 0x02, 0xac, 0x2a, 0xb4, 0x00, 0x20, 0x2a, 0xb4, 0x00, 0x24, 0xbb, 0x00, 0x1e, 0x59, 0x2a, 0xb4, 0x00, 0x1a, 0x1b, 0x1c, 0x1d, 0x15, 0x04, 0xb7, 0x00, 0xc1, 0x53, 0x2a, 0x59, 0xb4, 0x00, 0x24, 0x04, 0x60, 0xb5, 0x00, 0x24, 0x2a, 0xb4, 0x00, 0x24, 0x04, 0x64, 0xac]
theorem kmX11_pilgrim_64_e0 : CK cX11_pilgrim 64 mX11_pilgrim_64_e0 := ck_of (by decide +kernel)
theorem dX11_pilgrim_65 : decode cX11_pilgrim 65 = .ok (.iconst (-1), 1) := rd_chunk (k := 64) (i := 1) kmX11_pilgrim_64_e0 (by decide +kernel)
theorem dX11_pilgrim_66 : decode cX11_pilgrim 66 = .ok (.ireturn, 1) := rd_chunk (k := 64) (i := 2) kmX11_pilgrim_64_e0 (by decide +kernel)
theorem dX11_pilgrim_67 : decode cX11_pilgrim 67 = .ok (.aload_n 0, 1) := rd_chunk (k := 64) (i := 3) kmX11_pilgrim_64_e0 (by decide +kernel)
theorem dX11_pilgrim_68 : decode cX11_pilgrim 68 = .ok (.getfield 32, 3) := rd_chunk (k := 64) (i := 4) kmX11_pilgrim_64_e0 (by decide +kernel)
theorem dX11_pilgrim_71 : decode cX11_pilgrim 71 = .ok (.aload_n 0, 1) := rd_chunk (k := 64) (i := 7) kmX11_pilgrim_64_e0 (by decide +kernel)
theorem dX11_pilgrim_72 : decode cX11_pilgrim 72 = .ok (.getfield 36, 3) := rd_chunk (k := 64) (i := 8) kmX11_pilgrim_64_e0 (by decide +kernel)
theorem dX11_pilgrim_75 : decode cX11_pilgrim 75 = .ok (.new 30, 3) := rd_chunk (k := 64) (i := 11) kmX11_pilgrim_64_e0 (by decide +kernel)
theorem dX11_pilgrim_78 : decode cX11_pilgrim 78 = .ok (.dup, 1) := rd_chunk (k := 64) (i := 14) kmX11_pilgrim_64_e0 (by decide +kernel)
theorem dX11_pilgrim_79 : decode cX11_pilgrim 79 = .ok (.aload_n 0, 1) := rd_chunk (k := 64) (i := 15) kmX11_pilgrim_64_e0 (by decide +kernel)
theorem dX11_pilgrim_80 : decode cX11_pilgrim 80 = .ok (.getfield 26, 3) := rd_chunk (k := 64) (i := 16) kmX11_pilgrim_64_e0 (by decide +kernel)
theorem dX11_pilgrim_83 : decode cX11_pilgrim 83 = .ok (.iload_n 1, 1) := rd_chunk (k := 64) (i := 19) kmX11_pilgrim_64_e0 (by decide +kernel)
theorem dX11_pilgrim_84 : decode cX11_pilgrim 84 = .ok (.iload_n 2, 1) := rd_chunk (k := 64) (i := 20) kmX11_pilgrim_64_e0 (by decide +kernel)
theorem dX11_pilgrim_85 : decode cX11_pilgrim 85 = .ok (.iload_n 3, 1) := rd_chunk (k := 64) (i := 21) kmX11_pilgrim_64_e0 (by decide +kernel)
theorem dX11_pilgrim_86 : decode cX11_pilgrim 86 = .ok (.iload 4, 2) := rd_chunk (k := 64) (i := 22) kmX11_pilgrim_64_e0 (by decide +kernel)
theorem dX11_pilgrim_88 : decode cX11_pilgrim 88 = .ok (.invokespecial 193, 3) := rd_chunk (k := 64) (i := 24) kmX11_pilgrim_64_e0 (by decide +kernel)
theorem dX11_pilgrim_91 : decode cX11_pilgrim 91 = .ok (.aastore, 1) := rd_chunk (k := 64) (i := 27) kmX11_pilgrim_64_e0 (by decide +kernel)
theorem dX11_pilgrim_92 : decode cX11_pilgrim 92 = .ok (.aload_n 0, 1) := rd_chunk (k := 64) (i := 28) kmX11_pilgrim_64_e0 (by decide +kernel)
theorem dX11_pilgrim_93 : decode cX11_pilgrim 93 = .ok (.dup, 1) := rd_chunk (k := 64) (i := 29) kmX11_pilgrim_64_e0 (by decide +kernel)
theorem dX11_pilgrim_94 : decode cX11_pilgrim 94 = .ok (.getfield 36, 3) := rd_chunk (k := 64) (i := 30) kmX11_pilgrim_64_e0 (by decide +kernel)
theorem dX11_pilgrim_97 : decode cX11_pilgrim 97 = .ok (.iconst 1, 1) := rd_chunk (k := 64) (i := 33) kmX11_pilgrim_64_e0 (by decide +kernel)
theorem dX11_pilgrim_98 : decode cX11_pilgrim 98 = .ok (.iadd, 1) := rd_chunk (k := 64) (i := 34) kmX11_pilgrim_64_e0 (by decide +kernel)
theorem dX11_pilgrim_99 : decode cX11_pilgrim 99 = .ok (.putfield 36, 3) := rd_chunk (k := 64) (i := 35) kmX11_pilgrim_64_e0 (by decide +kernel)
theorem dX11_pilgrim_102 : decode cX11_pilgrim 102 = .ok (.aload_n 0, 1) := rd_chunk (k := 64) (i := 38) kmX11_pilgrim_64_e0 (by decide +kernel)
theorem dX11_pilgrim_103 : decode cX11_pilgrim 103 = .ok (.getfield 36, 3) := rd_chunk (k := 64) (i := 39) kmX11_pilgrim_64_e0 (by decide +kernel)
theorem dX11_pilgrim_106 : decode cX11_pilgrim 106 = .ok (.iconst 1, 1) := rd_chunk (k := 64) (i := 42) kmX11_pilgrim_64_e0 (by decide +kernel)
theorem dX11_pilgrim_107 : decode cX11_pilgrim 107 = .ok (.isub, 1) := rd_chunk (k := 64) (i := 43) kmX11_pilgrim_64_e0 (by decide +kernel)
theorem dX11_pilgrim_108 : decode cX11_pilgrim 108 = .ok (.ireturn, 1) := rd_chunk (k := 64) (i := 44) kmX11_pilgrim_64_e0 (by decide +kernel)
theorem dX11_vow_0 : decode cX11_vow 0 = .ok (.aload_n 0, 1) := by decide +kernel
theorem dX11_vow_1 : decode cX11_vow 1 = .ok (.iload_n 1, 1) := by decide +kernel
theorem dX11_vow_2 : decode cX11_vow 2 = .ok (.invokevirtual 111, 3) := by decide +kernel
theorem dX11_vow_5 : decode cX11_vow 5 = .ok (.astore_n 3, 1) := by decide +kernel
theorem dX11_vow_6 : decode cX11_vow 6 = .ok (.aload_n 3, 1) := by decide +kernel
theorem dX11_vow_7 : decode cX11_vow 7 = .ok (.ifnull 14, 3) := by decide +kernel
theorem dX11_vow_10 : decode cX11_vow 10 = .ok (.iload_n 2, 1) := by decide +kernel
theorem dX11_vow_11 : decode cX11_vow 11 = .ok (.ifCond .lt 10, 3) := by decide +kernel
theorem dX11_vow_14 : decode cX11_vow 14 = .ok (.iload_n 2, 1) := by decide +kernel
theorem dX11_vow_15 : decode cX11_vow 15 = .ok (.sipush 255, 3) := by decide +kernel
theorem dX11_vow_18 : decode cX11_vow 18 = .ok (.if_icmp .le 5, 3) := by decide +kernel
theorem dX11_vow_21 : decode cX11_vow 21 = .ok (.iconst (-1), 1) := by decide +kernel
theorem dX11_vow_22 : decode cX11_vow 22 = .ok (.ireturn, 1) := by decide +kernel
theorem dX11_vow_23 : decode cX11_vow 23 = .ok (.aload_n 3, 1) := by decide +kernel
theorem dX11_vow_24 : decode cX11_vow 24 = .ok (.getfield 196, 3) := by decide +kernel
theorem dX11_vow_27 : decode cX11_vow 27 = .ok (.istore 4, 2) := by decide +kernel
theorem dX11_vow_29 : decode cX11_vow 29 = .ok (.aload_n 3, 1) := by decide +kernel
theorem dX11_vow_30 : decode cX11_vow 30 = .ok (.iload_n 2, 1) := by decide +kernel
theorem dX11_vow_31 : decode cX11_vow 31 = .ok (.putfield 196, 3) := by decide +kernel
theorem dX11_vow_34 : decode cX11_vow 34 = .ok (.iload 4, 2) := by decide +kernel
theorem dX11_vow_36 : decode cX11_vow 36 = .ok (.ireturn, 1) := by decide +kernel
abbrev mX11_of_0_e0 : ByteArray := .mk #[0x2a, 0x1b, 0xb6, 0x00, 0x6f, 0x4e, 0x2d, 0xc7, 0x00, 0x0d, 0xbb, 0x00, 0x8d, 0x59, 0x12, 0xc7, 0xb7, 0x00, 0x91, 0xbf, 0x1c, 0xaa, 0x00, 0x00, 0x00, 0x00, 0x00, 0x57, 0x00, 0x00, 0x00, 0x00, 0x00, 0x00, 0x00, 0x07, 0x00, 0x00, 0x00, 0x2f, 0x00, 0x00, 0x00, 0x34, 0x00, 0x00, 0x00, 0x39, 0x00, 0x00, 0x00, 0x3e, 0x00, 0x00, 0x00, 0x43, 0x00, 0x00, 0x00, 0x48, 0x00, 0x00, 0x00, 0x4d, 0x00, 0x00, 0x00, 0x52, 0x2d, 0xb4, 0x00, 0xc9]
theorem kmX11_of_0_e0 : CK cX11_of 0 mX11_of_0_e0 := ck_of (by decide +kernel)
theorem dX11_of_0 : decode cX11_of 0 = .ok (.aload_n 0, 1) := rd_chunk (k := 0) (i := 0) kmX11_of_0_e0 (by decide +kernel)
theorem dX11_of_1 : decode cX11_of 1 = .ok (.iload_n 1, 1) := rd_chunk (k := 0) (i := 1) kmX11_of_0_e0 (by decide +kernel)
theorem dX11_of_2 : decode cX11_of 2 = .ok (.invokevirtual 111, 3) := rd_chunk (k := 0) (i := 2) kmX11_of_0_e0 (by decide +kernel)
theorem dX11_of_5 : decode cX11_of 5 = .ok (.astore_n 3, 1) := rd_chunk (k := 0) (i := 5) kmX11_of_0_e0 (by decide +kernel)
theorem dX11_of_6 : decode cX11_of 6 = .ok (.aload_n 3, 1) := rd_chunk (k := 0) (i := 6) kmX11_of_0_e0 (by decide +kernel)
theorem dX11_of_7 : decode cX11_of 7 = .ok (.ifnonnull 13, 3) := rd_chunk (k := 0) (i := 7) kmX11_of_0_e0 (by decide +kernel)
theorem dX11_of_10 : decode cX11_of 10 = .ok (.new 141, 3) := rd_chunk (k := 0) (i := 10) kmX11_of_0_e0 (by decide +kernel)
theorem dX11_of_13 : decode cX11_of 13 = .ok (.dup, 1) := rd_chunk (k := 0) (i := 13) kmX11_of_0_e0 (by decide +kernel)
theorem dX11_of_14 : decode cX11_of 14 = .ok (.ldc 199, 2) := rd_chunk (k := 0) (i := 14) kmX11_of_0_e0 (by decide +kernel)
theorem dX11_of_16 : decode cX11_of 16 = .ok (.invokespecial 145, 3) := rd_chunk (k := 0) (i := 16) kmX11_of_0_e0 (by decide +kernel)
theorem dX11_of_19 : decode cX11_of 19 = .ok (.athrow, 1) := rd_chunk (k := 0) (i := 19) kmX11_of_0_e0 (by decide +kernel)
theorem dX11_of_20 : decode cX11_of 20 = .ok (.iload_n 2, 1) := rd_chunk (k := 0) (i := 20) kmX11_of_0_e0 (by decide +kernel)
theorem dX11_of_21 : decode cX11_of 21 = .ok (.tableswitch 87 0 7 #[47, 52, 57, 62, 67, 72, 77, 82], 47) := by decide +kernel
abbrev mX11_of_64_e0 : ByteArray := .mk #[0x00, 0x00, 0x00, 0x52, 0x2d, 0xb4, 0x00, 0xc9, 0xac, 0x2d, 0xb4, 0x00, 0xcc, 0xac, 0x2d, 0xb4, 0x00, 0xcf, 0xac, 0x2d, 0xb4, 0x00, 0xd2, 0xac, 0x2d, 0xb4, 0x00, 0xd5, 0xac, 0x2d, 0xb4, 0x00, 0xc4, 0xac, 0x2d, 0xb4, 0x00, 0xd8, 0xac, 0x2d, 0xb4, 0x00, 0xdb, 0xac, 0xbb, 0x00, 0x8d, 0x59, 0x12, 0xde, 0xb7, 0x00, 0x91, 0xbf]
theorem kmX11_of_64_e0 : CK cX11_of 64 mX11_of_64_e0 := ck_of (by decide +kernel)
theorem dX11_of_68 : decode cX11_of 68 = .ok (.aload_n 3, 1) := rd_chunk (k := 64) (i := 4) kmX11_of_64_e0 (by decide +kernel)
theorem dX11_of_69 : decode cX11_of 69 = .ok (.getfield 201, 3) := rd_chunk (k := 64) (i := 5) kmX11_of_64_e0 (by decide +kernel)
theorem dX11_of_72 : decode cX11_of 72 = .ok (.ireturn, 1) := rd_chunk (k := 64) (i := 8) kmX11_of_64_e0 (by decide +kernel)
theorem dX11_of_73 : decode cX11_of 73 = .ok (.aload_n 3, 1) := rd_chunk (k := 64) (i := 9) kmX11_of_64_e0 (by decide +kernel)
theorem dX11_of_74 : decode cX11_of 74 = .ok (.getfield 204, 3) := rd_chunk (k := 64) (i := 10) kmX11_of_64_e0 (by decide +kernel)
theorem dX11_of_77 : decode cX11_of 77 = .ok (.ireturn, 1) := rd_chunk (k := 64) (i := 13) kmX11_of_64_e0 (by decide +kernel)
theorem dX11_of_78 : decode cX11_of 78 = .ok (.aload_n 3, 1) := rd_chunk (k := 64) (i := 14) kmX11_of_64_e0 (by decide +kernel)
theorem dX11_of_79 : decode cX11_of 79 = .ok (.getfield 207, 3) := rd_chunk (k := 64) (i := 15) kmX11_of_64_e0 (by decide +kernel)
theorem dX11_of_82 : decode cX11_of 82 = .ok (.ireturn, 1) := rd_chunk (k := 64) (i := 18) kmX11_of_64_e0 (by decide +kernel)
theorem dX11_of_83 : decode cX11_of 83 = .ok (.aload_n 3, 1) := rd_chunk (k := 64) (i := 19) kmX11_of_64_e0 (by decide +kernel)
theorem dX11_of_84 : decode cX11_of 84 = .ok (.getfield 210, 3) := rd_chunk (k := 64) (i := 20) kmX11_of_64_e0 (by decide +kernel)
theorem dX11_of_87 : decode cX11_of 87 = .ok (.ireturn, 1) := rd_chunk (k := 64) (i := 23) kmX11_of_64_e0 (by decide +kernel)
theorem dX11_of_88 : decode cX11_of 88 = .ok (.aload_n 3, 1) := rd_chunk (k := 64) (i := 24) kmX11_of_64_e0 (by decide +kernel)
theorem dX11_of_89 : decode cX11_of 89 = .ok (.getfield 213, 3) := rd_chunk (k := 64) (i := 25) kmX11_of_64_e0 (by decide +kernel)
theorem dX11_of_92 : decode cX11_of 92 = .ok (.ireturn, 1) := rd_chunk (k := 64) (i := 28) kmX11_of_64_e0 (by decide +kernel)
theorem dX11_of_93 : decode cX11_of 93 = .ok (.aload_n 3, 1) := rd_chunk (k := 64) (i := 29) kmX11_of_64_e0 (by decide +kernel)
theorem dX11_of_94 : decode cX11_of 94 = .ok (.getfield 196, 3) := rd_chunk (k := 64) (i := 30) kmX11_of_64_e0 (by decide +kernel)
theorem dX11_of_97 : decode cX11_of 97 = .ok (.ireturn, 1) := rd_chunk (k := 64) (i := 33) kmX11_of_64_e0 (by decide +kernel)
theorem dX11_of_98 : decode cX11_of 98 = .ok (.aload_n 3, 1) := rd_chunk (k := 64) (i := 34) kmX11_of_64_e0 (by decide +kernel)
theorem dX11_of_99 : decode cX11_of 99 = .ok (.getfield 216, 3) := rd_chunk (k := 64) (i := 35) kmX11_of_64_e0 (by decide +kernel)
theorem dX11_of_102 : decode cX11_of 102 = .ok (.ireturn, 1) := rd_chunk (k := 64) (i := 38) kmX11_of_64_e0 (by decide +kernel)
theorem dX11_of_103 : decode cX11_of 103 = .ok (.aload_n 3, 1) := rd_chunk (k := 64) (i := 39) kmX11_of_64_e0 (by decide +kernel)
theorem dX11_of_104 : decode cX11_of 104 = .ok (.getfield 219, 3) := rd_chunk (k := 64) (i := 40) kmX11_of_64_e0 (by decide +kernel)
theorem dX11_of_107 : decode cX11_of 107 = .ok (.ireturn, 1) := rd_chunk (k := 64) (i := 43) kmX11_of_64_e0 (by decide +kernel)
theorem dX11_of_108 : decode cX11_of 108 = .ok (.new 141, 3) := rd_chunk (k := 64) (i := 44) kmX11_of_64_e0 (by decide +kernel)
theorem dX11_of_111 : decode cX11_of 111 = .ok (.dup, 1) := rd_chunk (k := 64) (i := 47) kmX11_of_64_e0 (by decide +kernel)
theorem dX11_of_112 : decode cX11_of 112 = .ok (.ldc 222, 2) := rd_chunk (k := 64) (i := 48) kmX11_of_64_e0 (by decide +kernel)
theorem dX11_of_114 : decode cX11_of 114 = .ok (.invokespecial 145, 3) := rd_chunk (k := 64) (i := 50) kmX11_of_64_e0 (by decide +kernel)
theorem dX11_of_117 : decode cX11_of 117 = .ok (.athrow, 1) := rd_chunk (k := 64) (i := 53) kmX11_of_64_e0 (by decide +kernel)
theorem dX11_costs_0 : decode cX11_costs 0 = .ok (.aload_n 0, 1) := by decide +kernel
theorem dX11_costs_1 : decode cX11_costs 1 = .ok (.iload_n 1, 1) := by decide +kernel
theorem dX11_costs_2 : decode cX11_costs 2 = .ok (.invokevirtual 111, 3) := by decide +kernel
theorem dX11_costs_5 : decode cX11_costs 5 = .ok (.astore_n 3, 1) := by decide +kernel
theorem dX11_costs_6 : decode cX11_costs 6 = .ok (.aload_n 3, 1) := by decide +kernel
theorem dX11_costs_7 : decode cX11_costs 7 = .ok (.ifnull 14, 3) := by decide +kernel
theorem dX11_costs_10 : decode cX11_costs 10 = .ok (.aload_n 0, 1) := by decide +kernel
theorem dX11_costs_11 : decode cX11_costs 11 = .ok (.getfield 26, 3) := by decide +kernel
theorem dX11_costs_14 : decode cX11_costs 14 = .ok (.iload_n 2, 1) := by decide +kernel
theorem dX11_costs_15 : decode cX11_costs 15 = .ok (.invokevirtual 138, 3) := by decide +kernel
theorem dX11_costs_18 : decode cX11_costs 18 = .ok (.ifCond .ne 5, 3) := by decide +kernel
theorem dX11_costs_21 : decode cX11_costs 21 = .ok (.iconst (-1), 1) := by decide +kernel
theorem dX11_costs_22 : decode cX11_costs 22 = .ok (.ireturn, 1) := by decide +kernel
theorem dX11_costs_23 : decode cX11_costs 23 = .ok (.aload_n 3, 1) := by decide +kernel
theorem dX11_costs_24 : decode cX11_costs 24 = .ok (.iload_n 2, 1) := by decide +kernel
theorem dX11_costs_25 : decode cX11_costs 25 = .ok (.invokevirtual 224, 3) := by decide +kernel
theorem dX11_costs_28 : decode cX11_costs 28 = .ok (.ifCond .ne 6, 3) := by decide +kernel
theorem dX11_costs_31 : decode cX11_costs 31 = .ok (.bipush (-2), 2) := by decide +kernel
theorem dX11_costs_33 : decode cX11_costs 33 = .ok (.ireturn, 1) := by decide +kernel
theorem dX11_costs_34 : decode cX11_costs 34 = .ok (.aload_n 0, 1) := by decide +kernel
theorem dX11_costs_35 : decode cX11_costs 35 = .ok (.aload_n 0, 1) := by decide +kernel
theorem dX11_costs_36 : decode cX11_costs 36 = .ok (.getfield 26, 3) := by decide +kernel
theorem dX11_costs_39 : decode cX11_costs 39 = .ok (.aload_n 3, 1) := by decide +kernel
theorem dX11_costs_40 : decode cX11_costs 40 = .ok (.getfield 201, 3) := by decide +kernel
theorem dX11_costs_43 : decode cX11_costs 43 = .ok (.iload_n 2, 1) := by decide +kernel
theorem dX11_costs_44 : decode cX11_costs 44 = .ok (.aload_n 3, 1) := by decide +kernel
theorem dX11_costs_45 : decode cX11_costs 45 = .ok (.getfield 213, 3) := by decide +kernel
theorem dX11_costs_48 : decode cX11_costs 48 = .ok (.invokevirtual 227, 3) := by decide +kernel
theorem dX11_costs_51 : decode cX11_costs 51 = .ok (.i2l, 1) := by decide +kernel
theorem dX11_costs_52 : decode cX11_costs 52 = .ok (.iload_n 2, 1) := by decide +kernel
theorem dX11_costs_53 : decode cX11_costs 53 = .ok (.aload_n 3, 1) := by decide +kernel
theorem dX11_costs_54 : decode cX11_costs 54 = .ok (.getfield 201, 3) := by decide +kernel
theorem dX11_costs_57 : decode cX11_costs 57 = .ok (.isub, 1) := by decide +kernel
theorem dX11_costs_58 : decode cX11_costs 58 = .ok (.iconst 1, 1) := by decide +kernel
theorem dX11_costs_59 : decode cX11_costs 59 = .ok (.isub, 1) := by decide +kernel
theorem dX11_costs_60 : decode cX11_costs 60 = .ok (.i2l, 1) := by decide +kernel
theorem dX11_costs_61 : decode cX11_costs 61 = .ok (.invokevirtual 231, 3) := by decide +kernel
theorem dX11_costs_64 : decode cX11_costs 64 = .ok (.aload_n 0, 1) := by decide +kernel
theorem dX11_costs_65 : decode cX11_costs 65 = .ok (.getfield 26, 3) := by decide +kernel
theorem dX11_costs_68 : decode cX11_costs 68 = .ok (.aload_n 3, 1) := by decide +kernel
theorem dX11_costs_69 : decode cX11_costs 69 = .ok (.getfield 201, 3) := by decide +kernel
theorem dX11_costs_72 : decode cX11_costs 72 = .ok (.iload_n 2, 1) := by decide +kernel
theorem dX11_costs_73 : decode cX11_costs 73 = .ok (.aload_n 3, 1) := by decide +kernel
theorem dX11_costs_74 : decode cX11_costs 74 = .ok (.getfield 213, 3) := by decide +kernel
theorem dX11_costs_77 : decode cX11_costs 77 = .ok (.invokevirtual 235, 3) := by decide +kernel
theorem dX11_costs_80 : decode cX11_costs 80 = .ok (.ireturn, 1) := by decide +kernel
abbrev mX11_tread_0_e0 : ByteArray := .mk #[0x2a, 0x1b, 0xb6, 0x00, 0x6f, 0x4e, 0x2d, 0xc6, 0x00, 0x0e, 0x2a, 0xb4, 0x00, 0x1a, 0x1c, 0xb6, 0x00, 0x8a, 0x9a, 0x00, 0x05, 0x02, 0xac, 0x2d, 0x1c, 0xb6, 0x00, 0xe0, 0x9a, 0x00, 0x06, 0x10, 0xfe, 0xac, 0x2d, 0x2a, 0xb4, 0x00, 0x1a, 0xb4, 0x00, 0xa0, 0x1c, 0xb6, 0x00, 0xa4, 0xb6, 0x00, 0xee, 0x99, 0x00, 0x06, 0x10, 0xfd, 0xac, 0x2a, 0xb4, 0x00, 0x1a, 0x2d, 0xb4, 0x00, 0xc9, 0x1c, 0x2d, 0xb4, 0x00, 0xd5, 0xb6, 0x00, 0xe3, 0x36]
theorem kmX11_tread_0_e0 : CK cX11_tread 0 mX11_tread_0_e0 := ck_of (by decide +kernel)
theorem dX11_tread_0 : decode cX11_tread 0 = .ok (.aload_n 0, 1) := rd_chunk (k := 0) (i := 0) kmX11_tread_0_e0 (by decide +kernel)
theorem dX11_tread_1 : decode cX11_tread 1 = .ok (.iload_n 1, 1) := rd_chunk (k := 0) (i := 1) kmX11_tread_0_e0 (by decide +kernel)
theorem dX11_tread_2 : decode cX11_tread 2 = .ok (.invokevirtual 111, 3) := rd_chunk (k := 0) (i := 2) kmX11_tread_0_e0 (by decide +kernel)
theorem dX11_tread_5 : decode cX11_tread 5 = .ok (.astore_n 3, 1) := rd_chunk (k := 0) (i := 5) kmX11_tread_0_e0 (by decide +kernel)
theorem dX11_tread_6 : decode cX11_tread 6 = .ok (.aload_n 3, 1) := rd_chunk (k := 0) (i := 6) kmX11_tread_0_e0 (by decide +kernel)
theorem dX11_tread_7 : decode cX11_tread 7 = .ok (.ifnull 14, 3) := rd_chunk (k := 0) (i := 7) kmX11_tread_0_e0 (by decide +kernel)
theorem dX11_tread_10 : decode cX11_tread 10 = .ok (.aload_n 0, 1) := rd_chunk (k := 0) (i := 10) kmX11_tread_0_e0 (by decide +kernel)
theorem dX11_tread_11 : decode cX11_tread 11 = .ok (.getfield 26, 3) := rd_chunk (k := 0) (i := 11) kmX11_tread_0_e0 (by decide +kernel)
theorem dX11_tread_14 : decode cX11_tread 14 = .ok (.iload_n 2, 1) := rd_chunk (k := 0) (i := 14) kmX11_tread_0_e0 (by decide +kernel)
theorem dX11_tread_15 : decode cX11_tread 15 = .ok (.invokevirtual 138, 3) := rd_chunk (k := 0) (i := 15) kmX11_tread_0_e0 (by decide +kernel)
theorem dX11_tread_18 : decode cX11_tread 18 = .ok (.ifCond .ne 5, 3) := rd_chunk (k := 0) (i := 18) kmX11_tread_0_e0 (by decide +kernel)
theorem dX11_tread_21 : decode cX11_tread 21 = .ok (.iconst (-1), 1) := rd_chunk (k := 0) (i := 21) kmX11_tread_0_e0 (by decide +kernel)
theorem dX11_tread_22 : decode cX11_tread 22 = .ok (.ireturn, 1) := rd_chunk (k := 0) (i := 22) kmX11_tread_0_e0 (by decide +kernel)
theorem dX11_tread_23 : decode cX11_tread 23 = .ok (.aload_n 3, 1) := rd_chunk (k := 0) (i := 23) kmX11_tread_0_e0 (by decide +kernel)
theorem dX11_tread_24 : decode cX11_tread 24 = .ok (.iload_n 2, 1) := rd_chunk (k := 0) (i := 24) kmX11_tread_0_e0 (by decide +kernel)
theorem dX11_tread_25 : decode cX11_tread 25 = .ok (.invokevirtual 224, 3) := rd_chunk (k := 0) (i := 25) kmX11_tread_0_e0 (by decide +kernel)
theorem dX11_tread_28 : decode cX11_tread 28 = .ok (.ifCond .ne 6, 3) := rd_chunk (k := 0) (i := 28) kmX11_tread_0_e0 (by decide +kernel)
theorem dX11_tread_31 : decode cX11_tread 31 = .ok (.bipush (-2), 2) := rd_chunk (k := 0) (i := 31) kmX11_tread_0_e0 (by decide +kernel)
theorem dX11_tread_33 : decode cX11_tread 33 = .ok (.ireturn, 1) := rd_chunk (k := 0) (i := 33) kmX11_tread_0_e0 (by decide +kernel)
theorem dX11_tread_34 : decode cX11_tread 34 = .ok (.aload_n 3, 1) := rd_chunk (k := 0) (i := 34) kmX11_tread_0_e0 (by decide +kernel)
theorem dX11_tread_35 : decode cX11_tread 35 = .ok (.aload_n 0, 1) := rd_chunk (k := 0) (i := 35) kmX11_tread_0_e0 (by decide +kernel)
theorem dX11_tread_36 : decode cX11_tread 36 = .ok (.getfield 26, 3) := rd_chunk (k := 0) (i := 36) kmX11_tread_0_e0 (by decide +kernel)
theorem dX11_tread_39 : decode cX11_tread 39 = .ok (.getfield 160, 3) := rd_chunk (k := 0) (i := 39) kmX11_tread_0_e0 (by decide +kernel)
theorem dX11_tread_42 : decode cX11_tread 42 = .ok (.iload_n 2, 1) := rd_chunk (k := 0) (i := 42) kmX11_tread_0_e0 (by decide +kernel)
theorem dX11_tread_43 : decode cX11_tread 43 = .ok (.invokevirtual 164, 3) := rd_chunk (k := 0) (i := 43) kmX11_tread_0_e0 (by decide +kernel)
theorem dX11_tread_46 : decode cX11_tread 46 = .ok (.invokevirtual 238, 3) := rd_chunk (k := 0) (i := 46) kmX11_tread_0_e0 (by decide +kernel)
theorem dX11_tread_49 : decode cX11_tread 49 = .ok (.ifCond .eq 6, 3) := rd_chunk (k := 0) (i := 49) kmX11_tread_0_e0 (by decide +kernel)
theorem dX11_tread_52 : decode cX11_tread 52 = .ok (.bipush (-3), 2) := rd_chunk (k := 0) (i := 52) kmX11_tread_0_e0 (by decide +kernel)
theorem dX11_tread_54 : decode cX11_tread 54 = .ok (.ireturn, 1) := rd_chunk (k := 0) (i := 54) kmX11_tread_0_e0 (by decide +kernel)
theorem dX11_tread_55 : decode cX11_tread 55 = .ok (.aload_n 0, 1) := rd_chunk (k := 0) (i := 55) kmX11_tread_0_e0 (by decide +kernel)
theorem dX11_tread_56 : decode cX11_tread 56 = .ok (.getfield 26, 3) := rd_chunk (k := 0) (i := 56) kmX11_tread_0_e0 (by decide +kernel)
theorem dX11_tread_59 : decode cX11_tread 59 = .ok (.aload_n 3, 1) := rd_chunk (k := 0) (i := 59) kmX11_tread_0_e0 (by decide +kernel)
theorem dX11_tread_60 : decode cX11_tread 60 = .ok (.getfield 201, 3) := rd_chunk (k := 0) (i := 60) kmX11_tread_0_e0 (by decide +kernel)
theorem dX11_tread_63 : decode cX11_tread 63 = .ok (.iload_n 2, 1) := rd_chunk (k := 0) (i := 63) kmX11_tread_0_e0 (by decide +kernel)
abbrev mX11_tread_64_e0 : ByteArray := .mk #[0x2d, 0xb4, 0x00, 0xd5, 0xb6, 0x00, 0xe3, 0x36, 0x04, 0x15, 0x04, 0x2d, 0xb4, 0x00, 0xcc, 0xa4, 0x00, 0x06, 0x10, 0xfc, 0xac, 0x2a, 0xb4, 0x00, 0x1a, 0x2d, 0xb4, 0x00, 0xc9, 0x1c, 0x2d, 0xb4, 0x00, 0xd5, 0xb6, 0x00, 0xeb, 0x36, 0x05, 0x15, 0x05, 0x2d, 0xb4, 0x00, 0xcf, 0xa4, 0x00, 0x06, 0x10, 0xfb, 0xac, 0x2a, 0x2d, 0x1c, 0xb6, 0x00, 0xf1, 0x2d, 0x59, 0xb4, 0x00, 0xcc, 0x15, 0x04, 0x64, 0xb5, 0x00, 0xcc, 0x2d, 0x59, 0xb4, 0x00]
theorem kmX11_tread_64_e0 : CK cX11_tread 64 mX11_tread_64_e0 := ck_of (by decide +kernel)
theorem dX11_tread_64 : decode cX11_tread 64 = .ok (.aload_n 3, 1) := rd_chunk (k := 64) (i := 0) kmX11_tread_64_e0 (by decide +kernel)
theorem dX11_tread_65 : decode cX11_tread 65 = .ok (.getfield 213, 3) := rd_chunk (k := 64) (i := 1) kmX11_tread_64_e0 (by decide +kernel)
theorem dX11_tread_68 : decode cX11_tread 68 = .ok (.invokevirtual 227, 3) := rd_chunk (k := 64) (i := 4) kmX11_tread_64_e0 (by decide +kernel)
theorem dX11_tread_71 : decode cX11_tread 71 = .ok (.istore 4, 2) := rd_chunk (k := 64) (i := 7) kmX11_tread_64_e0 (by decide +kernel)
theorem dX11_tread_73 : decode cX11_tread 73 = .ok (.iload 4, 2) := rd_chunk (k := 64) (i := 9) kmX11_tread_64_e0 (by decide +kernel)
theorem dX11_tread_75 : decode cX11_tread 75 = .ok (.aload_n 3, 1) := rd_chunk (k := 64) (i := 11) kmX11_tread_64_e0 (by decide +kernel)
theorem dX11_tread_76 : decode cX11_tread 76 = .ok (.getfield 204, 3) := rd_chunk (k := 64) (i := 12) kmX11_tread_64_e0 (by decide +kernel)
theorem dX11_tread_79 : decode cX11_tread 79 = .ok (.if_icmp .le 6, 3) := rd_chunk (k := 64) (i := 15) kmX11_tread_64_e0 (by decide +kernel)
theorem dX11_tread_82 : decode cX11_tread 82 = .ok (.bipush (-4), 2) := rd_chunk (k := 64) (i := 18) kmX11_tread_64_e0 (by decide +kernel)
theorem dX11_tread_84 : decode cX11_tread 84 = .ok (.ireturn, 1) := rd_chunk (k := 64) (i := 20) kmX11_tread_64_e0 (by decide +kernel)
theorem dX11_tread_85 : decode cX11_tread 85 = .ok (.aload_n 0, 1) := rd_chunk (k := 64) (i := 21) kmX11_tread_64_e0 (by decide +kernel)
theorem dX11_tread_86 : decode cX11_tread 86 = .ok (.getfield 26, 3) := rd_chunk (k := 64) (i := 22) kmX11_tread_64_e0 (by decide +kernel)
theorem dX11_tread_89 : decode cX11_tread 89 = .ok (.aload_n 3, 1) := rd_chunk (k := 64) (i := 25) kmX11_tread_64_e0 (by decide +kernel)
theorem dX11_tread_90 : decode cX11_tread 90 = .ok (.getfield 201, 3) := rd_chunk (k := 64) (i := 26) kmX11_tread_64_e0 (by decide +kernel)
theorem dX11_tread_93 : decode cX11_tread 93 = .ok (.iload_n 2, 1) := rd_chunk (k := 64) (i := 29) kmX11_tread_64_e0 (by decide +kernel)
theorem dX11_tread_94 : decode cX11_tread 94 = .ok (.aload_n 3, 1) := rd_chunk (k := 64) (i := 30) kmX11_tread_64_e0 (by decide +kernel)
theorem dX11_tread_95 : decode cX11_tread 95 = .ok (.getfield 213, 3) := rd_chunk (k := 64) (i := 31) kmX11_tread_64_e0 (by decide +kernel)
theorem dX11_tread_98 : decode cX11_tread 98 = .ok (.invokevirtual 235, 3) := rd_chunk (k := 64) (i := 34) kmX11_tread_64_e0 (by decide +kernel)
theorem dX11_tread_101 : decode cX11_tread 101 = .ok (.istore 5, 2) := rd_chunk (k := 64) (i := 37) kmX11_tread_64_e0 (by decide +kernel)
theorem dX11_tread_103 : decode cX11_tread 103 = .ok (.iload 5, 2) := rd_chunk (k := 64) (i := 39) kmX11_tread_64_e0 (by decide +kernel)
theorem dX11_tread_105 : decode cX11_tread 105 = .ok (.aload_n 3, 1) := rd_chunk (k := 64) (i := 41) kmX11_tread_64_e0 (by decide +kernel)
theorem dX11_tread_106 : decode cX11_tread 106 = .ok (.getfield 207, 3) := rd_chunk (k := 64) (i := 42) kmX11_tread_64_e0 (by decide +kernel)
theorem dX11_tread_109 : decode cX11_tread 109 = .ok (.if_icmp .le 6, 3) := rd_chunk (k := 64) (i := 45) kmX11_tread_64_e0 (by decide +kernel)
theorem dX11_tread_112 : decode cX11_tread 112 = .ok (.bipush (-5), 2) := rd_chunk (k := 64) (i := 48) kmX11_tread_64_e0 (by decide +kernel)
theorem dX11_tread_114 : decode cX11_tread 114 = .ok (.ireturn, 1) := rd_chunk (k := 64) (i := 50) kmX11_tread_64_e0 (by decide +kernel)
theorem dX11_tread_115 : decode cX11_tread 115 = .ok (.aload_n 0, 1) := rd_chunk (k := 64) (i := 51) kmX11_tread_64_e0 (by decide +kernel)
theorem dX11_tread_116 : decode cX11_tread 116 = .ok (.aload_n 3, 1) := rd_chunk (k := 64) (i := 52) kmX11_tread_64_e0 (by decide +kernel)
theorem dX11_tread_117 : decode cX11_tread 117 = .ok (.iload_n 2, 1) := rd_chunk (k := 64) (i := 53) kmX11_tread_64_e0 (by decide +kernel)
theorem dX11_tread_118 : decode cX11_tread 118 = .ok (.invokevirtual 241, 3) := rd_chunk (k := 64) (i := 54) kmX11_tread_64_e0 (by decide +kernel)
theorem dX11_tread_121 : decode cX11_tread 121 = .ok (.aload_n 3, 1) := rd_chunk (k := 64) (i := 57) kmX11_tread_64_e0 (by decide +kernel)
theorem dX11_tread_122 : decode cX11_tread 122 = .ok (.dup, 1) := rd_chunk (k := 64) (i := 58) kmX11_tread_64_e0 (by decide +kernel)
theorem dX11_tread_123 : decode cX11_tread 123 = .ok (.getfield 204, 3) := rd_chunk (k := 64) (i := 59) kmX11_tread_64_e0 (by decide +kernel)
theorem dX11_tread_126 : decode cX11_tread 126 = .ok (.iload 4, 2) := rd_chunk (k := 64) (i := 62) kmX11_tread_64_e0 (by decide +kernel)
abbrev mX11_tread_128_e0 : ByteArray := .mk #[0x64, 0xb5, 0x00, 0xcc, 0x2d, 0x59, 0xb4, 0x00, 0xcf, 0x15, 0x05, 0x64, 0xb5, 0x00, 0xcf, 0x2d, 0x1c, 0xb5, 0x00, 0xc9, 0x15, 0x05, 0xac]
theorem kmX11_tread_128_e0 : CK cX11_tread 128 mX11_tread_128_e0 := ck_of (by decide +kernel)
theorem dX11_tread_128 : decode cX11_tread 128 = .ok (.isub, 1) := rd_chunk (k := 128) (i := 0) kmX11_tread_128_e0 (by decide +kernel)
theorem dX11_tread_129 : decode cX11_tread 129 = .ok (.putfield 204, 3) := rd_chunk (k := 128) (i := 1) kmX11_tread_128_e0 (by decide +kernel)
theorem dX11_tread_132 : decode cX11_tread 132 = .ok (.aload_n 3, 1) := rd_chunk (k := 128) (i := 4) kmX11_tread_128_e0 (by decide +kernel)
theorem dX11_tread_133 : decode cX11_tread 133 = .ok (.dup, 1) := rd_chunk (k := 128) (i := 5) kmX11_tread_128_e0 (by decide +kernel)
theorem dX11_tread_134 : decode cX11_tread 134 = .ok (.getfield 207, 3) := rd_chunk (k := 128) (i := 6) kmX11_tread_128_e0 (by decide +kernel)
theorem dX11_tread_137 : decode cX11_tread 137 = .ok (.iload 5, 2) := rd_chunk (k := 128) (i := 9) kmX11_tread_128_e0 (by decide +kernel)
theorem dX11_tread_139 : decode cX11_tread 139 = .ok (.isub, 1) := rd_chunk (k := 128) (i := 11) kmX11_tread_128_e0 (by decide +kernel)
theorem dX11_tread_140 : decode cX11_tread 140 = .ok (.putfield 207, 3) := rd_chunk (k := 128) (i := 12) kmX11_tread_128_e0 (by decide +kernel)
theorem dX11_tread_143 : decode cX11_tread 143 = .ok (.aload_n 3, 1) := rd_chunk (k := 128) (i := 15) kmX11_tread_128_e0 (by decide +kernel)
theorem dX11_tread_144 : decode cX11_tread 144 = .ok (.iload_n 2, 1) := rd_chunk (k := 128) (i := 16) kmX11_tread_128_e0 (by decide +kernel)
theorem dX11_tread_145 : decode cX11_tread 145 = .ok (.putfield 201, 3) := rd_chunk (k := 128) (i := 17) kmX11_tread_128_e0 (by decide +kernel)
theorem dX11_tread_148 : decode cX11_tread 148 = .ok (.iload 5, 2) := rd_chunk (k := 128) (i := 20) kmX11_tread_128_e0 (by decide +kernel)
theorem dX11_tread_150 : decode cX11_tread 150 = .ok (.ireturn, 1) := rd_chunk (k := 128) (i := 22) kmX11_tread_128_e0 (by decide +kernel)
abbrev mX11_rests_0_e0 : ByteArray := .mk #[0x2a, 0x1b, 0xb6, 0x00, 0x6f, 0x4e, 0x2d, 0xc6, 0x00, 0x0e, 0x1c, 0x04, 0xa1, 0x00, 0x09, 0x1c, 0x10, 0x1e, 0xa4, 0x00, 0x05, 0x02, 0xac, 0x2a, 0xb4, 0x00, 0x1a, 0x03, 0x2d, 0xb4, 0x00, 0xc9, 0x2d, 0xb4, 0x00, 0xc9, 0x03, 0x2d, 0xb4, 0x00, 0xd5, 0xb6, 0x00, 0xf5, 0x36, 0x04, 0x15, 0x04, 0x2d, 0xb4, 0x00, 0xcf, 0xa4, 0x00, 0x06, 0x10, 0xfb, 0xac, 0x2a, 0xb4, 0x00, 0x1a, 0x2d, 0xb4, 0x00, 0xc9, 0xb6, 0x00, 0x8a, 0x99, 0x00, 0x0e]
theorem kmX11_rests_0_e0 : CK cX11_rests 0 mX11_rests_0_e0 := ck_of (by decide +kernel)
theorem dX11_rests_0 : decode cX11_rests 0 = .ok (.aload_n 0, 1) := rd_chunk (k := 0) (i := 0) kmX11_rests_0_e0 (by decide +kernel)
theorem dX11_rests_1 : decode cX11_rests 1 = .ok (.iload_n 1, 1) := rd_chunk (k := 0) (i := 1) kmX11_rests_0_e0 (by decide +kernel)
theorem dX11_rests_2 : decode cX11_rests 2 = .ok (.invokevirtual 111, 3) := rd_chunk (k := 0) (i := 2) kmX11_rests_0_e0 (by decide +kernel)
theorem dX11_rests_5 : decode cX11_rests 5 = .ok (.astore_n 3, 1) := rd_chunk (k := 0) (i := 5) kmX11_rests_0_e0 (by decide +kernel)
theorem dX11_rests_6 : decode cX11_rests 6 = .ok (.aload_n 3, 1) := rd_chunk (k := 0) (i := 6) kmX11_rests_0_e0 (by decide +kernel)
theorem dX11_rests_7 : decode cX11_rests 7 = .ok (.ifnull 14, 3) := rd_chunk (k := 0) (i := 7) kmX11_rests_0_e0 (by decide +kernel)
theorem dX11_rests_10 : decode cX11_rests 10 = .ok (.iload_n 2, 1) := rd_chunk (k := 0) (i := 10) kmX11_rests_0_e0 (by decide +kernel)
theorem dX11_rests_11 : decode cX11_rests 11 = .ok (.iconst 1, 1) := rd_chunk (k := 0) (i := 11) kmX11_rests_0_e0 (by decide +kernel)
theorem dX11_rests_12 : decode cX11_rests 12 = .ok (.if_icmp .lt 9, 3) := rd_chunk (k := 0) (i := 12) kmX11_rests_0_e0 (by decide +kernel)
theorem dX11_rests_15 : decode cX11_rests 15 = .ok (.iload_n 2, 1) := rd_chunk (k := 0) (i := 15) kmX11_rests_0_e0 (by decide +kernel)
theorem dX11_rests_16 : decode cX11_rests 16 = .ok (.bipush 30, 2) := rd_chunk (k := 0) (i := 16) kmX11_rests_0_e0 (by decide +kernel)
theorem dX11_rests_18 : decode cX11_rests 18 = .ok (.if_icmp .le 5, 3) := rd_chunk (k := 0) (i := 18) kmX11_rests_0_e0 (by decide +kernel)
theorem dX11_rests_21 : decode cX11_rests 21 = .ok (.iconst (-1), 1) := rd_chunk (k := 0) (i := 21) kmX11_rests_0_e0 (by decide +kernel)
theorem dX11_rests_22 : decode cX11_rests 22 = .ok (.ireturn, 1) := rd_chunk (k := 0) (i := 22) kmX11_rests_0_e0 (by decide +kernel)
theorem dX11_rests_23 : decode cX11_rests 23 = .ok (.aload_n 0, 1) := rd_chunk (k := 0) (i := 23) kmX11_rests_0_e0 (by decide +kernel)
theorem dX11_rests_24 : decode cX11_rests 24 = .ok (.getfield 26, 3) := rd_chunk (k := 0) (i := 24) kmX11_rests_0_e0 (by decide +kernel)
theorem dX11_rests_27 : decode cX11_rests 27 = .ok (.iconst 0, 1) := rd_chunk (k := 0) (i := 27) kmX11_rests_0_e0 (by decide +kernel)
theorem dX11_rests_28 : decode cX11_rests 28 = .ok (.aload_n 3, 1) := rd_chunk (k := 0) (i := 28) kmX11_rests_0_e0 (by decide +kernel)
theorem dX11_rests_29 : decode cX11_rests 29 = .ok (.getfield 201, 3) := rd_chunk (k := 0) (i := 29) kmX11_rests_0_e0 (by decide +kernel)
theorem dX11_rests_32 : decode cX11_rests 32 = .ok (.aload_n 3, 1) := rd_chunk (k := 0) (i := 32) kmX11_rests_0_e0 (by decide +kernel)
theorem dX11_rests_33 : decode cX11_rests 33 = .ok (.getfield 201, 3) := rd_chunk (k := 0) (i := 33) kmX11_rests_0_e0 (by decide +kernel)
theorem dX11_rests_36 : decode cX11_rests 36 = .ok (.iconst 0, 1) := rd_chunk (k := 0) (i := 36) kmX11_rests_0_e0 (by decide +kernel)
theorem dX11_rests_37 : decode cX11_rests 37 = .ok (.aload_n 3, 1) := rd_chunk (k := 0) (i := 37) kmX11_rests_0_e0 (by decide +kernel)
theorem dX11_rests_38 : decode cX11_rests 38 = .ok (.getfield 213, 3) := rd_chunk (k := 0) (i := 38) kmX11_rests_0_e0 (by decide +kernel)
theorem dX11_rests_41 : decode cX11_rests 41 = .ok (.invokevirtual 245, 3) := rd_chunk (k := 0) (i := 41) kmX11_rests_0_e0 (by decide +kernel)
theorem dX11_rests_44 : decode cX11_rests 44 = .ok (.istore 4, 2) := rd_chunk (k := 0) (i := 44) kmX11_rests_0_e0 (by decide +kernel)
theorem dX11_rests_46 : decode cX11_rests 46 = .ok (.iload 4, 2) := rd_chunk (k := 0) (i := 46) kmX11_rests_0_e0 (by decide +kernel)
theorem dX11_rests_48 : decode cX11_rests 48 = .ok (.aload_n 3, 1) := rd_chunk (k := 0) (i := 48) kmX11_rests_0_e0 (by decide +kernel)
theorem dX11_rests_49 : decode cX11_rests 49 = .ok (.getfield 207, 3) := rd_chunk (k := 0) (i := 49) kmX11_rests_0_e0 (by decide +kernel)
theorem dX11_rests_52 : decode cX11_rests 52 = .ok (.if_icmp .le 6, 3) := rd_chunk (k := 0) (i := 52) kmX11_rests_0_e0 (by decide +kernel)
theorem dX11_rests_55 : decode cX11_rests 55 = .ok (.bipush (-5), 2) := rd_chunk (k := 0) (i := 55) kmX11_rests_0_e0 (by decide +kernel)
theorem dX11_rests_57 : decode cX11_rests 57 = .ok (.ireturn, 1) := rd_chunk (k := 0) (i := 57) kmX11_rests_0_e0 (by decide +kernel)
theorem dX11_rests_58 : decode cX11_rests 58 = .ok (.aload_n 0, 1) := rd_chunk (k := 0) (i := 58) kmX11_rests_0_e0 (by decide +kernel)
theorem dX11_rests_59 : decode cX11_rests 59 = .ok (.getfield 26, 3) := rd_chunk (k := 0) (i := 59) kmX11_rests_0_e0 (by decide +kernel)
theorem dX11_rests_62 : decode cX11_rests 62 = .ok (.aload_n 3, 1) := rd_chunk (k := 0) (i := 62) kmX11_rests_0_e0 (by decide +kernel)
theorem dX11_rests_63 : decode cX11_rests 63 = .ok (.getfield 201, 3) := rd_chunk (k := 0) (i := 63) kmX11_rests_0_e0 (by decide +kernel)
abbrev mX11_rests_64_e0 : ByteArray := .mk #[0x00, 0xc9, 0xb6, 0x00, 0x8a, 0x99, 0x00, 0x0e, 0x2a, 0x15, 0x04, 0x2d, 0xb4, 0x00, 0xc9, 0x04, 0xb6, 0x00, 0xf9, 0x2d, 0x59, 0xb4, 0x00, 0xcf, 0x15, 0x04, 0x64, 0xb5, 0x00, 0xcf, 0x2d, 0x2d, 0xb4, 0x00, 0xd8, 0x2d, 0xb4, 0x00, 0xcc, 0x1c, 0x60, 0xb8, 0x00, 0xfd, 0xb5, 0x00, 0xcc, 0x15, 0x04, 0xac]
theorem kmX11_rests_64_e0 : CK cX11_rests 64 mX11_rests_64_e0 := ck_of (by decide +kernel)
theorem dX11_rests_66 : decode cX11_rests 66 = .ok (.invokevirtual 138, 3) := rd_chunk (k := 64) (i := 2) kmX11_rests_64_e0 (by decide +kernel)
theorem dX11_rests_69 : decode cX11_rests 69 = .ok (.ifCond .eq 14, 3) := rd_chunk (k := 64) (i := 5) kmX11_rests_64_e0 (by decide +kernel)
theorem dX11_rests_72 : decode cX11_rests 72 = .ok (.aload_n 0, 1) := rd_chunk (k := 64) (i := 8) kmX11_rests_64_e0 (by decide +kernel)
theorem dX11_rests_73 : decode cX11_rests 73 = .ok (.iload 4, 2) := rd_chunk (k := 64) (i := 9) kmX11_rests_64_e0 (by decide +kernel)
theorem dX11_rests_75 : decode cX11_rests 75 = .ok (.aload_n 3, 1) := rd_chunk (k := 64) (i := 11) kmX11_rests_64_e0 (by decide +kernel)
theorem dX11_rests_76 : decode cX11_rests 76 = .ok (.getfield 201, 3) := rd_chunk (k := 64) (i := 12) kmX11_rests_64_e0 (by decide +kernel)
theorem dX11_rests_79 : decode cX11_rests 79 = .ok (.iconst 1, 1) := rd_chunk (k := 64) (i := 15) kmX11_rests_64_e0 (by decide +kernel)
theorem dX11_rests_80 : decode cX11_rests 80 = .ok (.invokevirtual 249, 3) := rd_chunk (k := 64) (i := 16) kmX11_rests_64_e0 (by decide +kernel)
theorem dX11_rests_83 : decode cX11_rests 83 = .ok (.aload_n 3, 1) := rd_chunk (k := 64) (i := 19) kmX11_rests_64_e0 (by decide +kernel)
theorem dX11_rests_84 : decode cX11_rests 84 = .ok (.dup, 1) := rd_chunk (k := 64) (i := 20) kmX11_rests_64_e0 (by decide +kernel)
theorem dX11_rests_85 : decode cX11_rests 85 = .ok (.getfield 207, 3) := rd_chunk (k := 64) (i := 21) kmX11_rests_64_e0 (by decide +kernel)
theorem dX11_rests_88 : decode cX11_rests 88 = .ok (.iload 4, 2) := rd_chunk (k := 64) (i := 24) kmX11_rests_64_e0 (by decide +kernel)
theorem dX11_rests_90 : decode cX11_rests 90 = .ok (.isub, 1) := rd_chunk (k := 64) (i := 26) kmX11_rests_64_e0 (by decide +kernel)
theorem dX11_rests_91 : decode cX11_rests 91 = .ok (.putfield 207, 3) := rd_chunk (k := 64) (i := 27) kmX11_rests_64_e0 (by decide +kernel)
theorem dX11_rests_94 : decode cX11_rests 94 = .ok (.aload_n 3, 1) := rd_chunk (k := 64) (i := 30) kmX11_rests_64_e0 (by decide +kernel)
theorem dX11_rests_95 : decode cX11_rests 95 = .ok (.aload_n 3, 1) := rd_chunk (k := 64) (i := 31) kmX11_rests_64_e0 (by decide +kernel)
theorem dX11_rests_96 : decode cX11_rests 96 = .ok (.getfield 216, 3) := rd_chunk (k := 64) (i := 32) kmX11_rests_64_e0 (by decide +kernel)
theorem dX11_rests_99 : decode cX11_rests 99 = .ok (.aload_n 3, 1) := rd_chunk (k := 64) (i := 35) kmX11_rests_64_e0 (by decide +kernel)
theorem dX11_rests_100 : decode cX11_rests 100 = .ok (.getfield 204, 3) := rd_chunk (k := 64) (i := 36) kmX11_rests_64_e0 (by decide +kernel)
theorem dX11_rests_103 : decode cX11_rests 103 = .ok (.iload_n 2, 1) := rd_chunk (k := 64) (i := 39) kmX11_rests_64_e0 (by decide +kernel)
theorem dX11_rests_104 : decode cX11_rests 104 = .ok (.iadd, 1) := rd_chunk (k := 64) (i := 40) kmX11_rests_64_e0 (by decide +kernel)
theorem dX11_rests_105 : decode cX11_rests 105 = .ok (.invokestatic 253, 3) := rd_chunk (k := 64) (i := 41) kmX11_rests_64_e0 (by decide +kernel)
theorem dX11_rests_108 : decode cX11_rests 108 = .ok (.putfield 204, 3) := rd_chunk (k := 64) (i := 44) kmX11_rests_64_e0 (by decide +kernel)
theorem dX11_rests_111 : decode cX11_rests 111 = .ok (.iload 4, 2) := rd_chunk (k := 64) (i := 47) kmX11_rests_64_e0 (by decide +kernel)
theorem dX11_rests_113 : decode cX11_rests 113 = .ok (.ireturn, 1) := rd_chunk (k := 64) (i := 49) kmX11_rests_64_e0 (by decide +kernel)
theorem dX11_returns_0 : decode cX11_returns 0 = .ok (.aload_n 0, 1) := by decide +kernel
theorem dX11_returns_1 : decode cX11_returns 1 = .ok (.iload_n 1, 1) := by decide +kernel
theorem dX11_returns_2 : decode cX11_returns 2 = .ok (.invokevirtual 111, 3) := by decide +kernel
theorem dX11_returns_5 : decode cX11_returns 5 = .ok (.astore_n 2, 1) := by decide +kernel
theorem dX11_returns_6 : decode cX11_returns 6 = .ok (.aload_n 2, 1) := by decide +kernel
theorem dX11_returns_7 : decode cX11_returns 7 = .ok (.ifnonnull 5, 3) := by decide +kernel
theorem dX11_returns_10 : decode cX11_returns 10 = .ok (.iconst (-1), 1) := by decide +kernel
theorem dX11_returns_11 : decode cX11_returns 11 = .ok (.ireturn, 1) := by decide +kernel
theorem dX11_returns_12 : decode cX11_returns 12 = .ok (.aload_n 2, 1) := by decide +kernel
theorem dX11_returns_13 : decode cX11_returns 13 = .ok (.getfield 201, 3) := by decide +kernel
theorem dX11_returns_16 : decode cX11_returns 16 = .ok (.istore_n 3, 1) := by decide +kernel
theorem dX11_returns_17 : decode cX11_returns 17 = .ok (.aload_n 2, 1) := by decide +kernel
theorem dX11_returns_18 : decode cX11_returns 18 = .ok (.iconst (-1), 1) := by decide +kernel
theorem dX11_returns_19 : decode cX11_returns 19 = .ok (.putfield 201, 3) := by decide +kernel
theorem dX11_returns_22 : decode cX11_returns 22 = .ok (.aload_n 2, 1) := by decide +kernel
theorem dX11_returns_23 : decode cX11_returns 23 = .ok (.aload_n 2, 1) := by decide +kernel
theorem dX11_returns_24 : decode cX11_returns 24 = .ok (.getfield 216, 3) := by decide +kernel
theorem dX11_returns_27 : decode cX11_returns 27 = .ok (.putfield 204, 3) := by decide +kernel
theorem dX11_returns_30 : decode cX11_returns 30 = .ok (.iload_n 3, 1) := by decide +kernel
theorem dX11_returns_31 : decode cX11_returns 31 = .ok (.ireturn, 1) := by decide +kernel
theorem dX11_earned_0 : decode cX11_earned 0 = .ok (.iload_n 1, 1) := by decide +kernel
theorem dX11_earned_1 : decode cX11_earned 1 = .ok (.invokestatic 181, 3) := by decide +kernel
theorem dX11_earned_4 : decode cX11_earned 4 = .ok (.ifCond .ne 5, 3) := by decide +kernel
theorem dX11_earned_7 : decode cX11_earned 7 = .ok (.iconst (-1), 1) := by decide +kernel
theorem dX11_earned_8 : decode cX11_earned 8 = .ok (.ireturn, 1) := by decide +kernel
theorem dX11_earned_9 : decode cX11_earned 9 = .ok (.aload_n 0, 1) := by decide +kernel
theorem dX11_earned_10 : decode cX11_earned 10 = .ok (.aload_n 0, 1) := by decide +kernel
theorem dX11_earned_11 : decode cX11_earned 11 = .ok (.getfield 26, 3) := by decide +kernel
theorem dX11_earned_14 : decode cX11_earned 14 = .ok (.getfield 160, 3) := by decide +kernel
theorem dX11_earned_17 : decode cX11_earned 17 = .ok (.iload_n 1, 1) := by decide +kernel
theorem dX11_earned_18 : decode cX11_earned 18 = .ok (.invokevirtual 256, 3) := by decide +kernel
theorem dX11_earned_21 : decode cX11_earned 21 = .ok (.i2l, 1) := by decide +kernel
theorem dX11_earned_22 : decode cX11_earned 22 = .ok (.invokevirtual 259, 3) := by decide +kernel
theorem dX11_earned_25 : decode cX11_earned 25 = .ok (.aload_n 0, 1) := by decide +kernel
theorem dX11_earned_26 : decode cX11_earned 26 = .ok (.getfield 40, 3) := by decide +kernel
theorem dX11_earned_29 : decode cX11_earned 29 = .ok (.iload_n 1, 1) := by decide +kernel
theorem dX11_earned_30 : decode cX11_earned 30 = .ok (.iaload, 1) := by decide +kernel
theorem dX11_earned_31 : decode cX11_earned 31 = .ok (.ireturn, 1) := by decide +kernel
abbrev mX11_climb_0_e0 : ByteArray := .mk #[0x2a, 0x1b, 0xb6, 0x00, 0x6f, 0x4d, 0x2c, 0xc6, 0x00, 0x0d, 0x2a, 0xb4, 0x00, 0x1a, 0xb4, 0x00, 0xac, 0x9a, 0x00, 0x05, 0x02, 0xac, 0x2c, 0xb4, 0x01, 0x07, 0x2c, 0xb4, 0x00, 0xd5, 0x2c, 0xb4, 0x00, 0xc4, 0x02, 0xb6, 0x01, 0x0b, 0x2c, 0xb4, 0x01, 0x07, 0xb6, 0x01, 0x10, 0x42, 0x21, 0x14, 0x01, 0x14, 0x94, 0x9a, 0x00, 0x06, 0x10, 0xfe, 0xac, 0x2a, 0x21, 0xb8, 0x01, 0x16, 0x85, 0x21, 0xb8, 0x01, 0x1a, 0x85, 0xb6, 0x00, 0xe7, 0x03]
theorem kmX11_climb_0_e0 : CK cX11_climb 0 mX11_climb_0_e0 := ck_of (by decide +kernel)
theorem dX11_climb_0 : decode cX11_climb 0 = .ok (.aload_n 0, 1) := rd_chunk (k := 0) (i := 0) kmX11_climb_0_e0 (by decide +kernel)
theorem dX11_climb_1 : decode cX11_climb 1 = .ok (.iload_n 1, 1) := rd_chunk (k := 0) (i := 1) kmX11_climb_0_e0 (by decide +kernel)
theorem dX11_climb_2 : decode cX11_climb 2 = .ok (.invokevirtual 111, 3) := rd_chunk (k := 0) (i := 2) kmX11_climb_0_e0 (by decide +kernel)
theorem dX11_climb_5 : decode cX11_climb 5 = .ok (.astore_n 2, 1) := rd_chunk (k := 0) (i := 5) kmX11_climb_0_e0 (by decide +kernel)
theorem dX11_climb_6 : decode cX11_climb 6 = .ok (.aload_n 2, 1) := rd_chunk (k := 0) (i := 6) kmX11_climb_0_e0 (by decide +kernel)
theorem dX11_climb_7 : decode cX11_climb 7 = .ok (.ifnull 13, 3) := rd_chunk (k := 0) (i := 7) kmX11_climb_0_e0 (by decide +kernel)
theorem dX11_climb_10 : decode cX11_climb 10 = .ok (.aload_n 0, 1) := rd_chunk (k := 0) (i := 10) kmX11_climb_0_e0 (by decide +kernel)
theorem dX11_climb_11 : decode cX11_climb 11 = .ok (.getfield 26, 3) := rd_chunk (k := 0) (i := 11) kmX11_climb_0_e0 (by decide +kernel)
theorem dX11_climb_14 : decode cX11_climb 14 = .ok (.getfield 172, 3) := rd_chunk (k := 0) (i := 14) kmX11_climb_0_e0 (by decide +kernel)
theorem dX11_climb_17 : decode cX11_climb 17 = .ok (.ifCond .ne 5, 3) := rd_chunk (k := 0) (i := 17) kmX11_climb_0_e0 (by decide +kernel)
theorem dX11_climb_20 : decode cX11_climb 20 = .ok (.iconst (-1), 1) := rd_chunk (k := 0) (i := 20) kmX11_climb_0_e0 (by decide +kernel)
theorem dX11_climb_21 : decode cX11_climb 21 = .ok (.ireturn, 1) := rd_chunk (k := 0) (i := 21) kmX11_climb_0_e0 (by decide +kernel)
theorem dX11_climb_22 : decode cX11_climb 22 = .ok (.aload_n 2, 1) := rd_chunk (k := 0) (i := 22) kmX11_climb_0_e0 (by decide +kernel)
theorem dX11_climb_23 : decode cX11_climb 23 = .ok (.getfield 263, 3) := rd_chunk (k := 0) (i := 23) kmX11_climb_0_e0 (by decide +kernel)
theorem dX11_climb_26 : decode cX11_climb 26 = .ok (.aload_n 2, 1) := rd_chunk (k := 0) (i := 26) kmX11_climb_0_e0 (by decide +kernel)
theorem dX11_climb_27 : decode cX11_climb 27 = .ok (.getfield 213, 3) := rd_chunk (k := 0) (i := 27) kmX11_climb_0_e0 (by decide +kernel)
theorem dX11_climb_30 : decode cX11_climb 30 = .ok (.aload_n 2, 1) := rd_chunk (k := 0) (i := 30) kmX11_climb_0_e0 (by decide +kernel)
theorem dX11_climb_31 : decode cX11_climb 31 = .ok (.getfield 196, 3) := rd_chunk (k := 0) (i := 31) kmX11_climb_0_e0 (by decide +kernel)
theorem dX11_climb_34 : decode cX11_climb 34 = .ok (.iconst (-1), 1) := rd_chunk (k := 0) (i := 34) kmX11_climb_0_e0 (by decide +kernel)
theorem dX11_climb_35 : decode cX11_climb 35 = .ok (.invokevirtual 267, 3) := rd_chunk (k := 0) (i := 35) kmX11_climb_0_e0 (by decide +kernel)
theorem dX11_climb_38 : decode cX11_climb 38 = .ok (.aload_n 2, 1) := rd_chunk (k := 0) (i := 38) kmX11_climb_0_e0 (by decide +kernel)
theorem dX11_climb_39 : decode cX11_climb 39 = .ok (.getfield 263, 3) := rd_chunk (k := 0) (i := 39) kmX11_climb_0_e0 (by decide +kernel)
theorem dX11_climb_42 : decode cX11_climb 42 = .ok (.invokevirtual 272, 3) := rd_chunk (k := 0) (i := 42) kmX11_climb_0_e0 (by decide +kernel)
theorem dX11_climb_45 : decode cX11_climb 45 = .ok (.lstore_n 3, 1) := rd_chunk (k := 0) (i := 45) kmX11_climb_0_e0 (by decide +kernel)
theorem dX11_climb_46 : decode cX11_climb 46 = .ok (.lload_n 3, 1) := rd_chunk (k := 0) (i := 46) kmX11_climb_0_e0 (by decide +kernel)
theorem dX11_climb_47 : decode cX11_climb 47 = .ok (.ldc2_w 276, 3) := rd_chunk (k := 0) (i := 47) kmX11_climb_0_e0 (by decide +kernel)
theorem dX11_climb_50 : decode cX11_climb 50 = .ok (.lcmp, 1) := rd_chunk (k := 0) (i := 50) kmX11_climb_0_e0 (by decide +kernel)
theorem dX11_climb_51 : decode cX11_climb 51 = .ok (.ifCond .ne 6, 3) := rd_chunk (k := 0) (i := 51) kmX11_climb_0_e0 (by decide +kernel)
theorem dX11_climb_54 : decode cX11_climb 54 = .ok (.bipush (-2), 2) := rd_chunk (k := 0) (i := 54) kmX11_climb_0_e0 (by decide +kernel)
theorem dX11_climb_56 : decode cX11_climb 56 = .ok (.ireturn, 1) := rd_chunk (k := 0) (i := 56) kmX11_climb_0_e0 (by decide +kernel)
theorem dX11_climb_57 : decode cX11_climb 57 = .ok (.aload_n 0, 1) := rd_chunk (k := 0) (i := 57) kmX11_climb_0_e0 (by decide +kernel)
theorem dX11_climb_58 : decode cX11_climb 58 = .ok (.lload_n 3, 1) := rd_chunk (k := 0) (i := 58) kmX11_climb_0_e0 (by decide +kernel)
theorem dX11_climb_59 : decode cX11_climb 59 = .ok (.invokestatic 278, 3) := rd_chunk (k := 0) (i := 59) kmX11_climb_0_e0 (by decide +kernel)
theorem dX11_climb_62 : decode cX11_climb 62 = .ok (.i2l, 1) := rd_chunk (k := 0) (i := 62) kmX11_climb_0_e0 (by decide +kernel)
theorem dX11_climb_63 : decode cX11_climb 63 = .ok (.lload_n 3, 1) := rd_chunk (k := 0) (i := 63) kmX11_climb_0_e0 (by decide +kernel)
abbrev mX11_climb_64_e0 : ByteArray := .mk #[0xb8, 0x01, 0x1a, 0x85, 0xb6, 0x00, 0xe7, 0x03, 0x36, 0x05, 0x15, 0x05, 0x2a, 0xb4, 0x00, 0x1a, 0xb4, 0x00, 0xac, 0xa2, 0x00, 0x19, 0x21, 0x15, 0x05, 0xb8, 0x01, 0x1d, 0x99, 0x00, 0x0a, 0x2a, 0x15, 0x05, 0x85, 0xb6, 0x01, 0x21, 0x84, 0x05, 0x01, 0xa7, 0xff, 0xe1, 0x21, 0xb8, 0x01, 0x24, 0xac]
theorem kmX11_climb_64_e0 : CK cX11_climb 64 mX11_climb_64_e0 := ck_of (by decide +kernel)
theorem dX11_climb_64 : decode cX11_climb 64 = .ok (.invokestatic 282, 3) := rd_chunk (k := 64) (i := 0) kmX11_climb_64_e0 (by decide +kernel)
theorem dX11_climb_67 : decode cX11_climb 67 = .ok (.i2l, 1) := rd_chunk (k := 64) (i := 3) kmX11_climb_64_e0 (by decide +kernel)
theorem dX11_climb_68 : decode cX11_climb 68 = .ok (.invokevirtual 231, 3) := rd_chunk (k := 64) (i := 4) kmX11_climb_64_e0 (by decide +kernel)
theorem dX11_climb_71 : decode cX11_climb 71 = .ok (.iconst 0, 1) := rd_chunk (k := 64) (i := 7) kmX11_climb_64_e0 (by decide +kernel)
theorem dX11_climb_72 : decode cX11_climb 72 = .ok (.istore 5, 2) := rd_chunk (k := 64) (i := 8) kmX11_climb_64_e0 (by decide +kernel)
theorem dX11_climb_74 : decode cX11_climb 74 = .ok (.iload 5, 2) := rd_chunk (k := 64) (i := 10) kmX11_climb_64_e0 (by decide +kernel)
theorem dX11_climb_76 : decode cX11_climb 76 = .ok (.aload_n 0, 1) := rd_chunk (k := 64) (i := 12) kmX11_climb_64_e0 (by decide +kernel)
theorem dX11_climb_77 : decode cX11_climb 77 = .ok (.getfield 26, 3) := rd_chunk (k := 64) (i := 13) kmX11_climb_64_e0 (by decide +kernel)
theorem dX11_climb_80 : decode cX11_climb 80 = .ok (.getfield 172, 3) := rd_chunk (k := 64) (i := 16) kmX11_climb_64_e0 (by decide +kernel)
theorem dX11_climb_83 : decode cX11_climb 83 = .ok (.if_icmp .ge 25, 3) := rd_chunk (k := 64) (i := 19) kmX11_climb_64_e0 (by decide +kernel)
theorem dX11_climb_86 : decode cX11_climb 86 = .ok (.lload_n 3, 1) := rd_chunk (k := 64) (i := 22) kmX11_climb_64_e0 (by decide +kernel)
theorem dX11_climb_87 : decode cX11_climb 87 = .ok (.iload 5, 2) := rd_chunk (k := 64) (i := 23) kmX11_climb_64_e0 (by decide +kernel)
theorem dX11_climb_89 : decode cX11_climb 89 = .ok (.invokestatic 285, 3) := rd_chunk (k := 64) (i := 25) kmX11_climb_64_e0 (by decide +kernel)
theorem dX11_climb_92 : decode cX11_climb 92 = .ok (.ifCond .eq 10, 3) := rd_chunk (k := 64) (i := 28) kmX11_climb_64_e0 (by decide +kernel)
theorem dX11_climb_95 : decode cX11_climb 95 = .ok (.aload_n 0, 1) := rd_chunk (k := 64) (i := 31) kmX11_climb_64_e0 (by decide +kernel)
theorem dX11_climb_96 : decode cX11_climb 96 = .ok (.iload 5, 2) := rd_chunk (k := 64) (i := 32) kmX11_climb_64_e0 (by decide +kernel)
theorem dX11_climb_98 : decode cX11_climb 98 = .ok (.i2l, 1) := rd_chunk (k := 64) (i := 34) kmX11_climb_64_e0 (by decide +kernel)
theorem dX11_climb_99 : decode cX11_climb 99 = .ok (.invokevirtual 289, 3) := rd_chunk (k := 64) (i := 35) kmX11_climb_64_e0 (by decide +kernel)
theorem dX11_climb_102 : decode cX11_climb 102 = .ok (.iinc 5 1, 3) := rd_chunk (k := 64) (i := 38) kmX11_climb_64_e0 (by decide +kernel)
theorem dX11_climb_105 : decode cX11_climb 105 = .ok (.goto (-31), 3) := rd_chunk (k := 64) (i := 41) kmX11_climb_64_e0 (by decide +kernel)
theorem dX11_climb_108 : decode cX11_climb 108 = .ok (.lload_n 3, 1) := rd_chunk (k := 64) (i := 44) kmX11_climb_64_e0 (by decide +kernel)
theorem dX11_climb_109 : decode cX11_climb 109 = .ok (.invokestatic 292, 3) := rd_chunk (k := 64) (i := 45) kmX11_climb_64_e0 (by decide +kernel)
theorem dX11_climb_112 : decode cX11_climb 112 = .ok (.ireturn, 1) := rd_chunk (k := 64) (i := 48) kmX11_climb_64_e0 (by decide +kernel)
theorem dX11_knees_0 : decode cX11_knees 0 = .ok (.aload_n 0, 1) := by decide +kernel
theorem dX11_knees_1 : decode cX11_knees 1 = .ok (.iload_n 1, 1) := by decide +kernel
theorem dX11_knees_2 : decode cX11_knees 2 = .ok (.invokevirtual 111, 3) := by decide +kernel
theorem dX11_knees_5 : decode cX11_knees 5 = .ok (.astore_n 2, 1) := by decide +kernel
theorem dX11_knees_6 : decode cX11_knees 6 = .ok (.aload_n 2, 1) := by decide +kernel
theorem dX11_knees_7 : decode cX11_knees 7 = .ok (.ifnull 13, 3) := by decide +kernel
theorem dX11_knees_10 : decode cX11_knees 10 = .ok (.aload_n 0, 1) := by decide +kernel
theorem dX11_knees_11 : decode cX11_knees 11 = .ok (.getfield 26, 3) := by decide +kernel
theorem dX11_knees_14 : decode cX11_knees 14 = .ok (.getfield 172, 3) := by decide +kernel
theorem dX11_knees_17 : decode cX11_knees 17 = .ok (.ifCond .ne 5, 3) := by decide +kernel
theorem dX11_knees_20 : decode cX11_knees 20 = .ok (.iconst (-1), 1) := by decide +kernel
theorem dX11_knees_21 : decode cX11_knees 21 = .ok (.ireturn, 1) := by decide +kernel
theorem dX11_knees_22 : decode cX11_knees 22 = .ok (.aload_n 2, 1) := by decide +kernel
theorem dX11_knees_23 : decode cX11_knees 23 = .ok (.getfield 263, 3) := by decide +kernel
theorem dX11_knees_26 : decode cX11_knees 26 = .ok (.aload_n 2, 1) := by decide +kernel
theorem dX11_knees_27 : decode cX11_knees 27 = .ok (.getfield 213, 3) := by decide +kernel
theorem dX11_knees_30 : decode cX11_knees 30 = .ok (.aload_n 2, 1) := by decide +kernel
theorem dX11_knees_31 : decode cX11_knees 31 = .ok (.getfield 196, 3) := by decide +kernel
theorem dX11_knees_34 : decode cX11_knees 34 = .ok (.iconst (-1), 1) := by decide +kernel
theorem dX11_knees_35 : decode cX11_knees 35 = .ok (.invokevirtual 267, 3) := by decide +kernel
theorem dX11_knees_38 : decode cX11_knees 38 = .ok (.aload_n 0, 1) := by decide +kernel
theorem dX11_knees_39 : decode cX11_knees 39 = .ok (.getfield 60, 3) := by decide +kernel
theorem dX11_knees_42 : decode cX11_knees 42 = .ok (.aload_n 2, 1) := by decide +kernel
theorem dX11_knees_43 : decode cX11_knees 43 = .ok (.getfield 263, 3) := by decide +kernel
theorem dX11_knees_46 : decode cX11_knees 46 = .ok (.invokevirtual 295, 3) := by decide +kernel
theorem dX11_knees_49 : decode cX11_knees 49 = .ok (.lstore_n 3, 1) := by decide +kernel
theorem dX11_knees_50 : decode cX11_knees 50 = .ok (.lload_n 3, 1) := by decide +kernel
theorem dX11_knees_51 : decode cX11_knees 51 = .ok (.ldc2_w 276, 3) := by decide +kernel
theorem dX11_knees_54 : decode cX11_knees 54 = .ok (.lcmp, 1) := by decide +kernel
theorem dX11_knees_55 : decode cX11_knees 55 = .ok (.ifCond .ne 6, 3) := by decide +kernel
theorem dX11_knees_58 : decode cX11_knees 58 = .ok (.bipush (-2), 2) := by decide +kernel
theorem dX11_knees_60 : decode cX11_knees 60 = .ok (.ireturn, 1) := by decide +kernel
theorem dX11_knees_61 : decode cX11_knees 61 = .ok (.aload_n 0, 1) := by decide +kernel
theorem dX11_knees_62 : decode cX11_knees 62 = .ok (.lload_n 3, 1) := by decide +kernel
theorem dX11_knees_63 : decode cX11_knees 63 = .ok (.invokestatic 292, 3) := by decide +kernel
theorem dX11_knees_66 : decode cX11_knees 66 = .ok (.i2l, 1) := by decide +kernel
theorem dX11_knees_67 : decode cX11_knees 67 = .ok (.invokevirtual 259, 3) := by decide +kernel
theorem dX11_knees_70 : decode cX11_knees 70 = .ok (.lload_n 3, 1) := by decide +kernel
theorem dX11_knees_71 : decode cX11_knees 71 = .ok (.invokestatic 278, 3) := by decide +kernel
theorem dX11_knees_74 : decode cX11_knees 74 = .ok (.ireturn, 1) := by decide +kernel
theorem dX11_ways_0 : decode cX11_ways 0 = .ok (.aload_n 0, 1) := by decide +kernel
theorem dX11_ways_1 : decode cX11_ways 1 = .ok (.iload_n 1, 1) := by decide +kernel
theorem dX11_ways_2 : decode cX11_ways 2 = .ok (.invokevirtual 111, 3) := by decide +kernel
theorem dX11_ways_5 : decode cX11_ways 5 = .ok (.astore_n 3, 1) := by decide +kernel
theorem dX11_ways_6 : decode cX11_ways 6 = .ok (.aload_n 3, 1) := by decide +kernel
theorem dX11_ways_7 : decode cX11_ways 7 = .ok (.ifnull 14, 3) := by decide +kernel
theorem dX11_ways_10 : decode cX11_ways 10 = .ok (.iload_n 2, 1) := by decide +kernel
theorem dX11_ways_11 : decode cX11_ways 11 = .ok (.ifCond .lt 10, 3) := by decide +kernel
theorem dX11_ways_14 : decode cX11_ways 14 = .ok (.iload_n 2, 1) := by decide +kernel
theorem dX11_ways_15 : decode cX11_ways 15 = .ok (.sipush 999, 3) := by decide +kernel
theorem dX11_ways_18 : decode cX11_ways 18 = .ok (.if_icmp .le 7, 3) := by decide +kernel
theorem dX11_ways_21 : decode cX11_ways 21 = .ok (.ldc2_w 299, 3) := by decide +kernel
theorem dX11_ways_24 : decode cX11_ways 24 = .ok (.lreturn, 1) := by decide +kernel
theorem dX11_ways_25 : decode cX11_ways 25 = .ok (.aload_n 3, 1) := by decide +kernel
theorem dX11_ways_26 : decode cX11_ways 26 = .ok (.getfield 263, 3) := by decide +kernel
theorem dX11_ways_29 : decode cX11_ways 29 = .ok (.aload_n 3, 1) := by decide +kernel
theorem dX11_ways_30 : decode cX11_ways 30 = .ok (.getfield 213, 3) := by decide +kernel
theorem dX11_ways_33 : decode cX11_ways 33 = .ok (.aload_n 3, 1) := by decide +kernel
theorem dX11_ways_34 : decode cX11_ways 34 = .ok (.getfield 196, 3) := by decide +kernel
theorem dX11_ways_37 : decode cX11_ways 37 = .ok (.iconst (-1), 1) := by decide +kernel
theorem dX11_ways_38 : decode cX11_ways 38 = .ok (.invokevirtual 267, 3) := by decide +kernel
theorem dX11_ways_41 : decode cX11_ways 41 = .ok (.aload_n 0, 1) := by decide +kernel
theorem dX11_ways_42 : decode cX11_ways 42 = .ok (.getfield 60, 3) := by decide +kernel
theorem dX11_ways_45 : decode cX11_ways 45 = .ok (.aload_n 3, 1) := by decide +kernel
theorem dX11_ways_46 : decode cX11_ways 46 = .ok (.getfield 263, 3) := by decide +kernel
theorem dX11_ways_49 : decode cX11_ways 49 = .ok (.iload_n 2, 1) := by decide +kernel
theorem dX11_ways_50 : decode cX11_ways 50 = .ok (.iconst (-1), 1) := by decide +kernel
theorem dX11_ways_51 : decode cX11_ways 51 = .ok (.invokevirtual 301, 3) := by decide +kernel
theorem dX11_ways_54 : decode cX11_ways 54 = .ok (.lstore 4, 2) := by decide +kernel
theorem dX11_ways_56 : decode cX11_ways 56 = .ok (.aload_n 0, 1) := by decide +kernel
theorem dX11_ways_57 : decode cX11_ways 57 = .ok (.aload_n 0, 1) := by decide +kernel
theorem dX11_ways_58 : decode cX11_ways 58 = .ok (.getfield 60, 3) := by decide +kernel
theorem dX11_ways_61 : decode cX11_ways 61 = .ok (.getfield 305, 3) := by decide +kernel
theorem dX11_ways_64 : decode cX11_ways 64 = .ok (.invokevirtual 259, 3) := by decide +kernel
theorem dX11_ways_67 : decode cX11_ways 67 = .ok (.lload 4, 2) := by decide +kernel
theorem dX11_ways_69 : decode cX11_ways 69 = .ok (.lreturn, 1) := by decide +kernel
abbrev mX11_trod_0_e0 : ByteArray := .mk #[0x2a, 0x1b, 0xb6, 0x00, 0x6f, 0x3a, 0x04, 0x19, 0x04, 0xc6, 0x00, 0x19, 0x1c, 0x9b, 0x00, 0x15, 0x1c, 0x11, 0x03, 0xe7, 0xa3, 0x00, 0x0e, 0x2a, 0xb4, 0x00, 0x1a, 0x1d, 0xb6, 0x00, 0x8a, 0x9a, 0x00, 0x05, 0x02, 0xac, 0x19, 0x04, 0xb4, 0x01, 0x07, 0x19, 0x04, 0xb4, 0x00, 0xd5, 0x19, 0x04, 0xb4, 0x00, 0xc4, 0x02, 0xb6, 0x01, 0x0b, 0x2a, 0xb4, 0x00, 0x3c, 0x19, 0x04, 0xb4, 0x01, 0x07, 0x1c, 0x02, 0xb6, 0x01, 0x2d, 0x37, 0x05, 0x16]
theorem kmX11_trod_0_e0 : CK cX11_trod 0 mX11_trod_0_e0 := ck_of (by decide +kernel)
theorem dX11_trod_0 : decode cX11_trod 0 = .ok (.aload_n 0, 1) := rd_chunk (k := 0) (i := 0) kmX11_trod_0_e0 (by decide +kernel)
theorem dX11_trod_1 : decode cX11_trod 1 = .ok (.iload_n 1, 1) := rd_chunk (k := 0) (i := 1) kmX11_trod_0_e0 (by decide +kernel)
theorem dX11_trod_2 : decode cX11_trod 2 = .ok (.invokevirtual 111, 3) := rd_chunk (k := 0) (i := 2) kmX11_trod_0_e0 (by decide +kernel)
theorem dX11_trod_5 : decode cX11_trod 5 = .ok (.astore 4, 2) := rd_chunk (k := 0) (i := 5) kmX11_trod_0_e0 (by decide +kernel)
theorem dX11_trod_7 : decode cX11_trod 7 = .ok (.aload 4, 2) := rd_chunk (k := 0) (i := 7) kmX11_trod_0_e0 (by decide +kernel)
theorem dX11_trod_9 : decode cX11_trod 9 = .ok (.ifnull 25, 3) := rd_chunk (k := 0) (i := 9) kmX11_trod_0_e0 (by decide +kernel)
theorem dX11_trod_12 : decode cX11_trod 12 = .ok (.iload_n 2, 1) := rd_chunk (k := 0) (i := 12) kmX11_trod_0_e0 (by decide +kernel)
theorem dX11_trod_13 : decode cX11_trod 13 = .ok (.ifCond .lt 21, 3) := rd_chunk (k := 0) (i := 13) kmX11_trod_0_e0 (by decide +kernel)
theorem dX11_trod_16 : decode cX11_trod 16 = .ok (.iload_n 2, 1) := rd_chunk (k := 0) (i := 16) kmX11_trod_0_e0 (by decide +kernel)
theorem dX11_trod_17 : decode cX11_trod 17 = .ok (.sipush 999, 3) := rd_chunk (k := 0) (i := 17) kmX11_trod_0_e0 (by decide +kernel)
theorem dX11_trod_20 : decode cX11_trod 20 = .ok (.if_icmp .gt 14, 3) := rd_chunk (k := 0) (i := 20) kmX11_trod_0_e0 (by decide +kernel)
theorem dX11_trod_23 : decode cX11_trod 23 = .ok (.aload_n 0, 1) := rd_chunk (k := 0) (i := 23) kmX11_trod_0_e0 (by decide +kernel)
theorem dX11_trod_24 : decode cX11_trod 24 = .ok (.getfield 26, 3) := rd_chunk (k := 0) (i := 24) kmX11_trod_0_e0 (by decide +kernel)
theorem dX11_trod_27 : decode cX11_trod 27 = .ok (.iload_n 3, 1) := rd_chunk (k := 0) (i := 27) kmX11_trod_0_e0 (by decide +kernel)
theorem dX11_trod_28 : decode cX11_trod 28 = .ok (.invokevirtual 138, 3) := rd_chunk (k := 0) (i := 28) kmX11_trod_0_e0 (by decide +kernel)
theorem dX11_trod_31 : decode cX11_trod 31 = .ok (.ifCond .ne 5, 3) := rd_chunk (k := 0) (i := 31) kmX11_trod_0_e0 (by decide +kernel)
theorem dX11_trod_34 : decode cX11_trod 34 = .ok (.iconst (-1), 1) := rd_chunk (k := 0) (i := 34) kmX11_trod_0_e0 (by decide +kernel)
theorem dX11_trod_35 : decode cX11_trod 35 = .ok (.ireturn, 1) := rd_chunk (k := 0) (i := 35) kmX11_trod_0_e0 (by decide +kernel)
theorem dX11_trod_36 : decode cX11_trod 36 = .ok (.aload 4, 2) := rd_chunk (k := 0) (i := 36) kmX11_trod_0_e0 (by decide +kernel)
theorem dX11_trod_38 : decode cX11_trod 38 = .ok (.getfield 263, 3) := rd_chunk (k := 0) (i := 38) kmX11_trod_0_e0 (by decide +kernel)
theorem dX11_trod_41 : decode cX11_trod 41 = .ok (.aload 4, 2) := rd_chunk (k := 0) (i := 41) kmX11_trod_0_e0 (by decide +kernel)
theorem dX11_trod_43 : decode cX11_trod 43 = .ok (.getfield 213, 3) := rd_chunk (k := 0) (i := 43) kmX11_trod_0_e0 (by decide +kernel)
theorem dX11_trod_46 : decode cX11_trod 46 = .ok (.aload 4, 2) := rd_chunk (k := 0) (i := 46) kmX11_trod_0_e0 (by decide +kernel)
theorem dX11_trod_48 : decode cX11_trod 48 = .ok (.getfield 196, 3) := rd_chunk (k := 0) (i := 48) kmX11_trod_0_e0 (by decide +kernel)
theorem dX11_trod_51 : decode cX11_trod 51 = .ok (.iconst (-1), 1) := rd_chunk (k := 0) (i := 51) kmX11_trod_0_e0 (by decide +kernel)
theorem dX11_trod_52 : decode cX11_trod 52 = .ok (.invokevirtual 267, 3) := rd_chunk (k := 0) (i := 52) kmX11_trod_0_e0 (by decide +kernel)
theorem dX11_trod_55 : decode cX11_trod 55 = .ok (.aload_n 0, 1) := rd_chunk (k := 0) (i := 55) kmX11_trod_0_e0 (by decide +kernel)
theorem dX11_trod_56 : decode cX11_trod 56 = .ok (.getfield 60, 3) := rd_chunk (k := 0) (i := 56) kmX11_trod_0_e0 (by decide +kernel)
theorem dX11_trod_59 : decode cX11_trod 59 = .ok (.aload 4, 2) := rd_chunk (k := 0) (i := 59) kmX11_trod_0_e0 (by decide +kernel)
theorem dX11_trod_61 : decode cX11_trod 61 = .ok (.getfield 263, 3) := rd_chunk (k := 0) (i := 61) kmX11_trod_0_e0 (by decide +kernel)
abbrev mX11_trod_64_e0 : ByteArray := .mk #[0x1c, 0x02, 0xb6, 0x01, 0x2d, 0x37, 0x05, 0x16, 0x05, 0x09, 0x94, 0x9a, 0x00, 0x06, 0x10, 0xfe, 0xac, 0x2a, 0x2a, 0xb4, 0x00, 0x3c, 0x19, 0x04, 0xb4, 0x01, 0x07, 0x1c, 0x1d, 0xb6, 0x01, 0x2d, 0x16, 0x05, 0xb6, 0x01, 0x35, 0x03, 0xac]
theorem kmX11_trod_64_e0 : CK cX11_trod 64 mX11_trod_64_e0 := ck_of (by decide +kernel)
theorem dX11_trod_64 : decode cX11_trod 64 = .ok (.iload_n 2, 1) := rd_chunk (k := 64) (i := 0) kmX11_trod_64_e0 (by decide +kernel)
theorem dX11_trod_65 : decode cX11_trod 65 = .ok (.iconst (-1), 1) := rd_chunk (k := 64) (i := 1) kmX11_trod_64_e0 (by decide +kernel)
theorem dX11_trod_66 : decode cX11_trod 66 = .ok (.invokevirtual 301, 3) := rd_chunk (k := 64) (i := 2) kmX11_trod_64_e0 (by decide +kernel)
theorem dX11_trod_69 : decode cX11_trod 69 = .ok (.lstore 5, 2) := rd_chunk (k := 64) (i := 5) kmX11_trod_64_e0 (by decide +kernel)
theorem dX11_trod_71 : decode cX11_trod 71 = .ok (.lload 5, 2) := rd_chunk (k := 64) (i := 7) kmX11_trod_64_e0 (by decide +kernel)
theorem dX11_trod_73 : decode cX11_trod 73 = .ok (.lconst 0, 1) := rd_chunk (k := 64) (i := 9) kmX11_trod_64_e0 (by decide +kernel)
theorem dX11_trod_74 : decode cX11_trod 74 = .ok (.lcmp, 1) := rd_chunk (k := 64) (i := 10) kmX11_trod_64_e0 (by decide +kernel)
theorem dX11_trod_75 : decode cX11_trod 75 = .ok (.ifCond .ne 6, 3) := rd_chunk (k := 64) (i := 11) kmX11_trod_64_e0 (by decide +kernel)
theorem dX11_trod_78 : decode cX11_trod 78 = .ok (.bipush (-2), 2) := rd_chunk (k := 64) (i := 14) kmX11_trod_64_e0 (by decide +kernel)
theorem dX11_trod_80 : decode cX11_trod 80 = .ok (.ireturn, 1) := rd_chunk (k := 64) (i := 16) kmX11_trod_64_e0 (by decide +kernel)
theorem dX11_trod_81 : decode cX11_trod 81 = .ok (.aload_n 0, 1) := rd_chunk (k := 64) (i := 17) kmX11_trod_64_e0 (by decide +kernel)
theorem dX11_trod_82 : decode cX11_trod 82 = .ok (.aload_n 0, 1) := rd_chunk (k := 64) (i := 18) kmX11_trod_64_e0 (by decide +kernel)
theorem dX11_trod_83 : decode cX11_trod 83 = .ok (.getfield 60, 3) := rd_chunk (k := 64) (i := 19) kmX11_trod_64_e0 (by decide +kernel)
theorem dX11_trod_86 : decode cX11_trod 86 = .ok (.aload 4, 2) := rd_chunk (k := 64) (i := 22) kmX11_trod_64_e0 (by decide +kernel)
theorem dX11_trod_88 : decode cX11_trod 88 = .ok (.getfield 263, 3) := rd_chunk (k := 64) (i := 24) kmX11_trod_64_e0 (by decide +kernel)
theorem dX11_trod_91 : decode cX11_trod 91 = .ok (.iload_n 2, 1) := rd_chunk (k := 64) (i := 27) kmX11_trod_64_e0 (by decide +kernel)
theorem dX11_trod_92 : decode cX11_trod 92 = .ok (.iload_n 3, 1) := rd_chunk (k := 64) (i := 28) kmX11_trod_64_e0 (by decide +kernel)
theorem dX11_trod_93 : decode cX11_trod 93 = .ok (.invokevirtual 301, 3) := rd_chunk (k := 64) (i := 29) kmX11_trod_64_e0 (by decide +kernel)
theorem dX11_trod_96 : decode cX11_trod 96 = .ok (.lload 5, 2) := rd_chunk (k := 64) (i := 32) kmX11_trod_64_e0 (by decide +kernel)
theorem dX11_trod_98 : decode cX11_trod 98 = .ok (.invokevirtual 309, 3) := rd_chunk (k := 64) (i := 34) kmX11_trod_64_e0 (by decide +kernel)
theorem dX11_trod_101 : decode cX11_trod 101 = .ok (.iconst 0, 1) := rd_chunk (k := 64) (i := 37) kmX11_trod_64_e0 (by decide +kernel)
theorem dX11_trod_102 : decode cX11_trod 102 = .ok (.ireturn, 1) := rd_chunk (k := 64) (i := 38) kmX11_trod_64_e0 (by decide +kernel)
abbrev mX11_who_0_e0 : ByteArray := .mk #[0x1b, 0x9b, 0x00, 0x15, 0x1b, 0x11, 0x03, 0xe7, 0xa3, 0x00, 0x0e, 0x2a, 0xb4, 0x00, 0x1a, 0x1c, 0xb6, 0x00, 0x8a, 0x9a, 0x00, 0x05, 0x02, 0xac, 0x03, 0x3e, 0x03, 0x36, 0x04, 0x15, 0x04, 0x2a, 0xb4, 0x00, 0x24, 0xa2, 0x00, 0x47, 0x2a, 0x15, 0x04, 0xb6, 0x00, 0x6f, 0x3a, 0x05, 0x19, 0x05, 0xc6, 0x00, 0x34, 0x19, 0x05, 0xb4, 0x01, 0x07, 0x19, 0x05, 0xb4, 0x00, 0xd5, 0x19, 0x05, 0xb4, 0x00, 0xc4, 0x02, 0xb6, 0x01, 0x0b, 0x1d, 0x2a]
theorem kmX11_who_0_e0 : CK cX11_who 0 mX11_who_0_e0 := ck_of (by decide +kernel)
theorem dX11_who_0 : decode cX11_who 0 = .ok (.iload_n 1, 1) := rd_chunk (k := 0) (i := 0) kmX11_who_0_e0 (by decide +kernel)
theorem dX11_who_1 : decode cX11_who 1 = .ok (.ifCond .lt 21, 3) := rd_chunk (k := 0) (i := 1) kmX11_who_0_e0 (by decide +kernel)
theorem dX11_who_4 : decode cX11_who 4 = .ok (.iload_n 1, 1) := rd_chunk (k := 0) (i := 4) kmX11_who_0_e0 (by decide +kernel)
theorem dX11_who_5 : decode cX11_who 5 = .ok (.sipush 999, 3) := rd_chunk (k := 0) (i := 5) kmX11_who_0_e0 (by decide +kernel)
theorem dX11_who_8 : decode cX11_who 8 = .ok (.if_icmp .gt 14, 3) := rd_chunk (k := 0) (i := 8) kmX11_who_0_e0 (by decide +kernel)
theorem dX11_who_11 : decode cX11_who 11 = .ok (.aload_n 0, 1) := rd_chunk (k := 0) (i := 11) kmX11_who_0_e0 (by decide +kernel)
theorem dX11_who_12 : decode cX11_who 12 = .ok (.getfield 26, 3) := rd_chunk (k := 0) (i := 12) kmX11_who_0_e0 (by decide +kernel)
theorem dX11_who_15 : decode cX11_who 15 = .ok (.iload_n 2, 1) := rd_chunk (k := 0) (i := 15) kmX11_who_0_e0 (by decide +kernel)
theorem dX11_who_16 : decode cX11_who 16 = .ok (.invokevirtual 138, 3) := rd_chunk (k := 0) (i := 16) kmX11_who_0_e0 (by decide +kernel)
theorem dX11_who_19 : decode cX11_who 19 = .ok (.ifCond .ne 5, 3) := rd_chunk (k := 0) (i := 19) kmX11_who_0_e0 (by decide +kernel)
theorem dX11_who_22 : decode cX11_who 22 = .ok (.iconst (-1), 1) := rd_chunk (k := 0) (i := 22) kmX11_who_0_e0 (by decide +kernel)
theorem dX11_who_23 : decode cX11_who 23 = .ok (.ireturn, 1) := rd_chunk (k := 0) (i := 23) kmX11_who_0_e0 (by decide +kernel)
theorem dX11_who_24 : decode cX11_who 24 = .ok (.iconst 0, 1) := rd_chunk (k := 0) (i := 24) kmX11_who_0_e0 (by decide +kernel)
theorem dX11_who_25 : decode cX11_who 25 = .ok (.istore_n 3, 1) := rd_chunk (k := 0) (i := 25) kmX11_who_0_e0 (by decide +kernel)
theorem dX11_who_26 : decode cX11_who 26 = .ok (.iconst 0, 1) := rd_chunk (k := 0) (i := 26) kmX11_who_0_e0 (by decide +kernel)
theorem dX11_who_27 : decode cX11_who 27 = .ok (.istore 4, 2) := rd_chunk (k := 0) (i := 27) kmX11_who_0_e0 (by decide +kernel)
theorem dX11_who_29 : decode cX11_who 29 = .ok (.iload 4, 2) := rd_chunk (k := 0) (i := 29) kmX11_who_0_e0 (by decide +kernel)
theorem dX11_who_31 : decode cX11_who 31 = .ok (.aload_n 0, 1) := rd_chunk (k := 0) (i := 31) kmX11_who_0_e0 (by decide +kernel)
theorem dX11_who_32 : decode cX11_who 32 = .ok (.getfield 36, 3) := rd_chunk (k := 0) (i := 32) kmX11_who_0_e0 (by decide +kernel)
theorem dX11_who_35 : decode cX11_who 35 = .ok (.if_icmp .ge 71, 3) := rd_chunk (k := 0) (i := 35) kmX11_who_0_e0 (by decide +kernel)
theorem dX11_who_38 : decode cX11_who 38 = .ok (.aload_n 0, 1) := rd_chunk (k := 0) (i := 38) kmX11_who_0_e0 (by decide +kernel)
theorem dX11_who_39 : decode cX11_who 39 = .ok (.iload 4, 2) := rd_chunk (k := 0) (i := 39) kmX11_who_0_e0 (by decide +kernel)
theorem dX11_who_41 : decode cX11_who 41 = .ok (.invokevirtual 111, 3) := rd_chunk (k := 0) (i := 41) kmX11_who_0_e0 (by decide +kernel)
theorem dX11_who_44 : decode cX11_who 44 = .ok (.astore 5, 2) := rd_chunk (k := 0) (i := 44) kmX11_who_0_e0 (by decide +kernel)
theorem dX11_who_46 : decode cX11_who 46 = .ok (.aload 5, 2) := rd_chunk (k := 0) (i := 46) kmX11_who_0_e0 (by decide +kernel)
theorem dX11_who_48 : decode cX11_who 48 = .ok (.ifnull 52, 3) := rd_chunk (k := 0) (i := 48) kmX11_who_0_e0 (by decide +kernel)
theorem dX11_who_51 : decode cX11_who 51 = .ok (.aload 5, 2) := rd_chunk (k := 0) (i := 51) kmX11_who_0_e0 (by decide +kernel)
theorem dX11_who_53 : decode cX11_who 53 = .ok (.getfield 263, 3) := rd_chunk (k := 0) (i := 53) kmX11_who_0_e0 (by decide +kernel)
theorem dX11_who_56 : decode cX11_who 56 = .ok (.aload 5, 2) := rd_chunk (k := 0) (i := 56) kmX11_who_0_e0 (by decide +kernel)
theorem dX11_who_58 : decode cX11_who 58 = .ok (.getfield 213, 3) := rd_chunk (k := 0) (i := 58) kmX11_who_0_e0 (by decide +kernel)
theorem dX11_who_61 : decode cX11_who 61 = .ok (.aload 5, 2) := rd_chunk (k := 0) (i := 61) kmX11_who_0_e0 (by decide +kernel)
theorem dX11_who_63 : decode cX11_who 63 = .ok (.getfield 196, 3) := rd_chunk (k := 0) (i := 63) kmX11_who_0_e0 (by decide +kernel)
abbrev mX11_who_64_e0 : ByteArray := .mk #[0x00, 0xc4, 0x02, 0xb6, 0x01, 0x0b, 0x1d, 0x2a, 0xb4, 0x00, 0x3c, 0x19, 0x05, 0xb4, 0x01, 0x07, 0x1b, 0x1c, 0xb6, 0x01, 0x2d, 0x09, 0x94, 0x9e, 0x00, 0x0a, 0x04, 0x15, 0x04, 0x78, 0xa7, 0x00, 0x04, 0x03, 0x80, 0x3e, 0x84, 0x04, 0x01, 0xa7, 0xff, 0xb6, 0x1d, 0xac]
theorem kmX11_who_64_e0 : CK cX11_who 64 mX11_who_64_e0 := ck_of (by decide +kernel)
theorem dX11_who_66 : decode cX11_who 66 = .ok (.iconst (-1), 1) := rd_chunk (k := 64) (i := 2) kmX11_who_64_e0 (by decide +kernel)
theorem dX11_who_67 : decode cX11_who 67 = .ok (.invokevirtual 267, 3) := rd_chunk (k := 64) (i := 3) kmX11_who_64_e0 (by decide +kernel)
theorem dX11_who_70 : decode cX11_who 70 = .ok (.iload_n 3, 1) := rd_chunk (k := 64) (i := 6) kmX11_who_64_e0 (by decide +kernel)
theorem dX11_who_71 : decode cX11_who 71 = .ok (.aload_n 0, 1) := rd_chunk (k := 64) (i := 7) kmX11_who_64_e0 (by decide +kernel)
theorem dX11_who_72 : decode cX11_who 72 = .ok (.getfield 60, 3) := rd_chunk (k := 64) (i := 8) kmX11_who_64_e0 (by decide +kernel)
theorem dX11_who_75 : decode cX11_who 75 = .ok (.aload 5, 2) := rd_chunk (k := 64) (i := 11) kmX11_who_64_e0 (by decide +kernel)
theorem dX11_who_77 : decode cX11_who 77 = .ok (.getfield 263, 3) := rd_chunk (k := 64) (i := 13) kmX11_who_64_e0 (by decide +kernel)
theorem dX11_who_80 : decode cX11_who 80 = .ok (.iload_n 1, 1) := rd_chunk (k := 64) (i := 16) kmX11_who_64_e0 (by decide +kernel)
theorem dX11_who_81 : decode cX11_who 81 = .ok (.iload_n 2, 1) := rd_chunk (k := 64) (i := 17) kmX11_who_64_e0 (by decide +kernel)
theorem dX11_who_82 : decode cX11_who 82 = .ok (.invokevirtual 301, 3) := rd_chunk (k := 64) (i := 18) kmX11_who_64_e0 (by decide +kernel)
theorem dX11_who_85 : decode cX11_who 85 = .ok (.lconst 0, 1) := rd_chunk (k := 64) (i := 21) kmX11_who_64_e0 (by decide +kernel)
theorem dX11_who_86 : decode cX11_who 86 = .ok (.lcmp, 1) := rd_chunk (k := 64) (i := 22) kmX11_who_64_e0 (by decide +kernel)
theorem dX11_who_87 : decode cX11_who 87 = .ok (.ifCond .le 10, 3) := rd_chunk (k := 64) (i := 23) kmX11_who_64_e0 (by decide +kernel)
theorem dX11_who_90 : decode cX11_who 90 = .ok (.iconst 1, 1) := rd_chunk (k := 64) (i := 26) kmX11_who_64_e0 (by decide +kernel)
theorem dX11_who_91 : decode cX11_who 91 = .ok (.iload 4, 2) := rd_chunk (k := 64) (i := 27) kmX11_who_64_e0 (by decide +kernel)
theorem dX11_who_93 : decode cX11_who 93 = .ok (.ishl, 1) := rd_chunk (k := 64) (i := 29) kmX11_who_64_e0 (by decide +kernel)
theorem dX11_who_94 : decode cX11_who 94 = .ok (.goto 4, 3) := rd_chunk (k := 64) (i := 30) kmX11_who_64_e0 (by decide +kernel)
theorem dX11_who_97 : decode cX11_who 97 = .ok (.iconst 0, 1) := rd_chunk (k := 64) (i := 33) kmX11_who_64_e0 (by decide +kernel)
theorem dX11_who_98 : decode cX11_who 98 = .ok (.ior, 1) := rd_chunk (k := 64) (i := 34) kmX11_who_64_e0 (by decide +kernel)
theorem dX11_who_99 : decode cX11_who 99 = .ok (.istore_n 3, 1) := rd_chunk (k := 64) (i := 35) kmX11_who_64_e0 (by decide +kernel)
theorem dX11_who_100 : decode cX11_who 100 = .ok (.iinc 4 1, 3) := rd_chunk (k := 64) (i := 36) kmX11_who_64_e0 (by decide +kernel)
theorem dX11_who_103 : decode cX11_who 103 = .ok (.goto (-74), 3) := rd_chunk (k := 64) (i := 39) kmX11_who_64_e0 (by decide +kernel)
theorem dX11_who_106 : decode cX11_who 106 = .ok (.iload_n 3, 1) := rd_chunk (k := 64) (i := 42) kmX11_who_64_e0 (by decide +kernel)
theorem dX11_who_107 : decode cX11_who 107 = .ok (.ireturn, 1) := rd_chunk (k := 64) (i := 43) kmX11_who_64_e0 (by decide +kernel)
theorem dX11_next_0 : decode cX11_next 0 = .ok (.aload_n 0, 1) := by decide +kernel
theorem dX11_next_1 : decode cX11_next 1 = .ok (.iload_n 1, 1) := by decide +kernel
theorem dX11_next_2 : decode cX11_next 2 = .ok (.invokevirtual 111, 3) := by decide +kernel
theorem dX11_next_5 : decode cX11_next 5 = .ok (.astore_n 3, 1) := by decide +kernel
theorem dX11_next_6 : decode cX11_next 6 = .ok (.aload_n 3, 1) := by decide +kernel
theorem dX11_next_7 : decode cX11_next 7 = .ok (.ifnull 25, 3) := by decide +kernel
theorem dX11_next_10 : decode cX11_next 10 = .ok (.iload_n 2, 1) := by decide +kernel
theorem dX11_next_11 : decode cX11_next 11 = .ok (.iconst (-1), 1) := by decide +kernel
theorem dX11_next_12 : decode cX11_next 12 = .ok (.if_icmp .lt 20, 3) := by decide +kernel
theorem dX11_next_15 : decode cX11_next 15 = .ok (.iload_n 2, 1) := by decide +kernel
theorem dX11_next_16 : decode cX11_next 16 = .ok (.sipush 999, 3) := by decide +kernel
theorem dX11_next_19 : decode cX11_next 19 = .ok (.if_icmp .ge 13, 3) := by decide +kernel
theorem dX11_next_22 : decode cX11_next 22 = .ok (.aload_n 0, 1) := by decide +kernel
theorem dX11_next_23 : decode cX11_next 23 = .ok (.getfield 26, 3) := by decide +kernel
theorem dX11_next_26 : decode cX11_next 26 = .ok (.getfield 172, 3) := by decide +kernel
theorem dX11_next_29 : decode cX11_next 29 = .ok (.ifCond .ne 5, 3) := by decide +kernel
theorem dX11_next_32 : decode cX11_next 32 = .ok (.iconst (-1), 1) := by decide +kernel
theorem dX11_next_33 : decode cX11_next 33 = .ok (.ireturn, 1) := by decide +kernel
theorem dX11_next_34 : decode cX11_next 34 = .ok (.aload_n 3, 1) := by decide +kernel
theorem dX11_next_35 : decode cX11_next 35 = .ok (.getfield 263, 3) := by decide +kernel
theorem dX11_next_38 : decode cX11_next 38 = .ok (.aload_n 3, 1) := by decide +kernel
theorem dX11_next_39 : decode cX11_next 39 = .ok (.getfield 213, 3) := by decide +kernel
theorem dX11_next_42 : decode cX11_next 42 = .ok (.aload_n 3, 1) := by decide +kernel
theorem dX11_next_43 : decode cX11_next 43 = .ok (.getfield 196, 3) := by decide +kernel
theorem dX11_next_46 : decode cX11_next 46 = .ok (.iconst (-1), 1) := by decide +kernel
theorem dX11_next_47 : decode cX11_next 47 = .ok (.invokevirtual 267, 3) := by decide +kernel
theorem dX11_next_50 : decode cX11_next 50 = .ok (.aload_n 0, 1) := by decide +kernel
theorem dX11_next_51 : decode cX11_next 51 = .ok (.getfield 60, 3) := by decide +kernel
theorem dX11_next_54 : decode cX11_next 54 = .ok (.aload_n 3, 1) := by decide +kernel
theorem dX11_next_55 : decode cX11_next 55 = .ok (.getfield 263, 3) := by decide +kernel
theorem dX11_next_58 : decode cX11_next 58 = .ok (.iload_n 2, 1) := by decide +kernel
theorem dX11_next_59 : decode cX11_next 59 = .ok (.invokevirtual 312, 3) := by decide +kernel
theorem dX11_next_62 : decode cX11_next 62 = .ok (.lstore 4, 2) := by decide +kernel
theorem dX11_next_64 : decode cX11_next 64 = .ok (.lload 4, 2) := by decide +kernel
theorem dX11_next_66 : decode cX11_next 66 = .ok (.ldc2_w 276, 3) := by decide +kernel
theorem dX11_next_69 : decode cX11_next 69 = .ok (.lcmp, 1) := by decide +kernel
theorem dX11_next_70 : decode cX11_next 70 = .ok (.ifCond .ne 6, 3) := by decide +kernel
theorem dX11_next_73 : decode cX11_next 73 = .ok (.bipush (-2), 2) := by decide +kernel
theorem dX11_next_75 : decode cX11_next 75 = .ok (.ireturn, 1) := by decide +kernel
theorem dX11_next_76 : decode cX11_next 76 = .ok (.aload_n 0, 1) := by decide +kernel
theorem dX11_next_77 : decode cX11_next 77 = .ok (.lload 4, 2) := by decide +kernel
theorem dX11_next_79 : decode cX11_next 79 = .ok (.invokestatic 278, 3) := by decide +kernel
theorem dX11_next_82 : decode cX11_next 82 = .ok (.i2l, 1) := by decide +kernel
theorem dX11_next_83 : decode cX11_next 83 = .ok (.invokevirtual 259, 3) := by decide +kernel
theorem dX11_next_86 : decode cX11_next 86 = .ok (.lload 4, 2) := by decide +kernel
theorem dX11_next_88 : decode cX11_next 88 = .ok (.invokestatic 292, 3) := by decide +kernel
theorem dX11_next_91 : decode cX11_next 91 = .ok (.ireturn, 1) := by decide +kernel
theorem dX11_bears_0 : decode cX11_bears 0 = .ok (.aload_n 0, 1) := by decide +kernel
theorem dX11_bears_1 : decode cX11_bears 1 = .ok (.iload_n 1, 1) := by decide +kernel
theorem dX11_bears_2 : decode cX11_bears 2 = .ok (.invokevirtual 111, 3) := by decide +kernel
theorem dX11_bears_5 : decode cX11_bears 5 = .ok (.astore_n 2, 1) := by decide +kernel
theorem dX11_bears_6 : decode cX11_bears 6 = .ok (.aload_n 2, 1) := by decide +kernel
theorem dX11_bears_7 : decode cX11_bears 7 = .ok (.ifnull 13, 3) := by decide +kernel
theorem dX11_bears_10 : decode cX11_bears 10 = .ok (.aload_n 0, 1) := by decide +kernel
theorem dX11_bears_11 : decode cX11_bears 11 = .ok (.getfield 26, 3) := by decide +kernel
theorem dX11_bears_14 : decode cX11_bears 14 = .ok (.getfield 172, 3) := by decide +kernel
theorem dX11_bears_17 : decode cX11_bears 17 = .ok (.ifCond .ne 5, 3) := by decide +kernel
theorem dX11_bears_20 : decode cX11_bears 20 = .ok (.iconst (-1), 1) := by decide +kernel
theorem dX11_bears_21 : decode cX11_bears 21 = .ok (.ireturn, 1) := by decide +kernel
theorem dX11_bears_22 : decode cX11_bears 22 = .ok (.bipush 50, 2) := by decide +kernel
theorem dX11_bears_24 : decode cX11_bears 24 = .ok (.istore_n 3, 1) := by decide +kernel
theorem dX11_bears_25 : decode cX11_bears 25 = .ok (.iload_n 3, 1) := by decide +kernel
theorem dX11_bears_26 : decode cX11_bears 26 = .ok (.ifCond .lt 52, 3) := by decide +kernel
theorem dX11_bears_29 : decode cX11_bears 29 = .ok (.aload_n 2, 1) := by decide +kernel
theorem dX11_bears_30 : decode cX11_bears 30 = .ok (.getfield 263, 3) := by decide +kernel
theorem dX11_bears_33 : decode cX11_bears 33 = .ok (.iload_n 3, 1) := by decide +kernel
theorem dX11_bears_34 : decode cX11_bears 34 = .ok (.aload_n 2, 1) := by decide +kernel
theorem dX11_bears_35 : decode cX11_bears 35 = .ok (.getfield 196, 3) := by decide +kernel
theorem dX11_bears_38 : decode cX11_bears 38 = .ok (.iconst (-1), 1) := by decide +kernel
theorem dX11_bears_39 : decode cX11_bears 39 = .ok (.invokevirtual 267, 3) := by decide +kernel
theorem dX11_bears_42 : decode cX11_bears 42 = .ok (.aload_n 2, 1) := by decide +kernel
theorem dX11_bears_43 : decode cX11_bears 43 = .ok (.getfield 263, 3) := by decide +kernel
theorem dX11_bears_46 : decode cX11_bears 46 = .ok (.invokevirtual 272, 3) := by decide +kernel
theorem dX11_bears_49 : decode cX11_bears 49 = .ok (.lstore 4, 2) := by decide +kernel
theorem dX11_bears_51 : decode cX11_bears 51 = .ok (.lload 4, 2) := by decide +kernel
theorem dX11_bears_53 : decode cX11_bears 53 = .ok (.ldc2_w 276, 3) := by decide +kernel
theorem dX11_bears_56 : decode cX11_bears 56 = .ok (.lcmp, 1) := by decide +kernel
theorem dX11_bears_57 : decode cX11_bears 57 = .ok (.ifCond .eq 15, 3) := by decide +kernel
theorem dX11_bears_60 : decode cX11_bears 60 = .ok (.aload_n 0, 1) := by decide +kernel
theorem dX11_bears_61 : decode cX11_bears 61 = .ok (.lload 4, 2) := by decide +kernel
theorem dX11_bears_63 : decode cX11_bears 63 = .ok (.invokestatic 292, 3) := by decide +kernel
theorem dX11_bears_66 : decode cX11_bears 66 = .ok (.i2l, 1) := by decide +kernel
theorem dX11_bears_67 : decode cX11_bears 67 = .ok (.invokevirtual 259, 3) := by decide +kernel
theorem dX11_bears_70 : decode cX11_bears 70 = .ok (.iload_n 3, 1) := by decide +kernel
theorem dX11_bears_71 : decode cX11_bears 71 = .ok (.ireturn, 1) := by decide +kernel
theorem dX11_bears_72 : decode cX11_bears 72 = .ok (.iinc 3 (-1), 3) := by decide +kernel
theorem dX11_bears_75 : decode cX11_bears 75 = .ok (.goto (-50), 3) := by decide +kernel
theorem dX11_bears_78 : decode cX11_bears 78 = .ok (.bipush (-2), 2) := by decide +kernel
theorem dX11_bears_80 : decode cX11_bears 80 = .ok (.ireturn, 1) := by decide +kernel
abbrev mX11_breaks_0_e0 : ByteArray := .mk #[0x2a, 0x1b, 0xb6, 0x00, 0x6f, 0x4d, 0x2c, 0xc6, 0x00, 0x0d, 0x2a, 0xb4, 0x00, 0x1a, 0xb4, 0x00, 0xac, 0x9a, 0x00, 0x05, 0x02, 0xac, 0x10, 0xfe, 0x3e, 0x03, 0x36, 0x04, 0x03, 0x36, 0x05, 0x15, 0x05, 0x10, 0x08, 0xa2, 0x00, 0x58, 0x2c, 0x15, 0x05, 0xb6, 0x00, 0xee, 0x9a, 0x00, 0x06, 0xa7, 0x00, 0x46, 0x2c, 0xb4, 0x01, 0x07, 0x2c, 0xb4, 0x00, 0xd5, 0x2c, 0xb4, 0x00, 0xc4, 0x04, 0x15, 0x05, 0x78, 0x02, 0x82, 0x7e, 0x02, 0xb6, 0x01]
theorem kmX11_breaks_0_e0 : CK cX11_breaks 0 mX11_breaks_0_e0 := ck_of (by decide +kernel)
theorem dX11_breaks_0 : decode cX11_breaks 0 = .ok (.aload_n 0, 1) := rd_chunk (k := 0) (i := 0) kmX11_breaks_0_e0 (by decide +kernel)
theorem dX11_breaks_1 : decode cX11_breaks 1 = .ok (.iload_n 1, 1) := rd_chunk (k := 0) (i := 1) kmX11_breaks_0_e0 (by decide +kernel)
theorem dX11_breaks_2 : decode cX11_breaks 2 = .ok (.invokevirtual 111, 3) := rd_chunk (k := 0) (i := 2) kmX11_breaks_0_e0 (by decide +kernel)
theorem dX11_breaks_5 : decode cX11_breaks 5 = .ok (.astore_n 2, 1) := rd_chunk (k := 0) (i := 5) kmX11_breaks_0_e0 (by decide +kernel)
theorem dX11_breaks_6 : decode cX11_breaks 6 = .ok (.aload_n 2, 1) := rd_chunk (k := 0) (i := 6) kmX11_breaks_0_e0 (by decide +kernel)
theorem dX11_breaks_7 : decode cX11_breaks 7 = .ok (.ifnull 13, 3) := rd_chunk (k := 0) (i := 7) kmX11_breaks_0_e0 (by decide +kernel)
theorem dX11_breaks_10 : decode cX11_breaks 10 = .ok (.aload_n 0, 1) := rd_chunk (k := 0) (i := 10) kmX11_breaks_0_e0 (by decide +kernel)
theorem dX11_breaks_11 : decode cX11_breaks 11 = .ok (.getfield 26, 3) := rd_chunk (k := 0) (i := 11) kmX11_breaks_0_e0 (by decide +kernel)
theorem dX11_breaks_14 : decode cX11_breaks 14 = .ok (.getfield 172, 3) := rd_chunk (k := 0) (i := 14) kmX11_breaks_0_e0 (by decide +kernel)
theorem dX11_breaks_17 : decode cX11_breaks 17 = .ok (.ifCond .ne 5, 3) := rd_chunk (k := 0) (i := 17) kmX11_breaks_0_e0 (by decide +kernel)
theorem dX11_breaks_20 : decode cX11_breaks 20 = .ok (.iconst (-1), 1) := rd_chunk (k := 0) (i := 20) kmX11_breaks_0_e0 (by decide +kernel)
theorem dX11_breaks_21 : decode cX11_breaks 21 = .ok (.ireturn, 1) := rd_chunk (k := 0) (i := 21) kmX11_breaks_0_e0 (by decide +kernel)
theorem dX11_breaks_22 : decode cX11_breaks 22 = .ok (.bipush (-2), 2) := rd_chunk (k := 0) (i := 22) kmX11_breaks_0_e0 (by decide +kernel)
theorem dX11_breaks_24 : decode cX11_breaks 24 = .ok (.istore_n 3, 1) := rd_chunk (k := 0) (i := 24) kmX11_breaks_0_e0 (by decide +kernel)
theorem dX11_breaks_25 : decode cX11_breaks 25 = .ok (.iconst 0, 1) := rd_chunk (k := 0) (i := 25) kmX11_breaks_0_e0 (by decide +kernel)
theorem dX11_breaks_26 : decode cX11_breaks 26 = .ok (.istore 4, 2) := rd_chunk (k := 0) (i := 26) kmX11_breaks_0_e0 (by decide +kernel)
theorem dX11_breaks_28 : decode cX11_breaks 28 = .ok (.iconst 0, 1) := rd_chunk (k := 0) (i := 28) kmX11_breaks_0_e0 (by decide +kernel)
theorem dX11_breaks_29 : decode cX11_breaks 29 = .ok (.istore 5, 2) := rd_chunk (k := 0) (i := 29) kmX11_breaks_0_e0 (by decide +kernel)
theorem dX11_breaks_31 : decode cX11_breaks 31 = .ok (.iload 5, 2) := rd_chunk (k := 0) (i := 31) kmX11_breaks_0_e0 (by decide +kernel)
theorem dX11_breaks_33 : decode cX11_breaks 33 = .ok (.bipush 8, 2) := rd_chunk (k := 0) (i := 33) kmX11_breaks_0_e0 (by decide +kernel)
theorem dX11_breaks_35 : decode cX11_breaks 35 = .ok (.if_icmp .ge 88, 3) := rd_chunk (k := 0) (i := 35) kmX11_breaks_0_e0 (by decide +kernel)
theorem dX11_breaks_38 : decode cX11_breaks 38 = .ok (.aload_n 2, 1) := rd_chunk (k := 0) (i := 38) kmX11_breaks_0_e0 (by decide +kernel)
theorem dX11_breaks_39 : decode cX11_breaks 39 = .ok (.iload 5, 2) := rd_chunk (k := 0) (i := 39) kmX11_breaks_0_e0 (by decide +kernel)
theorem dX11_breaks_41 : decode cX11_breaks 41 = .ok (.invokevirtual 238, 3) := rd_chunk (k := 0) (i := 41) kmX11_breaks_0_e0 (by decide +kernel)
theorem dX11_breaks_44 : decode cX11_breaks 44 = .ok (.ifCond .ne 6, 3) := rd_chunk (k := 0) (i := 44) kmX11_breaks_0_e0 (by decide +kernel)
theorem dX11_breaks_47 : decode cX11_breaks 47 = .ok (.goto 70, 3) := rd_chunk (k := 0) (i := 47) kmX11_breaks_0_e0 (by decide +kernel)
theorem dX11_breaks_50 : decode cX11_breaks 50 = .ok (.aload_n 2, 1) := rd_chunk (k := 0) (i := 50) kmX11_breaks_0_e0 (by decide +kernel)
theorem dX11_breaks_51 : decode cX11_breaks 51 = .ok (.getfield 263, 3) := rd_chunk (k := 0) (i := 51) kmX11_breaks_0_e0 (by decide +kernel)
theorem dX11_breaks_54 : decode cX11_breaks 54 = .ok (.aload_n 2, 1) := rd_chunk (k := 0) (i := 54) kmX11_breaks_0_e0 (by decide +kernel)
theorem dX11_breaks_55 : decode cX11_breaks 55 = .ok (.getfield 213, 3) := rd_chunk (k := 0) (i := 55) kmX11_breaks_0_e0 (by decide +kernel)
theorem dX11_breaks_58 : decode cX11_breaks 58 = .ok (.aload_n 2, 1) := rd_chunk (k := 0) (i := 58) kmX11_breaks_0_e0 (by decide +kernel)
theorem dX11_breaks_59 : decode cX11_breaks 59 = .ok (.getfield 196, 3) := rd_chunk (k := 0) (i := 59) kmX11_breaks_0_e0 (by decide +kernel)
theorem dX11_breaks_62 : decode cX11_breaks 62 = .ok (.iconst 1, 1) := rd_chunk (k := 0) (i := 62) kmX11_breaks_0_e0 (by decide +kernel)
theorem dX11_breaks_63 : decode cX11_breaks 63 = .ok (.iload 5, 2) := rd_chunk (k := 0) (i := 63) kmX11_breaks_0_e0 (by decide +kernel)
abbrev mX11_breaks_64_e0 : ByteArray := .mk #[0x05, 0x78, 0x02, 0x82, 0x7e, 0x02, 0xb6, 0x01, 0x0b, 0x2c, 0xb4, 0x01, 0x07, 0xb6, 0x01, 0x10, 0x37, 0x06, 0x16, 0x06, 0x14, 0x01, 0x14, 0x94, 0x99, 0x00, 0x1d, 0x1d, 0x10, 0xfe, 0x9f, 0x00, 0x0d, 0x16, 0x06, 0xb8, 0x01, 0x24, 0x15, 0x04, 0xa2, 0x00, 0x0d, 0x15, 0x05, 0x3e, 0x16, 0x06, 0xb8, 0x01, 0x24, 0x36, 0x04, 0x84, 0x05, 0x01, 0xa7, 0xff, 0xa7, 0x1d, 0x10, 0xfe, 0x9f, 0x00, 0x38, 0x2c, 0xb4, 0x01, 0x07, 0x2c, 0xb4, 0x00]
theorem kmX11_breaks_64_e0 : CK cX11_breaks 64 mX11_breaks_64_e0 := ck_of (by decide +kernel)
theorem dX11_breaks_65 : decode cX11_breaks 65 = .ok (.ishl, 1) := rd_chunk (k := 64) (i := 1) kmX11_breaks_64_e0 (by decide +kernel)
theorem dX11_breaks_66 : decode cX11_breaks 66 = .ok (.iconst (-1), 1) := rd_chunk (k := 64) (i := 2) kmX11_breaks_64_e0 (by decide +kernel)
theorem dX11_breaks_67 : decode cX11_breaks 67 = .ok (.ixor, 1) := rd_chunk (k := 64) (i := 3) kmX11_breaks_64_e0 (by decide +kernel)
theorem dX11_breaks_68 : decode cX11_breaks 68 = .ok (.iand, 1) := rd_chunk (k := 64) (i := 4) kmX11_breaks_64_e0 (by decide +kernel)
theorem dX11_breaks_69 : decode cX11_breaks 69 = .ok (.iconst (-1), 1) := rd_chunk (k := 64) (i := 5) kmX11_breaks_64_e0 (by decide +kernel)
theorem dX11_breaks_70 : decode cX11_breaks 70 = .ok (.invokevirtual 267, 3) := rd_chunk (k := 64) (i := 6) kmX11_breaks_64_e0 (by decide +kernel)
theorem dX11_breaks_73 : decode cX11_breaks 73 = .ok (.aload_n 2, 1) := rd_chunk (k := 64) (i := 9) kmX11_breaks_64_e0 (by decide +kernel)
theorem dX11_breaks_74 : decode cX11_breaks 74 = .ok (.getfield 263, 3) := rd_chunk (k := 64) (i := 10) kmX11_breaks_64_e0 (by decide +kernel)
theorem dX11_breaks_77 : decode cX11_breaks 77 = .ok (.invokevirtual 272, 3) := rd_chunk (k := 64) (i := 13) kmX11_breaks_64_e0 (by decide +kernel)
theorem dX11_breaks_80 : decode cX11_breaks 80 = .ok (.lstore 6, 2) := rd_chunk (k := 64) (i := 16) kmX11_breaks_64_e0 (by decide +kernel)
theorem dX11_breaks_82 : decode cX11_breaks 82 = .ok (.lload 6, 2) := rd_chunk (k := 64) (i := 18) kmX11_breaks_64_e0 (by decide +kernel)
theorem dX11_breaks_84 : decode cX11_breaks 84 = .ok (.ldc2_w 276, 3) := rd_chunk (k := 64) (i := 20) kmX11_breaks_64_e0 (by decide +kernel)
theorem dX11_breaks_87 : decode cX11_breaks 87 = .ok (.lcmp, 1) := rd_chunk (k := 64) (i := 23) kmX11_breaks_64_e0 (by decide +kernel)
theorem dX11_breaks_88 : decode cX11_breaks 88 = .ok (.ifCond .eq 29, 3) := rd_chunk (k := 64) (i := 24) kmX11_breaks_64_e0 (by decide +kernel)
theorem dX11_breaks_91 : decode cX11_breaks 91 = .ok (.iload_n 3, 1) := rd_chunk (k := 64) (i := 27) kmX11_breaks_64_e0 (by decide +kernel)
theorem dX11_breaks_92 : decode cX11_breaks 92 = .ok (.bipush (-2), 2) := rd_chunk (k := 64) (i := 28) kmX11_breaks_64_e0 (by decide +kernel)
theorem dX11_breaks_94 : decode cX11_breaks 94 = .ok (.if_icmp .eq 13, 3) := rd_chunk (k := 64) (i := 30) kmX11_breaks_64_e0 (by decide +kernel)
theorem dX11_breaks_97 : decode cX11_breaks 97 = .ok (.lload 6, 2) := rd_chunk (k := 64) (i := 33) kmX11_breaks_64_e0 (by decide +kernel)
theorem dX11_breaks_99 : decode cX11_breaks 99 = .ok (.invokestatic 292, 3) := rd_chunk (k := 64) (i := 35) kmX11_breaks_64_e0 (by decide +kernel)
theorem dX11_breaks_102 : decode cX11_breaks 102 = .ok (.iload 4, 2) := rd_chunk (k := 64) (i := 38) kmX11_breaks_64_e0 (by decide +kernel)
theorem dX11_breaks_104 : decode cX11_breaks 104 = .ok (.if_icmp .ge 13, 3) := rd_chunk (k := 64) (i := 40) kmX11_breaks_64_e0 (by decide +kernel)
theorem dX11_breaks_107 : decode cX11_breaks 107 = .ok (.iload 5, 2) := rd_chunk (k := 64) (i := 43) kmX11_breaks_64_e0 (by decide +kernel)
theorem dX11_breaks_109 : decode cX11_breaks 109 = .ok (.istore_n 3, 1) := rd_chunk (k := 64) (i := 45) kmX11_breaks_64_e0 (by decide +kernel)
theorem dX11_breaks_110 : decode cX11_breaks 110 = .ok (.lload 6, 2) := rd_chunk (k := 64) (i := 46) kmX11_breaks_64_e0 (by decide +kernel)
theorem dX11_breaks_112 : decode cX11_breaks 112 = .ok (.invokestatic 292, 3) := rd_chunk (k := 64) (i := 48) kmX11_breaks_64_e0 (by decide +kernel)
theorem dX11_breaks_115 : decode cX11_breaks 115 = .ok (.istore 4, 2) := rd_chunk (k := 64) (i := 51) kmX11_breaks_64_e0 (by decide +kernel)
theorem dX11_breaks_117 : decode cX11_breaks 117 = .ok (.iinc 5 1, 3) := rd_chunk (k := 64) (i := 53) kmX11_breaks_64_e0 (by decide +kernel)
theorem dX11_breaks_120 : decode cX11_breaks 120 = .ok (.goto (-89), 3) := rd_chunk (k := 64) (i := 56) kmX11_breaks_64_e0 (by decide +kernel)
theorem dX11_breaks_123 : decode cX11_breaks 123 = .ok (.iload_n 3, 1) := rd_chunk (k := 64) (i := 59) kmX11_breaks_64_e0 (by decide +kernel)
theorem dX11_breaks_124 : decode cX11_breaks 124 = .ok (.bipush (-2), 2) := rd_chunk (k := 64) (i := 60) kmX11_breaks_64_e0 (by decide +kernel)
theorem dX11_breaks_126 : decode cX11_breaks 126 = .ok (.if_icmp .eq 56, 3) := rd_chunk (k := 64) (i := 62) kmX11_breaks_64_e0 (by decide +kernel)
abbrev mX11_breaks_128_e0 : ByteArray := .mk #[0x38, 0x2c, 0xb4, 0x01, 0x07, 0x2c, 0xb4, 0x00, 0xd5, 0x2c, 0xb4, 0x00, 0xc4, 0x02, 0xb6, 0x01, 0x0b, 0x2c, 0xb4, 0x01, 0x07, 0xb6, 0x01, 0x10, 0x37, 0x05, 0x2a, 0x15, 0x04, 0x85, 0x16, 0x05, 0x14, 0x01, 0x14, 0x94, 0x9a, 0x00, 0x09, 0x14, 0x01, 0x2b, 0xa7, 0x00, 0x09, 0x16, 0x05, 0xb8, 0x01, 0x24, 0x85, 0xb6, 0x00, 0xe7, 0x1d, 0xac]
theorem kmX11_breaks_128_e0 : CK cX11_breaks 128 mX11_breaks_128_e0 := ck_of (by decide +kernel)
theorem dX11_breaks_129 : decode cX11_breaks 129 = .ok (.aload_n 2, 1) := rd_chunk (k := 128) (i := 1) kmX11_breaks_128_e0 (by decide +kernel)
theorem dX11_breaks_130 : decode cX11_breaks 130 = .ok (.getfield 263, 3) := rd_chunk (k := 128) (i := 2) kmX11_breaks_128_e0 (by decide +kernel)
theorem dX11_breaks_133 : decode cX11_breaks 133 = .ok (.aload_n 2, 1) := rd_chunk (k := 128) (i := 5) kmX11_breaks_128_e0 (by decide +kernel)
theorem dX11_breaks_134 : decode cX11_breaks 134 = .ok (.getfield 213, 3) := rd_chunk (k := 128) (i := 6) kmX11_breaks_128_e0 (by decide +kernel)
theorem dX11_breaks_137 : decode cX11_breaks 137 = .ok (.aload_n 2, 1) := rd_chunk (k := 128) (i := 9) kmX11_breaks_128_e0 (by decide +kernel)
theorem dX11_breaks_138 : decode cX11_breaks 138 = .ok (.getfield 196, 3) := rd_chunk (k := 128) (i := 10) kmX11_breaks_128_e0 (by decide +kernel)
theorem dX11_breaks_141 : decode cX11_breaks 141 = .ok (.iconst (-1), 1) := rd_chunk (k := 128) (i := 13) kmX11_breaks_128_e0 (by decide +kernel)
theorem dX11_breaks_142 : decode cX11_breaks 142 = .ok (.invokevirtual 267, 3) := rd_chunk (k := 128) (i := 14) kmX11_breaks_128_e0 (by decide +kernel)
theorem dX11_breaks_145 : decode cX11_breaks 145 = .ok (.aload_n 2, 1) := rd_chunk (k := 128) (i := 17) kmX11_breaks_128_e0 (by decide +kernel)
theorem dX11_breaks_146 : decode cX11_breaks 146 = .ok (.getfield 263, 3) := rd_chunk (k := 128) (i := 18) kmX11_breaks_128_e0 (by decide +kernel)
theorem dX11_breaks_149 : decode cX11_breaks 149 = .ok (.invokevirtual 272, 3) := rd_chunk (k := 128) (i := 21) kmX11_breaks_128_e0 (by decide +kernel)
theorem dX11_breaks_152 : decode cX11_breaks 152 = .ok (.lstore 5, 2) := rd_chunk (k := 128) (i := 24) kmX11_breaks_128_e0 (by decide +kernel)
theorem dX11_breaks_154 : decode cX11_breaks 154 = .ok (.aload_n 0, 1) := rd_chunk (k := 128) (i := 26) kmX11_breaks_128_e0 (by decide +kernel)
theorem dX11_breaks_155 : decode cX11_breaks 155 = .ok (.iload 4, 2) := rd_chunk (k := 128) (i := 27) kmX11_breaks_128_e0 (by decide +kernel)
theorem dX11_breaks_157 : decode cX11_breaks 157 = .ok (.i2l, 1) := rd_chunk (k := 128) (i := 29) kmX11_breaks_128_e0 (by decide +kernel)
theorem dX11_breaks_158 : decode cX11_breaks 158 = .ok (.lload 5, 2) := rd_chunk (k := 128) (i := 30) kmX11_breaks_128_e0 (by decide +kernel)
theorem dX11_breaks_160 : decode cX11_breaks 160 = .ok (.ldc2_w 276, 3) := rd_chunk (k := 128) (i := 32) kmX11_breaks_128_e0 (by decide +kernel)
theorem dX11_breaks_163 : decode cX11_breaks 163 = .ok (.lcmp, 1) := rd_chunk (k := 128) (i := 35) kmX11_breaks_128_e0 (by decide +kernel)
theorem dX11_breaks_164 : decode cX11_breaks 164 = .ok (.ifCond .ne 9, 3) := rd_chunk (k := 128) (i := 36) kmX11_breaks_128_e0 (by decide +kernel)
theorem dX11_breaks_167 : decode cX11_breaks 167 = .ok (.ldc2_w 299, 3) := rd_chunk (k := 128) (i := 39) kmX11_breaks_128_e0 (by decide +kernel)
theorem dX11_breaks_170 : decode cX11_breaks 170 = .ok (.goto 9, 3) := rd_chunk (k := 128) (i := 42) kmX11_breaks_128_e0 (by decide +kernel)
theorem dX11_breaks_173 : decode cX11_breaks 173 = .ok (.lload 5, 2) := rd_chunk (k := 128) (i := 45) kmX11_breaks_128_e0 (by decide +kernel)
theorem dX11_breaks_175 : decode cX11_breaks 175 = .ok (.invokestatic 292, 3) := rd_chunk (k := 128) (i := 47) kmX11_breaks_128_e0 (by decide +kernel)
theorem dX11_breaks_178 : decode cX11_breaks 178 = .ok (.i2l, 1) := rd_chunk (k := 128) (i := 50) kmX11_breaks_128_e0 (by decide +kernel)
theorem dX11_breaks_179 : decode cX11_breaks 179 = .ok (.invokevirtual 231, 3) := rd_chunk (k := 128) (i := 51) kmX11_breaks_128_e0 (by decide +kernel)
theorem dX11_breaks_182 : decode cX11_breaks 182 = .ok (.iload_n 3, 1) := rd_chunk (k := 128) (i := 54) kmX11_breaks_128_e0 (by decide +kernel)
theorem dX11_breaks_183 : decode cX11_breaks 183 = .ok (.ireturn, 1) := rd_chunk (k := 128) (i := 55) kmX11_breaks_128_e0 (by decide +kernel)
theorem dX11_all_0 : decode cX11_all 0 = .ok (.aload_n 0, 1) := by decide +kernel
theorem dX11_all_1 : decode cX11_all 1 = .ok (.iconst (-1), 1) := by decide +kernel
theorem dX11_all_2 : decode cX11_all 2 = .ok (.aload_n 0, 1) := by decide +kernel
theorem dX11_all_3 : decode cX11_all 3 = .ok (.getfield 71, 3) := by decide +kernel
theorem dX11_all_6 : decode cX11_all 6 = .ok (.invokevirtual 316, 3) := by decide +kernel
theorem dX11_all_9 : decode cX11_all 9 = .ok (.aload_n 0, 1) := by decide +kernel
theorem dX11_all_10 : decode cX11_all 10 = .ok (.aload_n 0, 1) := by decide +kernel
theorem dX11_all_11 : decode cX11_all 11 = .ok (.getfield 71, 3) := by decide +kernel
theorem dX11_all_14 : decode cX11_all 14 = .ok (.iconst 0, 1) := by decide +kernel
theorem dX11_all_15 : decode cX11_all 15 = .ok (.iaload, 1) := by decide +kernel
theorem dX11_all_16 : decode cX11_all 16 = .ok (.i2l, 1) := by decide +kernel
theorem dX11_all_17 : decode cX11_all 17 = .ok (.aload_n 0, 1) := by decide +kernel
theorem dX11_all_18 : decode cX11_all 18 = .ok (.getfield 71, 3) := by decide +kernel
theorem dX11_all_21 : decode cX11_all 21 = .ok (.iconst 2, 1) := by decide +kernel
theorem dX11_all_22 : decode cX11_all 22 = .ok (.iaload, 1) := by decide +kernel
theorem dX11_all_23 : decode cX11_all 23 = .ok (.i2l, 1) := by decide +kernel
theorem dX11_all_24 : decode cX11_all 24 = .ok (.invokevirtual 231, 3) := by decide +kernel
theorem dX11_all_27 : decode cX11_all 27 = .ok (.aload_n 0, 1) := by decide +kernel
theorem dX11_all_28 : decode cX11_all 28 = .ok (.getfield 71, 3) := by decide +kernel
theorem dX11_all_31 : decode cX11_all 31 = .ok (.iconst 1, 1) := by decide +kernel
theorem dX11_all_32 : decode cX11_all 32 = .ok (.iaload, 1) := by decide +kernel
theorem dX11_all_33 : decode cX11_all 33 = .ok (.ireturn, 1) := by decide +kernel
theorem dX11_whole_0 : decode cX11_whole 0 = .ok (.aload_n 0, 1) := by decide +kernel
theorem dX11_whole_1 : decode cX11_whole 1 = .ok (.getfield 26, 3) := by decide +kernel
theorem dX11_whole_4 : decode cX11_whole 4 = .ok (.iload_n 1, 1) := by decide +kernel
theorem dX11_whole_5 : decode cX11_whole 5 = .ok (.invokevirtual 138, 3) := by decide +kernel
theorem dX11_whole_8 : decode cX11_whole 8 = .ok (.ifCond .ne 5, 3) := by decide +kernel
theorem dX11_whole_11 : decode cX11_whole 11 = .ok (.iconst (-1), 1) := by decide +kernel
theorem dX11_whole_12 : decode cX11_whole 12 = .ok (.ireturn, 1) := by decide +kernel
theorem dX11_whole_13 : decode cX11_whole 13 = .ok (.aload_n 0, 1) := by decide +kernel
theorem dX11_whole_14 : decode cX11_whole 14 = .ok (.iconst (-1), 1) := by decide +kernel
theorem dX11_whole_15 : decode cX11_whole 15 = .ok (.aload_n 0, 1) := by decide +kernel
theorem dX11_whole_16 : decode cX11_whole 16 = .ok (.getfield 71, 3) := by decide +kernel
theorem dX11_whole_19 : decode cX11_whole 19 = .ok (.invokevirtual 316, 3) := by decide +kernel
theorem dX11_whole_22 : decode cX11_whole 22 = .ok (.aload_n 0, 1) := by decide +kernel
theorem dX11_whole_23 : decode cX11_whole 23 = .ok (.getfield 26, 3) := by decide +kernel
theorem dX11_whole_26 : decode cX11_whole 26 = .ok (.getfield 151, 3) := by decide +kernel
theorem dX11_whole_29 : decode cX11_whole 29 = .ok (.iload_n 1, 1) := by decide +kernel
theorem dX11_whole_30 : decode cX11_whole 30 = .ok (.iaload, 1) := by decide +kernel
theorem dX11_whole_31 : decode cX11_whole 31 = .ok (.istore_n 2, 1) := by decide +kernel
theorem dX11_whole_32 : decode cX11_whole 32 = .ok (.aload_n 0, 1) := by decide +kernel
theorem dX11_whole_33 : decode cX11_whole 33 = .ok (.getfield 26, 3) := by decide +kernel
theorem dX11_whole_36 : decode cX11_whole 36 = .ok (.getfield 151, 3) := by decide +kernel
theorem dX11_whole_39 : decode cX11_whole 39 = .ok (.iload_n 1, 1) := by decide +kernel
theorem dX11_whole_40 : decode cX11_whole 40 = .ok (.bipush 9, 2) := by decide +kernel
theorem dX11_whole_42 : decode cX11_whole 42 = .ok (.iastore, 1) := by decide +kernel
theorem dX11_whole_43 : decode cX11_whole 43 = .ok (.aload_n 0, 1) := by decide +kernel
theorem dX11_whole_44 : decode cX11_whole 44 = .ok (.iconst (-1), 1) := by decide +kernel
theorem dX11_whole_45 : decode cX11_whole 45 = .ok (.aload_n 0, 1) := by decide +kernel
theorem dX11_whole_46 : decode cX11_whole 46 = .ok (.getfield 74, 3) := by decide +kernel
theorem dX11_whole_49 : decode cX11_whole 49 = .ok (.invokevirtual 316, 3) := by decide +kernel
theorem dX11_whole_52 : decode cX11_whole 52 = .ok (.aload_n 0, 1) := by decide +kernel
theorem dX11_whole_53 : decode cX11_whole 53 = .ok (.getfield 26, 3) := by decide +kernel
theorem dX11_whole_56 : decode cX11_whole 56 = .ok (.getfield 151, 3) := by decide +kernel
theorem dX11_whole_59 : decode cX11_whole 59 = .ok (.iload_n 1, 1) := by decide +kernel
theorem dX11_whole_60 : decode cX11_whole 60 = .ok (.iload_n 2, 1) := by decide +kernel
theorem dX11_whole_61 : decode cX11_whole 61 = .ok (.iastore, 1) := by decide +kernel
theorem dX11_whole_62 : decode cX11_whole 62 = .ok (.aload_n 0, 1) := by decide +kernel
theorem dX11_whole_63 : decode cX11_whole 63 = .ok (.invokevirtual 320, 3) := by decide +kernel
theorem dX11_whole_66 : decode cX11_whole 66 = .ok (.ireturn, 1) := by decide +kernel
theorem dX11_mends_0 : decode cX11_mends 0 = .ok (.aload_n 0, 1) := by decide +kernel
theorem dX11_mends_1 : decode cX11_mends 1 = .ok (.getfield 26, 3) := by decide +kernel
theorem dX11_mends_4 : decode cX11_mends 4 = .ok (.iload_n 1, 1) := by decide +kernel
theorem dX11_mends_5 : decode cX11_mends 5 = .ok (.invokevirtual 138, 3) := by decide +kernel
theorem dX11_mends_8 : decode cX11_mends 8 = .ok (.ifCond .ne 5, 3) := by decide +kernel
theorem dX11_mends_11 : decode cX11_mends 11 = .ok (.iconst (-1), 1) := by decide +kernel
theorem dX11_mends_12 : decode cX11_mends 12 = .ok (.ireturn, 1) := by decide +kernel
theorem dX11_mends_13 : decode cX11_mends 13 = .ok (.bipush 9, 2) := by decide +kernel
theorem dX11_mends_15 : decode cX11_mends 15 = .ok (.aload_n 0, 1) := by decide +kernel
theorem dX11_mends_16 : decode cX11_mends 16 = .ok (.getfield 26, 3) := by decide +kernel
theorem dX11_mends_19 : decode cX11_mends 19 = .ok (.getfield 151, 3) := by decide +kernel
theorem dX11_mends_22 : decode cX11_mends 22 = .ok (.iload_n 1, 1) := by decide +kernel
theorem dX11_mends_23 : decode cX11_mends 23 = .ok (.iaload, 1) := by decide +kernel
theorem dX11_mends_24 : decode cX11_mends 24 = .ok (.isub, 1) := by decide +kernel
theorem dX11_mends_25 : decode cX11_mends 25 = .ok (.aload_n 0, 1) := by decide +kernel
theorem dX11_mends_26 : decode cX11_mends 26 = .ok (.getfield 26, 3) := by decide +kernel
theorem dX11_mends_29 : decode cX11_mends 29 = .ok (.getfield 148, 3) := by decide +kernel
theorem dX11_mends_32 : decode cX11_mends 32 = .ok (.iload_n 1, 1) := by decide +kernel
theorem dX11_mends_33 : decode cX11_mends 33 = .ok (.iaload, 1) := by decide +kernel
theorem dX11_mends_34 : decode cX11_mends 34 = .ok (.imul, 1) := by decide +kernel
theorem dX11_mends_35 : decode cX11_mends 35 = .ok (.istore_n 2, 1) := by decide +kernel
theorem dX11_mends_36 : decode cX11_mends 36 = .ok (.aload_n 0, 1) := by decide +kernel
theorem dX11_mends_37 : decode cX11_mends 37 = .ok (.iload_n 2, 1) := by decide +kernel
theorem dX11_mends_38 : decode cX11_mends 38 = .ok (.iload_n 1, 1) := by decide +kernel
theorem dX11_mends_39 : decode cX11_mends 39 = .ok (.iconst (-1), 1) := by decide +kernel
theorem dX11_mends_40 : decode cX11_mends 40 = .ok (.invokevirtual 249, 3) := by decide +kernel
theorem dX11_mends_43 : decode cX11_mends 43 = .ok (.aload_n 0, 1) := by decide +kernel
theorem dX11_mends_44 : decode cX11_mends 44 = .ok (.getfield 26, 3) := by decide +kernel
theorem dX11_mends_47 : decode cX11_mends 47 = .ok (.getfield 151, 3) := by decide +kernel
theorem dX11_mends_50 : decode cX11_mends 50 = .ok (.iload_n 1, 1) := by decide +kernel
theorem dX11_mends_51 : decode cX11_mends 51 = .ok (.bipush 9, 2) := by decide +kernel
theorem dX11_mends_53 : decode cX11_mends 53 = .ok (.iastore, 1) := by decide +kernel
theorem dX11_mends_54 : decode cX11_mends 54 = .ok (.iload_n 2, 1) := by decide +kernel
theorem dX11_mends_55 : decode cX11_mends 55 = .ok (.ireturn, 1) := by decide +kernel
theorem dX11_shut_0 : decode cX11_shut 0 = .ok (.aload_n 0, 1) := by decide +kernel
theorem dX11_shut_1 : decode cX11_shut 1 = .ok (.getfield 26, 3) := by decide +kernel
theorem dX11_shut_4 : decode cX11_shut 4 = .ok (.iload_n 1, 1) := by decide +kernel
theorem dX11_shut_5 : decode cX11_shut 5 = .ok (.invokevirtual 138, 3) := by decide +kernel
theorem dX11_shut_8 : decode cX11_shut 8 = .ok (.ifCond .ne 5, 3) := by decide +kernel
theorem dX11_shut_11 : decode cX11_shut 11 = .ok (.iconst (-1), 1) := by decide +kernel
theorem dX11_shut_12 : decode cX11_shut 12 = .ok (.ireturn, 1) := by decide +kernel
theorem dX11_shut_13 : decode cX11_shut 13 = .ok (.aload_n 0, 1) := by decide +kernel
theorem dX11_shut_14 : decode cX11_shut 14 = .ok (.iconst (-1), 1) := by decide +kernel
theorem dX11_shut_15 : decode cX11_shut 15 = .ok (.aload_n 0, 1) := by decide +kernel
theorem dX11_shut_16 : decode cX11_shut 16 = .ok (.getfield 71, 3) := by decide +kernel
theorem dX11_shut_19 : decode cX11_shut 19 = .ok (.invokevirtual 316, 3) := by decide +kernel
theorem dX11_shut_22 : decode cX11_shut 22 = .ok (.aload_n 0, 1) := by decide +kernel
theorem dX11_shut_23 : decode cX11_shut 23 = .ok (.iload_n 1, 1) := by decide +kernel
theorem dX11_shut_24 : decode cX11_shut 24 = .ok (.aload_n 0, 1) := by decide +kernel
theorem dX11_shut_25 : decode cX11_shut 25 = .ok (.getfield 74, 3) := by decide +kernel
theorem dX11_shut_28 : decode cX11_shut 28 = .ok (.invokevirtual 316, 3) := by decide +kernel
theorem dX11_shut_31 : decode cX11_shut 31 = .ok (.aload_n 0, 1) := by decide +kernel
theorem dX11_shut_32 : decode cX11_shut 32 = .ok (.invokevirtual 320, 3) := by decide +kernel
theorem dX11_shut_35 : decode cX11_shut 35 = .ok (.ireturn, 1) := by decide +kernel
theorem dX11_toll_0 : decode cX11_toll 0 = .ok (.aload_n 0, 1) := by decide +kernel
theorem dX11_toll_1 : decode cX11_toll 1 = .ok (.getfield 26, 3) := by decide +kernel
theorem dX11_toll_4 : decode cX11_toll 4 = .ok (.iload_n 1, 1) := by decide +kernel
theorem dX11_toll_5 : decode cX11_toll 5 = .ok (.invokevirtual 138, 3) := by decide +kernel
theorem dX11_toll_8 : decode cX11_toll 8 = .ok (.ifCond .ne 5, 3) := by decide +kernel
theorem dX11_toll_11 : decode cX11_toll 11 = .ok (.iconst (-1), 1) := by decide +kernel
theorem dX11_toll_12 : decode cX11_toll 12 = .ok (.ireturn, 1) := by decide +kernel
theorem dX11_toll_13 : decode cX11_toll 13 = .ok (.aload_n 0, 1) := by decide +kernel
theorem dX11_toll_14 : decode cX11_toll 14 = .ok (.iload_n 1, 1) := by decide +kernel
theorem dX11_toll_15 : decode cX11_toll 15 = .ok (.invokevirtual 323, 3) := by decide +kernel
theorem dX11_toll_18 : decode cX11_toll 18 = .ok (.iconst 0, 1) := by decide +kernel
theorem dX11_toll_19 : decode cX11_toll 19 = .ok (.istore_n 2, 1) := by decide +kernel
theorem dX11_toll_20 : decode cX11_toll 20 = .ok (.iconst 1, 1) := by decide +kernel
theorem dX11_toll_21 : decode cX11_toll 21 = .ok (.istore_n 3, 1) := by decide +kernel
theorem dX11_toll_22 : decode cX11_toll 22 = .ok (.iload_n 3, 1) := by decide +kernel
theorem dX11_toll_23 : decode cX11_toll 23 = .ok (.bipush 20, 2) := by decide +kernel
theorem dX11_toll_25 : decode cX11_toll 25 = .ok (.if_icmp .gt 30, 3) := by decide +kernel
theorem dX11_toll_28 : decode cX11_toll 28 = .ok (.aload_n 0, 1) := by decide +kernel
theorem dX11_toll_29 : decode cX11_toll 29 = .ok (.getfield 80, 3) := by decide +kernel
theorem dX11_toll_32 : decode cX11_toll 32 = .ok (.iload_n 3, 1) := by decide +kernel
theorem dX11_toll_33 : decode cX11_toll 33 = .ok (.iaload, 1) := by decide +kernel
theorem dX11_toll_34 : decode cX11_toll 34 = .ok (.aload_n 0, 1) := by decide +kernel
theorem dX11_toll_35 : decode cX11_toll 35 = .ok (.getfield 80, 3) := by decide +kernel
theorem dX11_toll_38 : decode cX11_toll 38 = .ok (.iconst 0, 1) := by decide +kernel
theorem dX11_toll_39 : decode cX11_toll 39 = .ok (.iaload, 1) := by decide +kernel
theorem dX11_toll_40 : decode cX11_toll 40 = .ok (.if_icmp .ne 7, 3) := by decide +kernel
theorem dX11_toll_43 : decode cX11_toll 43 = .ok (.iload_n 3, 1) := by decide +kernel
theorem dX11_toll_44 : decode cX11_toll 44 = .ok (.goto 4, 3) := by decide +kernel
theorem dX11_toll_47 : decode cX11_toll 47 = .ok (.iload_n 2, 1) := by decide +kernel
theorem dX11_toll_48 : decode cX11_toll 48 = .ok (.istore_n 2, 1) := by decide +kernel
theorem dX11_toll_49 : decode cX11_toll 49 = .ok (.iinc 3 1, 3) := by decide +kernel
theorem dX11_toll_52 : decode cX11_toll 52 = .ok (.goto (-30), 3) := by decide +kernel
theorem dX11_toll_55 : decode cX11_toll 55 = .ok (.aload_n 0, 1) := by decide +kernel
theorem dX11_toll_56 : decode cX11_toll 56 = .ok (.aload_n 0, 1) := by decide +kernel
theorem dX11_toll_57 : decode cX11_toll 57 = .ok (.getfield 80, 3) := by decide +kernel
theorem dX11_toll_60 : decode cX11_toll 60 = .ok (.iconst 0, 1) := by decide +kernel
theorem dX11_toll_61 : decode cX11_toll 61 = .ok (.iaload, 1) := by decide +kernel
theorem dX11_toll_62 : decode cX11_toll 62 = .ok (.i2l, 1) := by decide +kernel
theorem dX11_toll_63 : decode cX11_toll 63 = .ok (.invokevirtual 259, 3) := by decide +kernel
theorem dX11_toll_66 : decode cX11_toll 66 = .ok (.iload_n 2, 1) := by decide +kernel
theorem dX11_toll_67 : decode cX11_toll 67 = .ok (.ireturn, 1) := by decide +kernel
abbrev mX11_peace_0_e0 : ByteArray := .mk #[0x2a, 0x02, 0x2a, 0xb4, 0x00, 0x47, 0xb6, 0x01, 0x3c, 0x10, 0xfe, 0x3c, 0x03, 0x3d, 0x03, 0x3e, 0x03, 0x36, 0x04, 0x15, 0x04, 0x10, 0x08, 0xa2, 0x00, 0xa4, 0x15, 0x04, 0x04, 0x60, 0x36, 0x05, 0x15, 0x05, 0x10, 0x08, 0xa2, 0x00, 0x91, 0x2a, 0xb4, 0x00, 0x1a, 0x15, 0x04, 0x15, 0x05, 0xb6, 0x01, 0x47, 0x9a, 0x00, 0x06, 0xa7, 0x00, 0x7a, 0x2a, 0xb4, 0x00, 0x47, 0x03, 0x2a, 0xb4, 0x00, 0x4a, 0x03, 0x2a, 0xb4, 0x00, 0x47, 0xbe, 0xb8]
theorem kmX11_peace_0_e0 : CK cX11_peace 0 mX11_peace_0_e0 := ck_of (by decide +kernel)
theorem dX11_peace_0 : decode cX11_peace 0 = .ok (.aload_n 0, 1) := rd_chunk (k := 0) (i := 0) kmX11_peace_0_e0 (by decide +kernel)
theorem dX11_peace_1 : decode cX11_peace 1 = .ok (.iconst (-1), 1) := rd_chunk (k := 0) (i := 1) kmX11_peace_0_e0 (by decide +kernel)
theorem dX11_peace_2 : decode cX11_peace 2 = .ok (.aload_n 0, 1) := rd_chunk (k := 0) (i := 2) kmX11_peace_0_e0 (by decide +kernel)
theorem dX11_peace_3 : decode cX11_peace 3 = .ok (.getfield 71, 3) := rd_chunk (k := 0) (i := 3) kmX11_peace_0_e0 (by decide +kernel)
theorem dX11_peace_6 : decode cX11_peace 6 = .ok (.invokevirtual 316, 3) := rd_chunk (k := 0) (i := 6) kmX11_peace_0_e0 (by decide +kernel)
theorem dX11_peace_9 : decode cX11_peace 9 = .ok (.bipush (-2), 2) := rd_chunk (k := 0) (i := 9) kmX11_peace_0_e0 (by decide +kernel)
theorem dX11_peace_11 : decode cX11_peace 11 = .ok (.istore_n 1, 1) := rd_chunk (k := 0) (i := 11) kmX11_peace_0_e0 (by decide +kernel)
theorem dX11_peace_12 : decode cX11_peace 12 = .ok (.iconst 0, 1) := rd_chunk (k := 0) (i := 12) kmX11_peace_0_e0 (by decide +kernel)
theorem dX11_peace_13 : decode cX11_peace 13 = .ok (.istore_n 2, 1) := rd_chunk (k := 0) (i := 13) kmX11_peace_0_e0 (by decide +kernel)
theorem dX11_peace_14 : decode cX11_peace 14 = .ok (.iconst 0, 1) := rd_chunk (k := 0) (i := 14) kmX11_peace_0_e0 (by decide +kernel)
theorem dX11_peace_15 : decode cX11_peace 15 = .ok (.istore_n 3, 1) := rd_chunk (k := 0) (i := 15) kmX11_peace_0_e0 (by decide +kernel)
theorem dX11_peace_16 : decode cX11_peace 16 = .ok (.iconst 0, 1) := rd_chunk (k := 0) (i := 16) kmX11_peace_0_e0 (by decide +kernel)
theorem dX11_peace_17 : decode cX11_peace 17 = .ok (.istore 4, 2) := rd_chunk (k := 0) (i := 17) kmX11_peace_0_e0 (by decide +kernel)
theorem dX11_peace_19 : decode cX11_peace 19 = .ok (.iload 4, 2) := rd_chunk (k := 0) (i := 19) kmX11_peace_0_e0 (by decide +kernel)
theorem dX11_peace_21 : decode cX11_peace 21 = .ok (.bipush 8, 2) := rd_chunk (k := 0) (i := 21) kmX11_peace_0_e0 (by decide +kernel)
theorem dX11_peace_23 : decode cX11_peace 23 = .ok (.if_icmp .ge 164, 3) := rd_chunk (k := 0) (i := 23) kmX11_peace_0_e0 (by decide +kernel)
theorem dX11_peace_26 : decode cX11_peace 26 = .ok (.iload 4, 2) := rd_chunk (k := 0) (i := 26) kmX11_peace_0_e0 (by decide +kernel)
theorem dX11_peace_28 : decode cX11_peace 28 = .ok (.iconst 1, 1) := rd_chunk (k := 0) (i := 28) kmX11_peace_0_e0 (by decide +kernel)
theorem dX11_peace_29 : decode cX11_peace 29 = .ok (.iadd, 1) := rd_chunk (k := 0) (i := 29) kmX11_peace_0_e0 (by decide +kernel)
theorem dX11_peace_30 : decode cX11_peace 30 = .ok (.istore 5, 2) := rd_chunk (k := 0) (i := 30) kmX11_peace_0_e0 (by decide +kernel)
theorem dX11_peace_32 : decode cX11_peace 32 = .ok (.iload 5, 2) := rd_chunk (k := 0) (i := 32) kmX11_peace_0_e0 (by decide +kernel)
theorem dX11_peace_34 : decode cX11_peace 34 = .ok (.bipush 8, 2) := rd_chunk (k := 0) (i := 34) kmX11_peace_0_e0 (by decide +kernel)
theorem dX11_peace_36 : decode cX11_peace 36 = .ok (.if_icmp .ge 145, 3) := rd_chunk (k := 0) (i := 36) kmX11_peace_0_e0 (by decide +kernel)
theorem dX11_peace_39 : decode cX11_peace 39 = .ok (.aload_n 0, 1) := rd_chunk (k := 0) (i := 39) kmX11_peace_0_e0 (by decide +kernel)
theorem dX11_peace_40 : decode cX11_peace 40 = .ok (.getfield 26, 3) := rd_chunk (k := 0) (i := 40) kmX11_peace_0_e0 (by decide +kernel)
theorem dX11_peace_43 : decode cX11_peace 43 = .ok (.iload 4, 2) := rd_chunk (k := 0) (i := 43) kmX11_peace_0_e0 (by decide +kernel)
theorem dX11_peace_45 : decode cX11_peace 45 = .ok (.iload 5, 2) := rd_chunk (k := 0) (i := 45) kmX11_peace_0_e0 (by decide +kernel)
theorem dX11_peace_47 : decode cX11_peace 47 = .ok (.invokevirtual 327, 3) := rd_chunk (k := 0) (i := 47) kmX11_peace_0_e0 (by decide +kernel)
theorem dX11_peace_50 : decode cX11_peace 50 = .ok (.ifCond .ne 6, 3) := rd_chunk (k := 0) (i := 50) kmX11_peace_0_e0 (by decide +kernel)
theorem dX11_peace_53 : decode cX11_peace 53 = .ok (.goto 122, 3) := rd_chunk (k := 0) (i := 53) kmX11_peace_0_e0 (by decide +kernel)
theorem dX11_peace_56 : decode cX11_peace 56 = .ok (.aload_n 0, 1) := rd_chunk (k := 0) (i := 56) kmX11_peace_0_e0 (by decide +kernel)
theorem dX11_peace_57 : decode cX11_peace 57 = .ok (.getfield 71, 3) := rd_chunk (k := 0) (i := 57) kmX11_peace_0_e0 (by decide +kernel)
theorem dX11_peace_60 : decode cX11_peace 60 = .ok (.iconst 0, 1) := rd_chunk (k := 0) (i := 60) kmX11_peace_0_e0 (by decide +kernel)
theorem dX11_peace_61 : decode cX11_peace 61 = .ok (.aload_n 0, 1) := rd_chunk (k := 0) (i := 61) kmX11_peace_0_e0 (by decide +kernel)
theorem dX11_peace_62 : decode cX11_peace 62 = .ok (.getfield 74, 3) := rd_chunk (k := 0) (i := 62) kmX11_peace_0_e0 (by decide +kernel)
abbrev mX11_peace_64_e0 : ByteArray := .mk #[0x4a, 0x03, 0x2a, 0xb4, 0x00, 0x47, 0xbe, 0xb8, 0x01, 0x4b, 0x2a, 0xb4, 0x00, 0x1a, 0x15, 0x04, 0x15, 0x05, 0xb6, 0x01, 0x51, 0x99, 0x00, 0x24, 0x2a, 0xb4, 0x00, 0x1a, 0x15, 0x04, 0x15, 0x05, 0x03, 0xb6, 0x00, 0xb8, 0x2a, 0x02, 0x2a, 0xb4, 0x00, 0x4a, 0xb6, 0x01, 0x3c, 0x2a, 0xb4, 0x00, 0x1a, 0x15, 0x04, 0x15, 0x05, 0x04, 0xb6, 0x00, 0xb8, 0x2a, 0xb4, 0x00, 0x4a, 0x03, 0x2e, 0x2a, 0xb4, 0x00, 0x47, 0x03, 0x2e, 0xa1, 0x00, 0x2a]
theorem kmX11_peace_64_e0 : CK cX11_peace 64 mX11_peace_64_e0 := ck_of (by decide +kernel)
theorem dX11_peace_65 : decode cX11_peace 65 = .ok (.iconst 0, 1) := rd_chunk (k := 64) (i := 1) kmX11_peace_64_e0 (by decide +kernel)
theorem dX11_peace_66 : decode cX11_peace 66 = .ok (.aload_n 0, 1) := rd_chunk (k := 64) (i := 2) kmX11_peace_64_e0 (by decide +kernel)
theorem dX11_peace_67 : decode cX11_peace 67 = .ok (.getfield 71, 3) := rd_chunk (k := 64) (i := 3) kmX11_peace_64_e0 (by decide +kernel)
theorem dX11_peace_70 : decode cX11_peace 70 = .ok (.arraylength, 1) := rd_chunk (k := 64) (i := 6) kmX11_peace_64_e0 (by decide +kernel)
theorem dX11_peace_71 : decode cX11_peace 71 = .ok (.invokestatic 331, 3) := rd_chunk (k := 64) (i := 7) kmX11_peace_64_e0 (by decide +kernel)
theorem dX11_peace_74 : decode cX11_peace 74 = .ok (.aload_n 0, 1) := rd_chunk (k := 64) (i := 10) kmX11_peace_64_e0 (by decide +kernel)
theorem dX11_peace_75 : decode cX11_peace 75 = .ok (.getfield 26, 3) := rd_chunk (k := 64) (i := 11) kmX11_peace_64_e0 (by decide +kernel)
theorem dX11_peace_78 : decode cX11_peace 78 = .ok (.iload 4, 2) := rd_chunk (k := 64) (i := 14) kmX11_peace_64_e0 (by decide +kernel)
theorem dX11_peace_80 : decode cX11_peace 80 = .ok (.iload 5, 2) := rd_chunk (k := 64) (i := 16) kmX11_peace_64_e0 (by decide +kernel)
theorem dX11_peace_82 : decode cX11_peace 82 = .ok (.invokevirtual 337, 3) := rd_chunk (k := 64) (i := 18) kmX11_peace_64_e0 (by decide +kernel)
theorem dX11_peace_85 : decode cX11_peace 85 = .ok (.ifCond .eq 36, 3) := rd_chunk (k := 64) (i := 21) kmX11_peace_64_e0 (by decide +kernel)
theorem dX11_peace_88 : decode cX11_peace 88 = .ok (.aload_n 0, 1) := rd_chunk (k := 64) (i := 24) kmX11_peace_64_e0 (by decide +kernel)
theorem dX11_peace_89 : decode cX11_peace 89 = .ok (.getfield 26, 3) := rd_chunk (k := 64) (i := 25) kmX11_peace_64_e0 (by decide +kernel)
theorem dX11_peace_92 : decode cX11_peace 92 = .ok (.iload 4, 2) := rd_chunk (k := 64) (i := 28) kmX11_peace_64_e0 (by decide +kernel)
theorem dX11_peace_94 : decode cX11_peace 94 = .ok (.iload 5, 2) := rd_chunk (k := 64) (i := 30) kmX11_peace_64_e0 (by decide +kernel)
theorem dX11_peace_96 : decode cX11_peace 96 = .ok (.iconst 0, 1) := rd_chunk (k := 64) (i := 32) kmX11_peace_64_e0 (by decide +kernel)
theorem dX11_peace_97 : decode cX11_peace 97 = .ok (.invokevirtual 184, 3) := rd_chunk (k := 64) (i := 33) kmX11_peace_64_e0 (by decide +kernel)
theorem dX11_peace_100 : decode cX11_peace 100 = .ok (.aload_n 0, 1) := rd_chunk (k := 64) (i := 36) kmX11_peace_64_e0 (by decide +kernel)
theorem dX11_peace_101 : decode cX11_peace 101 = .ok (.iconst (-1), 1) := rd_chunk (k := 64) (i := 37) kmX11_peace_64_e0 (by decide +kernel)
theorem dX11_peace_102 : decode cX11_peace 102 = .ok (.aload_n 0, 1) := rd_chunk (k := 64) (i := 38) kmX11_peace_64_e0 (by decide +kernel)
theorem dX11_peace_103 : decode cX11_peace 103 = .ok (.getfield 74, 3) := rd_chunk (k := 64) (i := 39) kmX11_peace_64_e0 (by decide +kernel)
theorem dX11_peace_106 : decode cX11_peace 106 = .ok (.invokevirtual 316, 3) := rd_chunk (k := 64) (i := 42) kmX11_peace_64_e0 (by decide +kernel)
