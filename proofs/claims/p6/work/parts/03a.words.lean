/-! ===== words of the tables, by their places ===== -/
theorem mt_0 {w : Cond} (h : w ∈ k2_sels lw_privs) : w ∈ lw_tbl := List.mem_append_left _ h
theorem mt_1 {w : Cond} (h : w ∈ tables_1_1) : w ∈ lw_tbl := List.mem_append_right _ (show w ∈ tables_1 from List.mem_append_left _ h)
theorem mt_2 {w : Cond} (h : w ∈ tables_1_2) : w ∈ lw_tbl := List.mem_append_right _ (show w ∈ tables_1 from List.mem_append_right _ (List.mem_append_left _ h))
theorem mt_3 {w : Cond} (h : w ∈ tables_1_3) : w ∈ lw_tbl := List.mem_append_right _ (show w ∈ tables_1 from List.mem_append_right _ (List.mem_append_right _ (List.mem_append_left _ h)))
theorem mt_4 {w : Cond} (h : w ∈ tables_1_4) : w ∈ lw_tbl := List.mem_append_right _ (show w ∈ tables_1 from List.mem_append_right _ (List.mem_append_right _ (List.mem_append_right _ (List.mem_append_left _ h))))
theorem mt_5 {w : Cond} (h : w ∈ tables_1_5) : w ∈ lw_tbl := List.mem_append_right _ (show w ∈ tables_1 from List.mem_append_right _ (List.mem_append_right _ (List.mem_append_right _ (List.mem_append_right _ (List.mem_append_left _ h)))))
theorem mt_6 {w : Cond} (h : w ∈ tables_1_6) : w ∈ lw_tbl := List.mem_append_right _ (show w ∈ tables_1 from List.mem_append_right _ (List.mem_append_right _ (List.mem_append_right _ (List.mem_append_right _ (List.mem_append_right _ (List.mem_append_left _ h))))))
theorem mt_7 {w : Cond} (h : w ∈ tables_1_7) : w ∈ lw_tbl := List.mem_append_right _ (show w ∈ tables_1 from List.mem_append_right _ (List.mem_append_right _ (List.mem_append_right _ (List.mem_append_right _ (List.mem_append_right _ (List.mem_append_right _ (List.mem_append_left _ h)))))))
theorem mt_8 {w : Cond} (h : w ∈ tables_1_8) : w ∈ lw_tbl := List.mem_append_right _ (show w ∈ tables_1 from List.mem_append_right _ (List.mem_append_right _ (List.mem_append_right _ (List.mem_append_right _ (List.mem_append_right _ (List.mem_append_right _ (List.mem_append_right _ (List.mem_append_left _ h))))))))
theorem mt_9 {w : Cond} (h : w ∈ tables_1_9) : w ∈ lw_tbl := List.mem_append_right _ (show w ∈ tables_1 from List.mem_append_right _ (List.mem_append_right _ (List.mem_append_right _ (List.mem_append_right _ (List.mem_append_right _ (List.mem_append_right _ (List.mem_append_right _ (List.mem_append_right _ (h)))))))))
theorem W_0 : Cond.fieldLink RX7 38 "StairsInSteps$Rows" "merged" "I" ∈ jT := jT_mem (mt_2 (List.mem_of_getElem? (i := 22) rfl)) rfl
theorem W_1 : Cond.fieldLink RX7 41 "StairsInSteps$Rows" "waiting" "I" ∈ jT := jT_mem (mt_2 (List.mem_of_getElem? (i := 23) rfl)) rfl
theorem W_2 : Cond.fieldLink RX7 15 "StairsInSteps$Rows" "first" "[I" ∈ jT := jT_mem (mt_2 (List.mem_of_getElem? (i := 15) rfl)) rfl
theorem W_3 : Cond.fieldLink RX7 22 "StairsInSteps$Rows" "filled" "I" ∈ jT := jT_mem (mt_2 (List.mem_of_getElem? (i := 17) rfl)) rfl
theorem W_4 : Cond.fieldLink RX7 19 "StairsInSteps$Rows" "size" "[I" ∈ jT := jT_mem (mt_2 (List.mem_of_getElem? (i := 16) rfl)) rfl
theorem W_5 : Cond.arrayClass .long ∈ jT := jT_mem (mt_2 (List.mem_of_getElem? (i := 46) rfl)) rfl
theorem W_6 : Cond.methodLink RJ7 304 Lib.Math.min.name ∈ jT := jT_mem (mt_4 (List.mem_of_getElem? (i := 232) rfl)) rfl
theorem W_7 : Cond.static Lib.Math.min.name ∈ jT := jT_mem (mt_2 (List.mem_of_getElem? (i := 177) rfl)) rfl
theorem W_8 : Cond.initialized "java/lang/Math" ∈ jT := jT_mem (mt_1 (List.mem_of_getElem? (i := 12) rfl)) rfl
theorem W_9 : Cond.code Lib.Math.min.name Lib.Math.min.code 2 (some .int) ∈ jT := jT_mem (mt_2 (List.mem_of_getElem? (i := 178) rfl)) rfl
theorem W_10 : Cond.methodLink RJ7 150 arraycopyName ∈ jT := jT_mem (mt_4 (List.mem_of_getElem? (i := 233) rfl)) rfl
theorem W_11 : Cond.native arraycopyName ∈ jT := jT_mem (mt_2 (List.mem_of_getElem? (i := 235) rfl)) rfl
theorem W_12 : Cond.static arraycopyName ∈ jT := jT_mem (mt_2 (List.mem_of_getElem? (i := 234) rfl)) rfl
theorem W_13 : Cond.initialized "java/lang/System" ∈ jT := jT_mem (mt_1 (List.mem_of_getElem? (i := 13) rfl)) rfl
theorem W_14 : Cond.fieldLink RX7 11 "StairsInSteps$Rows" "keys" "[J" ∈ jT := jT_mem (mt_2 (List.mem_of_getElem? (i := 14) rfl)) rfl
theorem W_15 : Cond.constant RX7 64 (1048576) ∈ jT := jT_mem (mt_4 (List.mem_of_getElem? (i := 221) rfl)) rfl
theorem W_16 : Cond.code yJ7_copyOf_c38d5 cJ7_copyOf_c38d5 3 (some (.array .long)) ∈ jT := jT_mem (mt_4 (List.mem_of_getElem? (i := 224) rfl)) rfl
theorem W_17 : Cond.initialized RJ7 ∈ jT := jT_mem (mt_1 (List.mem_of_getElem? (i := 14) rfl)) rfl
theorem W_18 : Cond.methodLink RX7 65 yJ7_copyOf_c38d5 ∈ jT := jT_mem (mt_4 (List.mem_of_getElem? (i := 222) rfl)) rfl
theorem W_19 : Cond.static yJ7_copyOf_c38d5 ∈ jT := jT_mem (mt_4 (List.mem_of_getElem? (i := 223) rfl)) rfl
theorem W_20 : Cond.code yJ7_fill_53178 cJ7_fill_53178 4 none ∈ jT := jT_mem (mt_3 (List.mem_of_getElem? (i := 2) rfl)) rfl
theorem W_21 : Cond.methodLink RX7 44 yJ7_fill_53178 ∈ jT := jT_mem (mt_4 (List.mem_of_getElem? (i := 212) rfl)) rfl
theorem W_22 : Cond.static yJ7_fill_53178 ∈ jT := jT_mem (mt_3 (List.mem_of_getElem? (i := 1) rfl)) rfl
theorem W_23 : Cond.code yX7_start cX7_start 2 none ∈ jT := jT_mem (mt_4 (List.mem_of_getElem? (i := 216) rfl)) rfl
theorem W_24 : Cond.initialized RX7 ∈ jT := jT_mem (mt_1 (List.mem_of_getElem? (i := 9) rfl)) rfl
theorem W_25 : Cond.methodLink RX7 50 yX7_start ∈ jT := jT_mem (mt_4 (List.mem_of_getElem? (i := 213) rfl)) rfl
theorem W_26 : Cond.instanceMethod yX7_start ∈ jT := jT_mem (mt_4 (List.mem_of_getElem? (i := 214) rfl)) rfl
theorem W_27 : Cond.selects RX7 yX7_start yX7_start ∈ jT := jT_mem (mt_4 (List.mem_of_getElem? (i := 215) rfl)) rfl
theorem W_28 : Cond.code yX7_push cX7_push 4 none ∈ jT := jT_mem (mt_4 (List.mem_of_getElem? (i := 220) rfl)) rfl
theorem W_29 : Cond.methodLink RX7 54 yX7_push ∈ jT := jT_mem (mt_4 (List.mem_of_getElem? (i := 217) rfl)) rfl
theorem W_30 : Cond.instanceMethod yX7_push ∈ jT := jT_mem (mt_4 (List.mem_of_getElem? (i := 218) rfl)) rfl
theorem W_31 : Cond.selects RX7 yX7_push yX7_push ∈ jT := jT_mem (mt_4 (List.mem_of_getElem? (i := 219) rfl)) rfl
theorem W_32 : Cond.code yX6_moveTo cX6_moveTo 2 (some .int) ∈ jT := jT_mem (mt_4 (List.mem_of_getElem? (i := 194) rfl)) rfl
theorem W_33 : Cond.initialized RX6 ∈ jT := jT_mem (mt_1 (List.mem_of_getElem? (i := 25) rfl)) rfl
theorem W_34 : Cond.methodLink RX6 99 yX6_moveTo ∈ jT := jT_mem (mt_4 (List.mem_of_getElem? (i := 192) rfl)) rfl
theorem W_35 : Cond.static yX6_moveTo ∈ jT := jT_mem (mt_4 (List.mem_of_getElem? (i := 193) rfl)) rfl
theorem W_36 : Cond.fieldLink RX6 9 "StairsInSteps$Routes" "cost" "[I" ∈ jT := jT_mem (mt_3 (List.mem_of_getElem? (i := 217) rfl)) rfl
theorem W_37 : Cond.fieldLink RX6 15 "StairsInSteps$Routes" "effort" "[I" ∈ jT := jT_mem (mt_3 (List.mem_of_getElem? (i := 219) rfl)) rfl
theorem W_38 : Cond.constantLong RX6 109 (16777216) ∈ jT := jT_mem (mt_5 (List.mem_of_getElem? (i := 12) rfl)) rfl
theorem W_39 : Cond.code yX11_bitOf cX11_bitOf 1 (some .long) ∈ jT := jT_mem (mt_5 (List.mem_of_getElem? (i := 15) rfl)) rfl
theorem W_40 : Cond.initialized RX11 ∈ jT := jT_mem (mt_1 (List.mem_of_getElem? (i := 1) rfl)) rfl
theorem W_41 : Cond.static yX11_bitOf ∈ jT := jT_mem (mt_5 (List.mem_of_getElem? (i := 14) rfl)) rfl
theorem W_42 : Cond.code yX7_sizeAt cX7_sizeAt 2 (some .int) ∈ jT := jT_mem (mt_5 (List.mem_of_getElem? (i := 23) rfl)) rfl
theorem W_43 : Cond.methodLink RX7 58 yX7_sizeAt ∈ jT := jT_mem (mt_5 (List.mem_of_getElem? (i := 20) rfl)) rfl
theorem W_44 : Cond.instanceMethod yX7_sizeAt ∈ jT := jT_mem (mt_5 (List.mem_of_getElem? (i := 21) rfl)) rfl
theorem W_45 : Cond.selects RX7 yX7_sizeAt yX7_sizeAt ∈ jT := jT_mem (mt_5 (List.mem_of_getElem? (i := 22) rfl)) rfl
theorem W_46 : Cond.fieldLink RX7 26 "StairsInSteps$Rows" "head" "[I" ∈ jT := jT_mem (mt_2 (List.mem_of_getElem? (i := 18) rfl)) rfl
theorem W_47 : Cond.fieldLink RX7 29 "StairsInSteps$Rows" "tail" "[I" ∈ jT := jT_mem (mt_2 (List.mem_of_getElem? (i := 19) rfl)) rfl
theorem W_48 : Cond.fieldLink RX7 32 "StairsInSteps$Rows" "shift" "[J" ∈ jT := jT_mem (mt_2 (List.mem_of_getElem? (i := 20) rfl)) rfl
theorem W_49 : Cond.fieldLink RX7 35 "StairsInSteps$Rows" "ahead" "[J" ∈ jT := jT_mem (mt_2 (List.mem_of_getElem? (i := 21) rfl)) rfl
theorem W_50 : Cond.code yX6_keyOf cX6_keyOf 4 (some .long) ∈ jT := jT_mem (mt_5 (List.mem_of_getElem? (i := 11) rfl)) rfl
theorem W_51 : Cond.methodLink RX6 120 yX6_keyOf ∈ jT := jT_mem (mt_5 (List.mem_of_getElem? (i := 8) rfl)) rfl
theorem W_52 : Cond.instanceMethod yX6_keyOf ∈ jT := jT_mem (mt_5 (List.mem_of_getElem? (i := 10) rfl)) rfl
theorem W_53 : Cond.selects RX6 yX6_keyOf yX6_keyOf ∈ jT := jT_mem (mt_0 (List.mem_of_getElem? (i := 31) rfl)) rfl
theorem W_54 : Cond.code yX7_merge cX7_merge 5 none ∈ jT := jT_mem (mt_5 (List.mem_of_getElem? (i := 19) rfl)) rfl
theorem W_55 : Cond.methodLink RX6 124 yX7_merge ∈ jT := jT_mem (mt_5 (List.mem_of_getElem? (i := 16) rfl)) rfl
theorem W_56 : Cond.instanceMethod yX7_merge ∈ jT := jT_mem (mt_5 (List.mem_of_getElem? (i := 17) rfl)) rfl
theorem W_57 : Cond.selects RX7 yX7_merge yX7_merge ∈ jT := jT_mem (mt_5 (List.mem_of_getElem? (i := 18) rfl)) rfl
theorem W_58 : Cond.fieldLink RX6 65 "StairsInSteps$Routes" "leap" "I" ∈ jT := jT_mem (mt_3 (List.mem_of_getElem? (i := 215) rfl)) rfl
theorem W_59 : Cond.fieldLink RX6 18 "StairsInSteps$Routes" "open" "[Z" ∈ jT := jT_mem (mt_3 (List.mem_of_getElem? (i := 220) rfl)) rfl
theorem W_60 : Cond.methodLink RX6 116 yX7_start ∈ jT := jT_mem (mt_5 (List.mem_of_getElem? (i := 7) rfl)) rfl
theorem W_61 : Cond.constantLong RX7 62 (9223372036854775807) ∈ jT := jT_mem (mt_5 (List.mem_of_getElem? (i := 32) rfl)) rfl
theorem W_62 : Cond.code yX7_take cX7_take 5 (some .long) ∈ jT := jT_mem (mt_5 (List.mem_of_getElem? (i := 31) rfl)) rfl
theorem W_63 : Cond.methodLink RX7 85 yX7_take ∈ jT := jT_mem (mt_5 (List.mem_of_getElem? (i := 28) rfl)) rfl
theorem W_64 : Cond.instanceMethod yX7_take ∈ jT := jT_mem (mt_5 (List.mem_of_getElem? (i := 29) rfl)) rfl
theorem W_65 : Cond.selects RX7 yX7_take yX7_take ∈ jT := jT_mem (mt_5 (List.mem_of_getElem? (i := 30) rfl)) rfl
theorem W_66 : Cond.code yX11_costIn cX11_costIn 2 (some .int) ∈ jT := jT_mem (mt_5 (List.mem_of_getElem? (i := 35) rfl)) rfl
theorem W_67 : Cond.static yX11_costIn ∈ jT := jT_mem (mt_5 (List.mem_of_getElem? (i := 34) rfl)) rfl
theorem W_68 : Cond.code yX11_effortIn cX11_effortIn 2 (some .int) ∈ jT := jT_mem (mt_5 (List.mem_of_getElem? (i := 38) rfl)) rfl
theorem W_69 : Cond.static yX11_effortIn ∈ jT := jT_mem (mt_5 (List.mem_of_getElem? (i := 37) rfl)) rfl
theorem W_70 : Cond.fieldLink RX0 12 "StairsInSteps$ByCost" "rows" "LStairsInSteps$Rows;" ∈ jT := jT_mem (mt_2 (List.mem_of_getElem? (i := 47) rfl)) rfl
theorem W_71 : Cond.methodLink RX0 55 yX7_sizeAt ∈ jT := jT_mem (mt_5 (List.mem_of_getElem? (i := 67) rfl)) rfl
theorem W_72 : Cond.code yX7_keyAt cX7_keyAt 3 (some .long) ∈ jT := jT_mem (mt_5 (List.mem_of_getElem? (i := 43) rfl)) rfl
theorem W_73 : Cond.methodLink RX0 59 yX7_keyAt ∈ jT := jT_mem (mt_5 (List.mem_of_getElem? (i := 68) rfl)) rfl
theorem W_74 : Cond.instanceMethod yX7_keyAt ∈ jT := jT_mem (mt_5 (List.mem_of_getElem? (i := 41) rfl)) rfl
theorem W_75 : Cond.selects RX7 yX7_keyAt yX7_keyAt ∈ jT := jT_mem (mt_5 (List.mem_of_getElem? (i := 42) rfl)) rfl
theorem W_76 : Cond.constantLong RX0 38 (-1) ∈ jT := jT_mem (mt_5 (List.mem_of_getElem? (i := 64) rfl)) rfl
theorem W_77 : Cond.code yX6_feed cX6_feed 8 none ∈ jT := jT_mem (mt_5 (List.mem_of_getElem? (i := 6) rfl)) rfl
theorem W_78 : Cond.methodLink RX0 40 yX6_feed ∈ jT := jT_mem (mt_5 (List.mem_of_getElem? (i := 65) rfl)) rfl
theorem W_79 : Cond.instanceMethod yX6_feed ∈ jT := jT_mem (mt_5 (List.mem_of_getElem? (i := 4) rfl)) rfl
theorem W_80 : Cond.selects RX6 yX6_feed yX6_feed ∈ jT := jT_mem (mt_5 (List.mem_of_getElem? (i := 5) rfl)) rfl
theorem W_81 : Cond.code yX7_keepCheapest cX7_keepCheapest 8 none ∈ jT := jT_mem (mt_5 (List.mem_of_getElem? (i := 27) rfl)) rfl
theorem W_82 : Cond.methodLink RX0 51 yX7_keepCheapest ∈ jT := jT_mem (mt_5 (List.mem_of_getElem? (i := 66) rfl)) rfl
theorem W_83 : Cond.instanceMethod yX7_keepCheapest ∈ jT := jT_mem (mt_5 (List.mem_of_getElem? (i := 25) rfl)) rfl
theorem W_84 : Cond.selects RX7 yX7_keepCheapest yX7_keepCheapest ∈ jT := jT_mem (mt_5 (List.mem_of_getElem? (i := 26) rfl)) rfl
theorem W_85 : Cond.constantLong RX0 26 (16777215) ∈ jT := jT_mem (mt_5 (List.mem_of_getElem? (i := 62) rfl)) rfl
theorem W_86 : Cond.code yX7_begin cX7_begin 4 none ∈ jT := jT_mem (mt_4 (List.mem_of_getElem? (i := 211) rfl)) rfl
theorem W_87 : Cond.methodLink RX0 28 yX7_begin ∈ jT := jT_mem (mt_5 (List.mem_of_getElem? (i := 63) rfl)) rfl
theorem W_88 : Cond.instanceMethod yX7_begin ∈ jT := jT_mem (mt_4 (List.mem_of_getElem? (i := 209) rfl)) rfl
theorem W_89 : Cond.selects RX7 yX7_begin yX7_begin ∈ jT := jT_mem (mt_4 (List.mem_of_getElem? (i := 210) rfl)) rfl
theorem W_90 : Cond.constantLong RX0 75 (9223372036854775807) ∈ jT := jT_mem (mt_5 (List.mem_of_getElem? (i := 133) rfl)) rfl
theorem W_91 : Cond.constantLong RX0 63 (-536870912) ∈ jT := jT_mem (mt_5 (List.mem_of_getElem? (i := 90) rfl)) rfl
theorem W_92 : Cond.code yX7_keepEachCost cX7_keepEachCost 8 none ∈ jT := jT_mem (mt_5 (List.mem_of_getElem? (i := 132) rfl)) rfl
theorem W_93 : Cond.methodLink RX0 68 yX7_keepEachCost ∈ jT := jT_mem (mt_5 (List.mem_of_getElem? (i := 129) rfl)) rfl
theorem W_94 : Cond.instanceMethod yX7_keepEachCost ∈ jT := jT_mem (mt_5 (List.mem_of_getElem? (i := 130) rfl)) rfl
theorem W_95 : Cond.selects RX7 yX7_keepEachCost yX7_keepEachCost ∈ jT := jT_mem (mt_5 (List.mem_of_getElem? (i := 131) rfl)) rfl
theorem W_96 : Cond.fieldLink RX0 18 "StairsInSteps$ByCost" "reach" "[J" ∈ jT := jT_mem (mt_2 (List.mem_of_getElem? (i := 48) rfl)) rfl
theorem W_97 : Cond.code yX0_addReach cX0_addReach 9 none ∈ jT := jT_mem (mt_5 (List.mem_of_getElem? (i := 89) rfl)) rfl
theorem W_98 : Cond.initialized RX0 ∈ jT := jT_mem (mt_1 (List.mem_of_getElem? (i := 8) rfl)) rfl
theorem W_99 : Cond.methodLink RX0 123 yX0_addReach ∈ jT := jT_mem (mt_5 (List.mem_of_getElem? (i := 86) rfl)) rfl
theorem W_100 : Cond.instanceMethod yX0_addReach ∈ jT := jT_mem (mt_5 (List.mem_of_getElem? (i := 88) rfl)) rfl
theorem W_101 : Cond.selects RX0 yX0_addReach yX0_addReach ∈ jT := jT_mem (mt_0 (List.mem_of_getElem? (i := 33) rfl)) rfl
theorem W_102 : Cond.code yJ7_fill_d0a16 cJ7_fill_d0a16 5 none ∈ jT := jT_mem (mt_5 (List.mem_of_getElem? (i := 84) rfl)) rfl
theorem W_103 : Cond.methodLink RX0 103 yJ7_fill_d0a16 ∈ jT := jT_mem (mt_5 (List.mem_of_getElem? (i := 82) rfl)) rfl
theorem W_104 : Cond.static yJ7_fill_d0a16 ∈ jT := jT_mem (mt_5 (List.mem_of_getElem? (i := 83) rfl)) rfl
theorem W_105 : Cond.constantLong RX7 92 (-536870912) ∈ jT := jT_mem (mt_5 (List.mem_of_getElem? (i := 106) rfl)) rfl
theorem W_106 : Cond.constantLong RX7 94 (536870911) ∈ jT := jT_mem (mt_5 (List.mem_of_getElem? (i := 107) rfl)) rfl
theorem W_107 : Cond.methodLink RX0 89 yX7_take ∈ jT := jT_mem (mt_5 (List.mem_of_getElem? (i := 95) rfl)) rfl
theorem W_108 : Cond.code yX0_isInReach cX0_isInReach 4 (some .boolean) ∈ jT := jT_mem (mt_5 (List.mem_of_getElem? (i := 101) rfl)) rfl
theorem W_109 : Cond.methodLink RX0 96 yX0_isInReach ∈ jT := jT_mem (mt_5 (List.mem_of_getElem? (i := 98) rfl)) rfl
theorem W_110 : Cond.instanceMethod yX0_isInReach ∈ jT := jT_mem (mt_5 (List.mem_of_getElem? (i := 100) rfl)) rfl
theorem W_111 : Cond.selects RX0 yX0_isInReach yX0_isInReach ∈ jT := jT_mem (mt_0 (List.mem_of_getElem? (i := 35) rfl)) rfl
theorem W_112 : Cond.code yX7_pushSummed cX7_pushSummed 5 none ∈ jT := jT_mem (mt_5 (List.mem_of_getElem? (i := 105) rfl)) rfl
theorem W_113 : Cond.methodLink RX0 100 yX7_pushSummed ∈ jT := jT_mem (mt_5 (List.mem_of_getElem? (i := 102) rfl)) rfl
theorem W_114 : Cond.instanceMethod yX7_pushSummed ∈ jT := jT_mem (mt_5 (List.mem_of_getElem? (i := 103) rfl)) rfl
theorem W_115 : Cond.selects RX7 yX7_pushSummed yX7_pushSummed ∈ jT := jT_mem (mt_5 (List.mem_of_getElem? (i := 104) rfl)) rfl
theorem W_116 : Cond.fieldLink RX0 22 "StairsInSteps$ByCost" "easiestWays" "J" ∈ jT := jT_mem (mt_2 (List.mem_of_getElem? (i := 49) rfl)) rfl
theorem W_117 : Cond.constantLong RX0 84 (536870911) ∈ jT := jT_mem (mt_5 (List.mem_of_getElem? (i := 108) rfl)) rfl
theorem W_118 : Cond.code yX0_keepOnTheWay cX0_keepOnTheWay 8 none ∈ jT := jT_mem (mt_5 (List.mem_of_getElem? (i := 94) rfl)) rfl
theorem W_119 : Cond.methodLink RX0 81 yX0_keepOnTheWay ∈ jT := jT_mem (mt_5 (List.mem_of_getElem? (i := 91) rfl)) rfl
theorem W_120 : Cond.instanceMethod yX0_keepOnTheWay ∈ jT := jT_mem (mt_5 (List.mem_of_getElem? (i := 93) rfl)) rfl
theorem W_121 : Cond.selects RX0 yX0_keepOnTheWay yX0_keepOnTheWay ∈ jT := jT_mem (mt_0 (List.mem_of_getElem? (i := 34) rfl)) rfl
theorem W_122 : Cond.code yX0_findReach cX0_findReach 4 none ∈ jT := jT_mem (mt_5 (List.mem_of_getElem? (i := 81) rfl)) rfl
theorem W_123 : Cond.methodLink RX0 77 yX0_findReach ∈ jT := jT_mem (mt_5 (List.mem_of_getElem? (i := 78) rfl)) rfl
theorem W_124 : Cond.instanceMethod yX0_findReach ∈ jT := jT_mem (mt_5 (List.mem_of_getElem? (i := 80) rfl)) rfl
theorem W_125 : Cond.selects RX0 yX0_findReach yX0_findReach ∈ jT := jT_mem (mt_0 (List.mem_of_getElem? (i := 32) rfl)) rfl
theorem W_126 : Cond.fieldLink RX1 9 "StairsInSteps$Feast" "goes" "[Z" ∈ jT := jT_mem (mt_2 (List.mem_of_getElem? (i := 64) rfl)) rfl
theorem W_127 : Cond.fieldLink RX1 19 "StairsInSteps$Feast" "at" "[I" ∈ jT := jT_mem (mt_2 (List.mem_of_getElem? (i := 66) rfl)) rfl
theorem W_128 : Cond.fieldLink RX1 23 "StairsInSteps$Feast" "waited" "[I" ∈ jT := jT_mem (mt_2 (List.mem_of_getElem? (i := 67) rfl)) rfl
theorem W_129 : Cond.methodLink RX1 45 Lib.Math.min.name ∈ jT := jT_mem (mt_6 (List.mem_of_getElem? (i := 103) rfl)) rfl
theorem W_130 : Cond.fieldLink RX1 32 "StairsInSteps$Feast" "size" "I" ∈ jT := jT_mem (mt_2 (List.mem_of_getElem? (i := 72) rfl)) rfl
theorem W_131 : Cond.fieldLink RX1 36 "StairsInSteps$Feast" "going" "I" ∈ jT := jT_mem (mt_2 (List.mem_of_getElem? (i := 73) rfl)) rfl
theorem W_132 : Cond.fieldLink RX1 39 "StairsInSteps$Feast" "minutes" "I" ∈ jT := jT_mem (mt_2 (List.mem_of_getElem? (i := 74) rfl)) rfl
theorem W_133 : Cond.fieldLink RX1 42 "StairsInSteps$Feast" "crowd" "I" ∈ jT := jT_mem (mt_2 (List.mem_of_getElem? (i := 76) rfl)) rfl
theorem W_134 : Cond.fieldLink RX1 26 "StairsInSteps$Feast" "on" "[I" ∈ jT := jT_mem (mt_2 (List.mem_of_getElem? (i := 69) rfl)) rfl
theorem W_135 : Cond.methodLink RX1 51 yJ7_fill_53178 ∈ jT := jT_mem (mt_6 (List.mem_of_getElem? (i := 104) rfl)) rfl
theorem W_136 : Cond.fieldLink RX1 29 "StairsInSteps$Feast" "waitedFor" "[I" ∈ jT := jT_mem (mt_2 (List.mem_of_getElem? (i := 70) rfl)) rfl
theorem W_137 : Cond.fieldLink RX1 15 "StairsInSteps$Feast" "key" "[J" ∈ jT := jT_mem (mt_2 (List.mem_of_getElem? (i := 65) rfl)) rfl
theorem W_138 : Cond.methodLink RX11 441 yX11_bitOf ∈ jT := jT_mem (mt_5 (List.mem_of_getElem? (i := 52) rfl)) rfl
theorem W_139 : Cond.code yX11_treads cX11_treads 3 (some .boolean) ∈ jT := jT_mem (mt_5 (List.mem_of_getElem? (i := 51) rfl)) rfl
theorem W_140 : Cond.static yX11_treads ∈ jT := jT_mem (mt_5 (List.mem_of_getElem? (i := 50) rfl)) rfl
theorem W_141 : Cond.code yX1_goOn cX1_goOn 4 none ∈ jT := jT_mem (mt_6 (List.mem_of_getElem? (i := 120) rfl)) rfl
theorem W_142 : Cond.initialized RX1 ∈ jT := jT_mem (mt_1 (List.mem_of_getElem? (i := 10) rfl)) rfl
theorem W_143 : Cond.methodLink RX1 64 yX1_goOn ∈ jT := jT_mem (mt_6 (List.mem_of_getElem? (i := 117) rfl)) rfl
theorem W_144 : Cond.instanceMethod yX1_goOn ∈ jT := jT_mem (mt_6 (List.mem_of_getElem? (i := 119) rfl)) rfl
theorem W_145 : Cond.selects RX1 yX1_goOn yX1_goOn ∈ jT := jT_mem (mt_0 (List.mem_of_getElem? (i := 51) rfl)) rfl
theorem W_146 : Cond.methodLink RX1 61 Lib.Math.max.name ∈ jT := jT_mem (mt_6 (List.mem_of_getElem? (i := 122) rfl)) rfl
theorem W_147 : Cond.static Lib.Math.max.name ∈ jT := jT_mem (mt_3 (List.mem_of_getElem? (i := 89) rfl)) rfl
theorem W_148 : Cond.code Lib.Math.max.name Lib.Math.max.code 2 (some .int) ∈ jT := jT_mem (mt_3 (List.mem_of_getElem? (i := 90) rfl)) rfl
theorem W_149 : Cond.code yX1_passMinute cX1_passMinute 4 none ∈ jT := jT_mem (mt_6 (List.mem_of_getElem? (i := 116) rfl)) rfl
theorem W_150 : Cond.methodLink RX1 57 yX1_passMinute ∈ jT := jT_mem (mt_6 (List.mem_of_getElem? (i := 113) rfl)) rfl
theorem W_151 : Cond.instanceMethod yX1_passMinute ∈ jT := jT_mem (mt_6 (List.mem_of_getElem? (i := 115) rfl)) rfl
theorem W_152 : Cond.selects RX1 yX1_passMinute yX1_passMinute ∈ jT := jT_mem (mt_0 (List.mem_of_getElem? (i := 50) rfl)) rfl
theorem W_153 : Cond.fieldLink RX2 9 "StairsInSteps$Kept" "states" "[I" ∈ jT := jT_mem (mt_1 (List.mem_of_getElem? (i := 211) rfl)) rfl
theorem W_154 : Cond.methodLink RX2 46 arraycopyName ∈ jT := jT_mem (mt_6 (List.mem_of_getElem? (i := 139) rfl)) rfl
theorem W_155 : Cond.fieldLink RX2 15 "StairsInSteps$Kept" "asked" "[I" ∈ jT := jT_mem (mt_1 (List.mem_of_getElem? (i := 212) rfl)) rfl
theorem W_156 : Cond.fieldLink RX2 18 "StairsInSteps$Kept" "owned" "[I" ∈ jT := jT_mem (mt_1 (List.mem_of_getElem? (i := 213) rfl)) rfl
theorem W_157 : Cond.fieldLink RX4 15 "StairsInSteps$Parts" "mains" "[I" ∈ jT := jT_mem (mt_1 (List.mem_of_getElem? (i := 107) rfl)) rfl
theorem W_158 : Cond.fieldLink RX4 9 "StairsInSteps$Parts" "owned" "[I" ∈ jT := jT_mem (mt_1 (List.mem_of_getElem? (i := 105) rfl)) rfl
theorem W_159 : Cond.code yX4_findMain cX4_findMain 4 none ∈ jT := jT_mem (mt_3 (List.mem_of_getElem? (i := 11) rfl)) rfl
theorem W_160 : Cond.initialized RX4 ∈ jT := jT_mem (mt_1 (List.mem_of_getElem? (i := 5) rfl)) rfl
theorem W_161 : Cond.methodLink RX4 47 yX4_findMain ∈ jT := jT_mem (mt_3 (List.mem_of_getElem? (i := 8) rfl)) rfl
theorem W_162 : Cond.instanceMethod yX4_findMain ∈ jT := jT_mem (mt_3 (List.mem_of_getElem? (i := 10) rfl)) rfl
theorem W_163 : Cond.selects RX4 yX4_findMain yX4_findMain ∈ jT := jT_mem (mt_0 (List.mem_of_getElem? (i := 10) rfl)) rfl
theorem W_164 : Cond.methodLink RX4 41 arraycopyName ∈ jT := jT_mem (mt_6 (List.mem_of_getElem? (i := 41) rfl)) rfl
theorem W_165 : Cond.fieldLink RX4 25 "StairsInSteps$Parts" "sales" "I" ∈ jT := jT_mem (mt_1 (List.mem_of_getElem? (i := 110) rfl)) rfl
theorem W_166 : Cond.code yX4_findMains cX4_findMains 2 none ∈ jT := jT_mem (mt_3 (List.mem_of_getElem? (i := 7) rfl)) rfl
theorem W_167 : Cond.methodLink RX4 38 yX4_findMains ∈ jT := jT_mem (mt_3 (List.mem_of_getElem? (i := 4) rfl)) rfl
theorem W_168 : Cond.instanceMethod yX4_findMains ∈ jT := jT_mem (mt_3 (List.mem_of_getElem? (i := 6) rfl)) rfl
theorem W_169 : Cond.selects RX4 yX4_findMains yX4_findMains ∈ jT := jT_mem (mt_0 (List.mem_of_getElem? (i := 9) rfl)) rfl
theorem W_170 : Cond.code yX4_restore cX4_restore 2 none ∈ jT := jT_mem (mt_6 (List.mem_of_getElem? (i := 155) rfl)) rfl
theorem W_171 : Cond.methodLink RX2 62 yX4_restore ∈ jT := jT_mem (mt_6 (List.mem_of_getElem? (i := 152) rfl)) rfl
theorem W_172 : Cond.instanceMethod yX4_restore ∈ jT := jT_mem (mt_6 (List.mem_of_getElem? (i := 153) rfl)) rfl
theorem W_173 : Cond.selects RX4 yX4_restore yX4_restore ∈ jT := jT_mem (mt_6 (List.mem_of_getElem? (i := 154) rfl)) rfl
theorem W_174 : Cond.fieldLink RX2 24 "StairsInSteps$Kept" "at" "[I" ∈ jT := jT_mem (mt_1 (List.mem_of_getElem? (i := 216) rfl)) rfl
theorem W_175 : Cond.fieldLink RX2 27 "StairsInSteps$Kept" "kneesLeft" "[I" ∈ jT := jT_mem (mt_1 (List.mem_of_getElem? (i := 217) rfl)) rfl
theorem W_176 : Cond.fieldLink RX2 30 "StairsInSteps$Kept" "purseLeft" "[I" ∈ jT := jT_mem (mt_1 (List.mem_of_getElem? (i := 218) rfl)) rfl
theorem W_177 : Cond.fieldLink RX3 21 "StairsInSteps$Law" "size" "I" ∈ jT := jT_mem (mt_1 (List.mem_of_getElem? (i := 132) rfl)) rfl
theorem W_178 : Cond.code yX3_isTold cX3_isTold 1 (some .boolean) ∈ jT := jT_mem (mt_4 (List.mem_of_getElem? (i := 110) rfl)) rfl
theorem W_179 : Cond.initialized RX3 ∈ jT := jT_mem (mt_1 (List.mem_of_getElem? (i := 6) rfl)) rfl
theorem W_180 : Cond.methodLink RX3 40 yX3_isTold ∈ jT := jT_mem (mt_5 (List.mem_of_getElem? (i := 218) rfl)) rfl
theorem W_181 : Cond.instanceMethod yX3_isTold ∈ jT := jT_mem (mt_4 (List.mem_of_getElem? (i := 108) rfl)) rfl
theorem W_182 : Cond.selects RX3 yX3_isTold yX3_isTold ∈ jT := jT_mem (mt_4 (List.mem_of_getElem? (i := 109) rfl)) rfl
theorem W_183 : Cond.fieldLink RX3 25 "StairsInSteps$Law" "named" "I" ∈ jT := jT_mem (mt_1 (List.mem_of_getElem? (i := 133) rfl)) rfl
theorem W_184 : Cond.fieldLink RX10 15 "StairsInSteps$Text" "size" "I" ∈ jT := jT_mem (mt_1 (List.mem_of_getElem? (i := 42) rfl)) rfl
theorem W_185 : Cond.fieldLink RX10 11 "StairsInSteps$Text" "signs" "[B" ∈ jT := jT_mem (mt_1 (List.mem_of_getElem? (i := 41) rfl)) rfl
theorem W_186 : Cond.fieldLink RX3 31 "StairsInSteps$Law" "at" "I" ∈ jT := jT_mem (mt_1 (List.mem_of_getElem? (i := 135) rfl)) rfl
theorem W_187 : Cond.fieldLink RX3 34 "StairsInSteps$Law" "limit" "I" ∈ jT := jT_mem (mt_1 (List.mem_of_getElem? (i := 136) rfl)) rfl
theorem W_188 : Cond.code yX10_signAt cX10_signAt 2 (some .int) ∈ jT := jT_mem (mt_2 (List.mem_of_getElem? (i := 198) rfl)) rfl
theorem W_189 : Cond.initialized RX10 ∈ jT := jT_mem (mt_1 (List.mem_of_getElem? (i := 2) rfl)) rfl
theorem W_190 : Cond.methodLink RX3 63 yX10_signAt ∈ jT := jT_mem (mt_3 (List.mem_of_getElem? (i := 54) rfl)) rfl
theorem W_191 : Cond.instanceMethod yX10_signAt ∈ jT := jT_mem (mt_2 (List.mem_of_getElem? (i := 196) rfl)) rfl
theorem W_192 : Cond.selects RX10 yX10_signAt yX10_signAt ∈ jT := jT_mem (mt_2 (List.mem_of_getElem? (i := 197) rfl)) rfl
theorem W_193 : Cond.code yX3_look cX3_look 2 (some .int) ∈ jT := jT_mem (mt_3 (List.mem_of_getElem? (i := 53) rfl)) rfl
theorem W_194 : Cond.methodLink RX3 67 yX3_look ∈ jT := jT_mem (mt_3 (List.mem_of_getElem? (i := 50) rfl)) rfl
theorem W_195 : Cond.instanceMethod yX3_look ∈ jT := jT_mem (mt_3 (List.mem_of_getElem? (i := 52) rfl)) rfl
theorem W_196 : Cond.selects RX3 yX3_look yX3_look ∈ jT := jT_mem (mt_0 (List.mem_of_getElem? (i := 17) rfl)) rfl
theorem W_197 : Cond.fieldLink RX3 37 "StairsInSteps$Law" "fault" "I" ∈ jT := jT_mem (mt_1 (List.mem_of_getElem? (i := 137) rfl)) rfl
theorem W_198 : Cond.fieldLink RX3 28 "StairsInSteps$Law" "drafted" "I" ∈ jT := jT_mem (mt_1 (List.mem_of_getElem? (i := 134) rfl)) rfl
theorem W_199 : Cond.fieldLink RX3 15 "StairsInSteps$Law" "draft" "[I" ∈ jT := jT_mem (mt_1 (List.mem_of_getElem? (i := 130) rfl)) rfl
theorem W_200 : Cond.code yX3_emit cX3_emit 2 none ∈ jT := jT_mem (mt_3 (List.mem_of_getElem? (i := 152) rfl)) rfl
theorem W_201 : Cond.methodLink RX3 78 yX3_emit ∈ jT := jT_mem (mt_3 (List.mem_of_getElem? (i := 149) rfl)) rfl
theorem W_202 : Cond.instanceMethod yX3_emit ∈ jT := jT_mem (mt_3 (List.mem_of_getElem? (i := 151) rfl)) rfl
theorem W_203 : Cond.selects RX3 yX3_emit yX3_emit ∈ jT := jT_mem (mt_0 (List.mem_of_getElem? (i := 20) rfl)) rfl
theorem W_204 : Cond.code yX10_isDigit cX10_isDigit 1 (some .boolean) ∈ jT := jT_mem (mt_2 (List.mem_of_getElem? (i := 201) rfl)) rfl
theorem W_205 : Cond.methodLink RX3 98 yX10_isDigit ∈ jT := jT_mem (mt_3 (List.mem_of_getElem? (i := 144) rfl)) rfl
theorem W_206 : Cond.static yX10_isDigit ∈ jT := jT_mem (mt_2 (List.mem_of_getElem? (i := 200) rfl)) rfl
theorem W_207 : Cond.code yX3_isAhead cX3_isAhead 5 (some .boolean) ∈ jT := jT_mem (mt_3 (List.mem_of_getElem? (i := 49) rfl)) rfl
theorem W_208 : Cond.methodLink RX3 74 yX3_isAhead ∈ jT := jT_mem (mt_3 (List.mem_of_getElem? (i := 46) rfl)) rfl
theorem W_209 : Cond.instanceMethod yX3_isAhead ∈ jT := jT_mem (mt_3 (List.mem_of_getElem? (i := 48) rfl)) rfl
theorem W_210 : Cond.selects RX3 yX3_isAhead yX3_isAhead ∈ jT := jT_mem (mt_0 (List.mem_of_getElem? (i := 16) rfl)) rfl
theorem W_211 : Cond.fieldLink RX3 11 "StairsInSteps$Law" "code" "[I" ∈ jT := jT_mem (mt_1 (List.mem_of_getElem? (i := 129) rfl)) rfl
theorem W_212 : Cond.methodLink RX3 57 arraycopyName ∈ jT := jT_mem (mt_3 (List.mem_of_getElem? (i := 157) rfl)) rfl
theorem W_213 : Cond.methodLink RX3 47 Lib.Math.min.name ∈ jT := jT_mem (mt_3 (List.mem_of_getElem? (i := 29) rfl)) rfl
theorem W_214 : Cond.fieldLink RX3 18 "StairsInSteps$Law" "stack" "[I" ∈ jT := jT_mem (mt_1 (List.mem_of_getElem? (i := 131) rfl)) rfl
theorem W_215 : Cond.methodLink RX3 113 Lib.Math.max.name ∈ jT := jT_mem (mt_4 (List.mem_of_getElem? (i := 130) rfl)) rfl
theorem W_216 : Cond.code yX3_join cX3_join 3 (some .int) ∈ jT := jT_mem (mt_4 (List.mem_of_getElem? (i := 129) rfl)) rfl
theorem W_217 : Cond.methodLink RX3 109 yX3_join ∈ jT := jT_mem (mt_4 (List.mem_of_getElem? (i := 127) rfl)) rfl
theorem W_218 : Cond.static yX3_join ∈ jT := jT_mem (mt_4 (List.mem_of_getElem? (i := 128) rfl)) rfl
theorem W_219 : Cond.code yX11_isFamily cX11_isFamily 1 (some .boolean) ∈ jT := jT_mem (mt_2 (List.mem_of_getElem? (i := 212) rfl)) rfl
theorem W_220 : Cond.static yX11_isFamily ∈ jT := jT_mem (mt_2 (List.mem_of_getElem? (i := 211) rfl)) rfl
theorem W_221 : Cond.methodLink RX4 28 yJ7_fill_53178 ∈ jT := jT_mem (mt_3 (List.mem_of_getElem? (i := 0) rfl)) rfl
theorem W_222 : Cond.code yX4_shareOf cX4_shareOf 3 (some .int) ∈ jT := jT_mem (mt_4 (List.mem_of_getElem? (i := 156) rfl)) rfl
theorem W_223 : Cond.methodLink RX4 51 yX4_shareOf ∈ jT := jT_mem (mt_4 (List.mem_of_getElem? (i := 153) rfl)) rfl
theorem W_224 : Cond.instanceMethod yX4_shareOf ∈ jT := jT_mem (mt_4 (List.mem_of_getElem? (i := 154) rfl)) rfl
theorem W_225 : Cond.selects RX4 yX4_shareOf yX4_shareOf ∈ jT := jT_mem (mt_4 (List.mem_of_getElem? (i := 155) rfl)) rfl
theorem W_226 : Cond.code yX4_sumOf cX4_sumOf 4 (some .int) ∈ jT := jT_mem (mt_4 (List.mem_of_getElem? (i := 176) rfl)) rfl
theorem W_227 : Cond.methodLink RX4 55 yX4_sumOf ∈ jT := jT_mem (mt_6 (List.mem_of_getElem? (i := 77) rfl)) rfl
theorem W_228 : Cond.instanceMethod yX4_sumOf ∈ jT := jT_mem (mt_4 (List.mem_of_getElem? (i := 174) rfl)) rfl
theorem W_229 : Cond.selects RX4 yX4_sumOf yX4_sumOf ∈ jT := jT_mem (mt_4 (List.mem_of_getElem? (i := 175) rfl)) rfl
theorem W_230 : Cond.fieldLink RX4 21 "StairsInSteps$Parts" "oldest" "I" ∈ jT := jT_mem (mt_1 (List.mem_of_getElem? (i := 109) rfl)) rfl
theorem W_231 : Cond.fieldLink RX4 18 "StairsInSteps$Parts" "past" "[I" ∈ jT := jT_mem (mt_1 (List.mem_of_getElem? (i := 108) rfl)) rfl
theorem W_232 : Cond.constant RJ6 265 (1431655765) ∈ jT := jT_mem (mt_6 (List.mem_of_getElem? (i := 57) rfl)) rfl
theorem W_233 : Cond.constant RJ6 266 (858993459) ∈ jT := jT_mem (mt_6 (List.mem_of_getElem? (i := 58) rfl)) rfl
theorem W_234 : Cond.constant RJ6 267 (252645135) ∈ jT := jT_mem (mt_6 (List.mem_of_getElem? (i := 59) rfl)) rfl
theorem W_235 : Cond.code yX4_move cX4_move 5 none ∈ jT := jT_mem (mt_6 (List.mem_of_getElem? (i := 45) rfl)) rfl
theorem W_236 : Cond.methodLink RX4 64 yX4_move ∈ jT := jT_mem (mt_6 (List.mem_of_getElem? (i := 60) rfl)) rfl
theorem W_237 : Cond.instanceMethod yX4_move ∈ jT := jT_mem (mt_6 (List.mem_of_getElem? (i := 43) rfl)) rfl
theorem W_238 : Cond.selects RX4 yX4_move yX4_move ∈ jT := jT_mem (mt_6 (List.mem_of_getElem? (i := 44) rfl)) rfl
theorem W_239 : Cond.code yJ6_bitCount_0f7a4 cJ6_bitCount_0f7a4 1 (some .int) ∈ jT := jT_mem (mt_6 (List.mem_of_getElem? (i := 56) rfl)) rfl
theorem W_240 : Cond.initialized RJ6 ∈ jT := jT_mem (mt_1 (List.mem_of_getElem? (i := 26) rfl)) rfl
theorem W_241 : Cond.methodLink RX4 59 yJ6_bitCount_0f7a4 ∈ jT := jT_mem (mt_6 (List.mem_of_getElem? (i := 54) rfl)) rfl
theorem W_242 : Cond.static yJ6_bitCount_0f7a4 ∈ jT := jT_mem (mt_6 (List.mem_of_getElem? (i := 55) rfl)) rfl
theorem W_243 : Cond.fieldLink RX5 15 "StairsInSteps$Pilgrim" "at" "I" ∈ jT := jT_mem (mt_4 (List.mem_of_getElem? (i := 36) rfl)) rfl
theorem W_244 : Cond.fieldLink RX5 18 "StairsInSteps$Pilgrim" "knees" "I" ∈ jT := jT_mem (mt_4 (List.mem_of_getElem? (i := 26) rfl)) rfl
theorem W_245 : Cond.fieldLink RX5 30 "StairsInSteps$Pilgrim" "kneesLeft" "I" ∈ jT := jT_mem (mt_4 (List.mem_of_getElem? (i := 39) rfl)) rfl
theorem W_246 : Cond.fieldLink RX5 21 "StairsInSteps$Pilgrim" "purse" "I" ∈ jT := jT_mem (mt_4 (List.mem_of_getElem? (i := 28) rfl)) rfl
theorem W_247 : Cond.fieldLink RX5 33 "StairsInSteps$Pilgrim" "purseLeft" "I" ∈ jT := jT_mem (mt_4 (List.mem_of_getElem? (i := 42) rfl)) rfl
theorem W_248 : Cond.fieldLink RX5 24 "StairsInSteps$Pilgrim" "leap" "I" ∈ jT := jT_mem (mt_4 (List.mem_of_getElem? (i := 30) rfl)) rfl
theorem W_249 : Cond.fieldLink RX5 9 "StairsInSteps$Pilgrim" "vow" "I" ∈ jT := jT_mem (mt_4 (List.mem_of_getElem? (i := 34) rfl)) rfl
theorem W_250 : Cond.fieldLink RX8 47 "StairsInSteps$Stairs" "size" "I" ∈ jT := jT_mem (mt_1 (List.mem_of_getElem? (i := 178) rfl)) rfl
theorem W_251 : Cond.fieldLink RX8 31 "StairsInSteps$Stairs" "feuds" "[I" ∈ jT := jT_mem (mt_1 (List.mem_of_getElem? (i := 172) rfl)) rfl
theorem W_252 : Cond.fieldLink RX8 44 "StairsInSteps$Stairs" "letters" "[I" ∈ jT := jT_mem (mt_1 (List.mem_of_getElem? (i := 177) rfl)) rfl
theorem W_253 : Cond.code yX8_has cX8_has 2 (some .boolean) ∈ jT := jT_mem (mt_3 (List.mem_of_getElem? (i := 165) rfl)) rfl
theorem W_254 : Cond.initialized RX8 ∈ jT := jT_mem (mt_1 (List.mem_of_getElem? (i := 4) rfl)) rfl
theorem W_255 : Cond.methodLink RX8 81 yX8_has ∈ jT := jT_mem (mt_4 (List.mem_of_getElem? (i := 82) rfl)) rfl
theorem W_256 : Cond.instanceMethod yX8_has ∈ jT := jT_mem (mt_3 (List.mem_of_getElem? (i := 163) rfl)) rfl
theorem W_257 : Cond.selects RX8 yX8_has yX8_has ∈ jT := jT_mem (mt_3 (List.mem_of_getElem? (i := 164) rfl)) rfl
theorem W_258 : Cond.fieldLink RX8 18 "StairsInSteps$Stairs" "asks" "[I" ∈ jT := jT_mem (mt_1 (List.mem_of_getElem? (i := 162) rfl)) rfl
theorem W_259 : Cond.fieldLink RX8 9 "StairsInSteps$Stairs" "rise" "[I" ∈ jT := jT_mem (mt_1 (List.mem_of_getElem? (i := 157) rfl)) rfl
theorem W_260 : Cond.fieldLink RX8 15 "StairsInSteps$Stairs" "state" "[I" ∈ jT := jT_mem (mt_1 (List.mem_of_getElem? (i := 159) rfl)) rfl
theorem W_261 : Cond.fieldLink RX8 21 "StairsInSteps$Stairs" "widow" "[I" ∈ jT := jT_mem (mt_1 (List.mem_of_getElem? (i := 166) rfl)) rfl
theorem W_262 : Cond.fieldLink RX8 27 "StairsInSteps$Stairs" "shares" "LStairsInSteps$Parts;" ∈ jT := jT_mem (mt_1 (List.mem_of_getElem? (i := 168) rfl)) rfl
theorem W_263 : Cond.code yX4_mainOf cX4_mainOf 2 (some .int) ∈ jT := jT_mem (mt_4 (List.mem_of_getElem? (i := 118) rfl)) rfl
theorem W_264 : Cond.methodLink RX8 103 yX4_mainOf ∈ jT := jT_mem (mt_4 (List.mem_of_getElem? (i := 115) rfl)) rfl
theorem W_265 : Cond.instanceMethod yX4_mainOf ∈ jT := jT_mem (mt_4 (List.mem_of_getElem? (i := 116) rfl)) rfl
theorem W_266 : Cond.selects RX4 yX4_mainOf yX4_mainOf ∈ jT := jT_mem (mt_4 (List.mem_of_getElem? (i := 117) rfl)) rfl
theorem W_267 : Cond.code yX8_inFeud cX8_inFeud 3 (some .boolean) ∈ jT := jT_mem (mt_4 (List.mem_of_getElem? (i := 122) rfl)) rfl
theorem W_268 : Cond.methodLink RX8 106 yX8_inFeud ∈ jT := jT_mem (mt_4 (List.mem_of_getElem? (i := 119) rfl)) rfl
theorem W_269 : Cond.instanceMethod yX8_inFeud ∈ jT := jT_mem (mt_4 (List.mem_of_getElem? (i := 120) rfl)) rfl
theorem W_270 : Cond.selects RX8 yX8_inFeud yX8_inFeud ∈ jT := jT_mem (mt_4 (List.mem_of_getElem? (i := 121) rfl)) rfl
theorem W_271 : Cond.methodLink RX8 88 yX3_isTold ∈ jT := jT_mem (mt_4 (List.mem_of_getElem? (i := 107) rfl)) rfl
theorem W_272 : Cond.code yX8_putLetters cX8_putLetters 5 none ∈ jT := jT_mem (mt_4 (List.mem_of_getElem? (i := 114) rfl)) rfl
theorem W_273 : Cond.methodLink RX8 92 yX8_putLetters ∈ jT := jT_mem (mt_4 (List.mem_of_getElem? (i := 111) rfl)) rfl
theorem W_274 : Cond.instanceMethod yX8_putLetters ∈ jT := jT_mem (mt_4 (List.mem_of_getElem? (i := 113) rfl)) rfl
theorem W_275 : Cond.selects RX8 yX8_putLetters yX8_putLetters ∈ jT := jT_mem (mt_0 (List.mem_of_getElem? (i := 26) rfl)) rfl
theorem W_276 : Cond.code yX3_priceFor cX3_priceFor 6 (some .int) ∈ jT := jT_mem (mt_4 (List.mem_of_getElem? (i := 126) rfl)) rfl
theorem W_277 : Cond.methodLink RX8 96 yX3_priceFor ∈ jT := jT_mem (mt_4 (List.mem_of_getElem? (i := 123) rfl)) rfl
theorem W_278 : Cond.instanceMethod yX3_priceFor ∈ jT := jT_mem (mt_4 (List.mem_of_getElem? (i := 124) rfl)) rfl
theorem W_279 : Cond.selects RX3 yX3_priceFor yX3_priceFor ∈ jT := jT_mem (mt_4 (List.mem_of_getElem? (i := 125) rfl)) rfl
theorem W_280 : Cond.fieldLink RX8 41 "StairsInSteps$Stairs" "leaping" "LStairsInSteps$Law;" ∈ jT := jT_mem (mt_1 (List.mem_of_getElem? (i := 175) rfl)) rfl
theorem W_281 : Cond.fieldLink RX8 37 "StairsInSteps$Stairs" "treading" "LStairsInSteps$Law;" ∈ jT := jT_mem (mt_1 (List.mem_of_getElem? (i := 173) rfl)) rfl
theorem W_282 : Cond.code yX8_priceOf cX8_priceOf 7 (some .int) ∈ jT := jT_mem (mt_4 (List.mem_of_getElem? (i := 106) rfl)) rfl
theorem W_283 : Cond.methodLink RX8 84 yX8_priceOf ∈ jT := jT_mem (mt_4 (List.mem_of_getElem? (i := 103) rfl)) rfl
theorem W_284 : Cond.instanceMethod yX8_priceOf ∈ jT := jT_mem (mt_4 (List.mem_of_getElem? (i := 104) rfl)) rfl
theorem W_285 : Cond.selects RX8 yX8_priceOf yX8_priceOf ∈ jT := jT_mem (mt_4 (List.mem_of_getElem? (i := 105) rfl)) rfl
theorem W_286 : Cond.fieldLink RX6 55 "StairsInSteps$Routes" "stairs" "LStairsInSteps$Stairs;" ∈ jT := jT_mem (mt_3 (List.mem_of_getElem? (i := 210) rfl)) rfl
theorem W_287 : Cond.fieldLink RX6 48 "StairsInSteps$Routes" "load" "I" ∈ jT := jT_mem (mt_3 (List.mem_of_getElem? (i := 230) rfl)) rfl
theorem W_288 : Cond.code yX8_costOfMove cX8_costOfMove 7 (some .int) ∈ jT := jT_mem (mt_4 (List.mem_of_getElem? (i := 102) rfl)) rfl
theorem W_289 : Cond.methodLink RX6 102 yX8_costOfMove ∈ jT := jT_mem (mt_4 (List.mem_of_getElem? (i := 195) rfl)) rfl
theorem W_290 : Cond.instanceMethod yX8_costOfMove ∈ jT := jT_mem (mt_4 (List.mem_of_getElem? (i := 100) rfl)) rfl
theorem W_291 : Cond.selects RX8 yX8_costOfMove yX8_costOfMove ∈ jT := jT_mem (mt_4 (List.mem_of_getElem? (i := 101) rfl)) rfl
theorem W_292 : Cond.code yX8_effortOfMove cX8_effortOfMove 6 (some .int) ∈ jT := jT_mem (mt_4 (List.mem_of_getElem? (i := 81) rfl)) rfl
theorem W_293 : Cond.methodLink RX6 106 yX8_effortOfMove ∈ jT := jT_mem (mt_4 (List.mem_of_getElem? (i := 196) rfl)) rfl
theorem W_294 : Cond.instanceMethod yX8_effortOfMove ∈ jT := jT_mem (mt_4 (List.mem_of_getElem? (i := 79) rfl)) rfl
theorem W_295 : Cond.selects RX8 yX8_effortOfMove yX8_effortOfMove ∈ jT := jT_mem (mt_4 (List.mem_of_getElem? (i := 80) rfl)) rfl
theorem W_296 : Cond.fieldLink RX6 52 "StairsInSteps$Routes" "top" "I" ∈ jT := jT_mem (mt_3 (List.mem_of_getElem? (i := 231) rfl)) rfl
theorem W_297 : Cond.methodLink RX6 96 Lib.Math.max.name ∈ jT := jT_mem (mt_4 (List.mem_of_getElem? (i := 191) rfl)) rfl
theorem W_298 : Cond.fieldLink RX6 22 "StairsInSteps$Routes" "leastUp" "[I" ∈ jT := jT_mem (mt_3 (List.mem_of_getElem? (i := 222) rfl)) rfl
theorem W_299 : Cond.methodLink RX6 73 Lib.Math.min.name ∈ jT := jT_mem (mt_4 (List.mem_of_getElem? (i := 185) rfl)) rfl
theorem W_300 : Cond.constant RX6 115 (1048576) ∈ jT := jT_mem (mt_4 (List.mem_of_getElem? (i := 201) rfl)) rfl
theorem W_301 : Cond.code yX6_leastEffortUp cX6_leastEffortUp 4 (some .int) ∈ jT := jT_mem (mt_4 (List.mem_of_getElem? (i := 200) rfl)) rfl
theorem W_302 : Cond.methodLink RX6 93 yX6_leastEffortUp ∈ jT := jT_mem (mt_4 (List.mem_of_getElem? (i := 197) rfl)) rfl
theorem W_303 : Cond.instanceMethod yX6_leastEffortUp ∈ jT := jT_mem (mt_4 (List.mem_of_getElem? (i := 199) rfl)) rfl
theorem W_304 : Cond.selects RX6 yX6_leastEffortUp yX6_leastEffortUp ∈ jT := jT_mem (mt_0 (List.mem_of_getElem? (i := 30) rfl)) rfl
theorem W_305 : Cond.code yX6_measure cX6_measure 6 none ∈ jT := jT_mem (mt_4 (List.mem_of_getElem? (i := 190) rfl)) rfl
theorem W_306 : Cond.methodLink RX6 89 yX6_measure ∈ jT := jT_mem (mt_4 (List.mem_of_getElem? (i := 187) rfl)) rfl
theorem W_307 : Cond.instanceMethod yX6_measure ∈ jT := jT_mem (mt_4 (List.mem_of_getElem? (i := 188) rfl)) rfl
theorem W_308 : Cond.selects RX6 yX6_measure yX6_measure ∈ jT := jT_mem (mt_4 (List.mem_of_getElem? (i := 189) rfl)) rfl
theorem W_309 : Cond.methodLink RX6 83 yX4_mainOf ∈ jT := jT_mem (mt_4 (List.mem_of_getElem? (i := 186) rfl)) rfl
theorem W_310 : Cond.fieldLink RX6 25 "StairsInSteps$Routes" "leastFrom" "[I" ∈ jT := jT_mem (mt_3 (List.mem_of_getElem? (i := 224) rfl)) rfl
theorem W_311 : Cond.fieldLink RX6 31 "StairsInSteps$Routes" "rising" "LStairsInSteps$Rows;" ∈ jT := jT_mem (mt_3 (List.mem_of_getElem? (i := 225) rfl)) rfl
theorem W_312 : Cond.constantLong RX6 157 (-1) ∈ jT := jT_mem (mt_5 (List.mem_of_getElem? (i := 2) rfl)) rfl
theorem W_313 : Cond.methodLink RX6 159 yX6_feed ∈ jT := jT_mem (mt_5 (List.mem_of_getElem? (i := 3) rfl)) rfl
theorem W_314 : Cond.fieldLink RX6 59 "StairsInSteps$Routes" "knees" "I" ∈ jT := jT_mem (mt_3 (List.mem_of_getElem? (i := 211) rfl)) rfl
theorem W_315 : Cond.fieldLink RX6 62 "StairsInSteps$Routes" "purse" "I" ∈ jT := jT_mem (mt_3 (List.mem_of_getElem? (i := 213) rfl)) rfl
theorem W_316 : Cond.methodLink RX6 150 yX7_keepCheapest ∈ jT := jT_mem (mt_5 (List.mem_of_getElem? (i := 24) rfl)) rfl
theorem W_317 : Cond.code yX6_raiseOne cX6_raiseOne 2 none ∈ jT := jT_mem (mt_5 (List.mem_of_getElem? (i := 1) rfl)) rfl
theorem W_318 : Cond.methodLink RX6 154 yX6_raiseOne ∈ jT := jT_mem (mt_4 (List.mem_of_getElem? (i := 238) rfl)) rfl
theorem W_319 : Cond.instanceMethod yX6_raiseOne ∈ jT := jT_mem (mt_4 (List.mem_of_getElem? (i := 239) rfl)) rfl
theorem W_320 : Cond.selects RX6 yX6_raiseOne yX6_raiseOne ∈ jT := jT_mem (mt_5 (List.mem_of_getElem? (i := 0) rfl)) rfl
theorem W_321 : Cond.constantLong RX6 130 (16777215) ∈ jT := jT_mem (mt_4 (List.mem_of_getElem? (i := 207) rfl)) rfl
theorem W_322 : Cond.methodLink RX6 132 yX7_begin ∈ jT := jT_mem (mt_4 (List.mem_of_getElem? (i := 208) rfl)) rfl
theorem W_323 : Cond.code yX6_raiseTo cX6_raiseTo 3 none ∈ jT := jT_mem (mt_4 (List.mem_of_getElem? (i := 237) rfl)) rfl
theorem W_324 : Cond.methodLink RX6 135 yX6_raiseTo ∈ jT := jT_mem (mt_4 (List.mem_of_getElem? (i := 234) rfl)) rfl
theorem W_325 : Cond.instanceMethod yX6_raiseTo ∈ jT := jT_mem (mt_4 (List.mem_of_getElem? (i := 235) rfl)) rfl
theorem W_326 : Cond.selects RX6 yX6_raiseTo yX6_raiseTo ∈ jT := jT_mem (mt_4 (List.mem_of_getElem? (i := 236) rfl)) rfl
theorem W_327 : Cond.methodLink RX6 138 yX7_sizeAt ∈ jT := jT_mem (mt_5 (List.mem_of_getElem? (i := 39) rfl)) rfl
theorem W_328 : Cond.constantLong RX6 128 (9223372036854775807) ∈ jT := jT_mem (mt_4 (List.mem_of_getElem? (i := 206) rfl)) rfl
theorem W_329 : Cond.methodLink RX6 141 yX7_keyAt ∈ jT := jT_mem (mt_5 (List.mem_of_getElem? (i := 40) rfl)) rfl
theorem W_330 : Cond.fieldLink RX6 35 "StairsInSteps$Routes" "ending" "LStairsInSteps$Rows;" ∈ jT := jT_mem (mt_3 (List.mem_of_getElem? (i := 226) rfl)) rfl
theorem W_331 : Cond.code yX6_lower cX6_lower 3 none ∈ jT := jT_mem (mt_5 (List.mem_of_getElem? (i := 185) rfl)) rfl
theorem W_332 : Cond.methodLink RX6 147 yX6_lower ∈ jT := jT_mem (mt_5 (List.mem_of_getElem? (i := 182) rfl)) rfl
theorem W_333 : Cond.instanceMethod yX6_lower ∈ jT := jT_mem (mt_5 (List.mem_of_getElem? (i := 184) rfl)) rfl
theorem W_334 : Cond.selects RX6 yX6_lower yX6_lower ∈ jT := jT_mem (mt_0 (List.mem_of_getElem? (i := 41) rfl)) rfl
theorem W_335 : Cond.code yX6_leastEffortFrom cX6_leastEffortFrom 4 (some .int) ∈ jT := jT_mem (mt_5 (List.mem_of_getElem? (i := 181) rfl)) rfl
theorem W_336 : Cond.methodLink RX6 144 yX6_leastEffortFrom ∈ jT := jT_mem (mt_5 (List.mem_of_getElem? (i := 178) rfl)) rfl
theorem W_337 : Cond.instanceMethod yX6_leastEffortFrom ∈ jT := jT_mem (mt_5 (List.mem_of_getElem? (i := 180) rfl)) rfl
theorem W_338 : Cond.selects RX6 yX6_leastEffortFrom yX6_leastEffortFrom ∈ jT := jT_mem (mt_0 (List.mem_of_getElem? (i := 40) rfl)) rfl
theorem W_339 : Cond.methodLink RX7 69 yX7_keyAt ∈ jT := jT_mem (mt_5 (List.mem_of_getElem? (i := 204) rfl)) rfl
theorem W_340 : Cond.constantLong RX7 73 (16777215) ∈ jT := jT_mem (mt_5 (List.mem_of_getElem? (i := 205) rfl)) rfl
theorem W_341 : Cond.methodLink RX7 79 Lib.MathLoose.min_long.x ∈ jT := jT_mem (mt_5 (List.mem_of_getElem? (i := 206) rfl)) rfl
theorem W_342 : Cond.static Lib.MathLoose.min_long.x ∈ jT := jT_mem (mt_5 (List.mem_of_getElem? (i := 207) rfl)) rfl
theorem W_343 : Cond.code Lib.MathLoose.min_long.x Lib.MathLoose.min_long.code 4 (some .long) ∈ jT := jT_mem (mt_5 (List.mem_of_getElem? (i := 208) rfl)) rfl
theorem W_344 : Cond.code yX3_names cX3_names 2 (some .boolean) ∈ jT := jT_mem (mt_5 (List.mem_of_getElem? (i := 217) rfl)) rfl
theorem W_345 : Cond.methodLink RX8 100 yX3_names ∈ jT := jT_mem (mt_5 (List.mem_of_getElem? (i := 214) rfl)) rfl
theorem W_346 : Cond.instanceMethod yX3_names ∈ jT := jT_mem (mt_5 (List.mem_of_getElem? (i := 215) rfl)) rfl
theorem W_347 : Cond.selects RX3 yX3_names yX3_names ∈ jT := jT_mem (mt_5 (List.mem_of_getElem? (i := 216) rfl)) rfl
theorem W_348 : Cond.fieldLink RX6 45 "StairsInSteps$Routes" "prices" "[I" ∈ jT := jT_mem (mt_3 (List.mem_of_getElem? (i := 229) rfl)) rfl
theorem W_349 : Cond.fieldLink RX6 38 "StairsInSteps$Routes" "offered" "[J" ∈ jT := jT_mem (mt_3 (List.mem_of_getElem? (i := 227) rfl)) rfl
theorem W_350 : Cond.fieldLink RX6 42 "StairsInSteps$Routes" "offeredPay" "[I" ∈ jT := jT_mem (mt_3 (List.mem_of_getElem? (i := 228) rfl)) rfl
theorem W_351 : Cond.code yX8_pricesInto cX8_pricesInto 11 none ∈ jT := jT_mem (mt_5 (List.mem_of_getElem? (i := 213) rfl)) rfl
theorem W_352 : Cond.methodLink RX6 184 yX8_pricesInto ∈ jT := jT_mem (mt_5 (List.mem_of_getElem? (i := 210) rfl)) rfl
theorem W_353 : Cond.instanceMethod yX8_pricesInto ∈ jT := jT_mem (mt_5 (List.mem_of_getElem? (i := 211) rfl)) rfl
theorem W_354 : Cond.selects RX8 yX8_pricesInto yX8_pricesInto ∈ jT := jT_mem (mt_5 (List.mem_of_getElem? (i := 212) rfl)) rfl
theorem W_355 : Cond.code yX11_isAsked cX11_isAsked 1 (some .boolean) ∈ jT := jT_mem (mt_5 (List.mem_of_getElem? (i := 221) rfl)) rfl
theorem W_356 : Cond.static yX11_isAsked ∈ jT := jT_mem (mt_5 (List.mem_of_getElem? (i := 220) rfl)) rfl
theorem W_357 : Cond.code yX7_leastJoined cX7_leastJoined 15 (some .long) ∈ jT := jT_mem (mt_5 (List.mem_of_getElem? (i := 203) rfl)) rfl
theorem W_358 : Cond.methodLink RX6 176 yX7_leastJoined ∈ jT := jT_mem (mt_5 (List.mem_of_getElem? (i := 200) rfl)) rfl
theorem W_359 : Cond.instanceMethod yX7_leastJoined ∈ jT := jT_mem (mt_5 (List.mem_of_getElem? (i := 201) rfl)) rfl
theorem W_360 : Cond.selects RX7 yX7_leastJoined yX7_leastJoined ∈ jT := jT_mem (mt_5 (List.mem_of_getElem? (i := 202) rfl)) rfl
theorem W_361 : Cond.methodLink RX6 180 yX8_has ∈ jT := jT_mem (mt_5 (List.mem_of_getElem? (i := 209) rfl)) rfl
theorem W_362 : Cond.code yX6_offerBy cX6_offerBy 15 none ∈ jT := jT_mem (mt_5 (List.mem_of_getElem? (i := 199) rfl)) rfl
theorem W_363 : Cond.methodLink RX6 169 yX6_offerBy ∈ jT := jT_mem (mt_5 (List.mem_of_getElem? (i := 196) rfl)) rfl
theorem W_364 : Cond.instanceMethod yX6_offerBy ∈ jT := jT_mem (mt_5 (List.mem_of_getElem? (i := 198) rfl)) rfl
theorem W_365 : Cond.selects RX6 yX6_offerBy yX6_offerBy ∈ jT := jT_mem (mt_0 (List.mem_of_getElem? (i := 43) rfl)) rfl
theorem W_366 : Cond.methodLink RX6 163 yJ7_fill_d0a16 ∈ jT := jT_mem (mt_5 (List.mem_of_getElem? (i := 195) rfl)) rfl
theorem W_367 : Cond.methodLink RX8 55 arraycopyName ∈ jT := jT_mem (mt_2 (List.mem_of_getElem? (i := 233) rfl)) rfl
theorem W_368 : Cond.code yX4_deal cX4_deal 4 none ∈ jT := jT_mem (mt_2 (List.mem_of_getElem? (i := 239) rfl)) rfl
theorem W_369 : Cond.methodLink RX8 67 yX4_deal ∈ jT := jT_mem (mt_2 (List.mem_of_getElem? (i := 236) rfl)) rfl
theorem W_370 : Cond.instanceMethod yX4_deal ∈ jT := jT_mem (mt_2 (List.mem_of_getElem? (i := 237) rfl)) rfl
theorem W_371 : Cond.selects RX4 yX4_deal yX4_deal ∈ jT := jT_mem (mt_2 (List.mem_of_getElem? (i := 238) rfl)) rfl
theorem W_372 : Cond.methodLink RX8 75 yJ6_bitCount_0f7a4 ∈ jT := jT_mem (mt_6 (List.mem_of_getElem? (i := 173) rfl)) rfl
theorem W_373 : Cond.fieldLink RX9 37 "StairsInSteps$StairsReader" "fault" "I" ∈ jT := jT_mem (mt_1 (List.mem_of_getElem? (i := 72) rfl)) rfl
theorem W_374 : Cond.fieldLink RX9 31 "StairsInSteps$StairsReader" "at" "I" ∈ jT := jT_mem (mt_1 (List.mem_of_getElem? (i := 70) rfl)) rfl
theorem W_375 : Cond.fieldLink RX9 34 "StairsInSteps$StairsReader" "limit" "I" ∈ jT := jT_mem (mt_1 (List.mem_of_getElem? (i := 71) rfl)) rfl
theorem W_376 : Cond.methodLink RX9 56 yX10_signAt ∈ jT := jT_mem (mt_2 (List.mem_of_getElem? (i := 195) rfl)) rfl
theorem W_377 : Cond.code yX9_fail cX9_fail 2 (some .boolean) ∈ jT := jT_mem (mt_2 (List.mem_of_getElem? (i := 186) rfl)) rfl
theorem W_378 : Cond.initialized RX9 ∈ jT := jT_mem (mt_1 (List.mem_of_getElem? (i := 3) rfl)) rfl
theorem W_379 : Cond.methodLink RX9 68 yX9_fail ∈ jT := jT_mem (mt_2 (List.mem_of_getElem? (i := 183) rfl)) rfl
theorem W_380 : Cond.instanceMethod yX9_fail ∈ jT := jT_mem (mt_2 (List.mem_of_getElem? (i := 185) rfl)) rfl
theorem W_381 : Cond.selects RX9 yX9_fail yX9_fail ∈ jT := jT_mem (mt_0 (List.mem_of_getElem? (i := 1) rfl)) rfl
theorem W_382 : Cond.code yX9_look cX9_look 2 (some .int) ∈ jT := jT_mem (mt_2 (List.mem_of_getElem? (i := 194) rfl)) rfl
theorem W_383 : Cond.methodLink RX9 64 yX9_look ∈ jT := jT_mem (mt_2 (List.mem_of_getElem? (i := 191) rfl)) rfl
theorem W_384 : Cond.instanceMethod yX9_look ∈ jT := jT_mem (mt_2 (List.mem_of_getElem? (i := 193) rfl)) rfl
theorem W_385 : Cond.selects RX9 yX9_look yX9_look ∈ jT := jT_mem (mt_0 (List.mem_of_getElem? (i := 3) rfl)) rfl
theorem W_386 : Cond.methodLink RX9 72 yX10_isDigit ∈ jT := jT_mem (mt_2 (List.mem_of_getElem? (i := 199) rfl)) rfl
theorem W_387 : Cond.fieldLink RX9 27 "StairsInSteps$StairsReader" "size" "I" ∈ jT := jT_mem (mt_1 (List.mem_of_getElem? (i := 68) rfl)) rfl
theorem W_388 : Cond.code yX9_readNumber cX9_readNumber 7 (some .int) ∈ jT := jT_mem (mt_2 (List.mem_of_getElem? (i := 190) rfl)) rfl
theorem W_389 : Cond.methodLink RX9 78 yX9_readNumber ∈ jT := jT_mem (mt_2 (List.mem_of_getElem? (i := 187) rfl)) rfl
theorem W_390 : Cond.instanceMethod yX9_readNumber ∈ jT := jT_mem (mt_2 (List.mem_of_getElem? (i := 189) rfl)) rfl
theorem W_391 : Cond.selects RX9 yX9_readNumber yX9_readNumber ∈ jT := jT_mem (mt_0 (List.mem_of_getElem? (i := 2) rfl)) rfl
theorem W_392 : Cond.fieldLink RX9 9 "StairsInSteps$StairsReader" "rise" "[I" ∈ jT := jT_mem (mt_1 (List.mem_of_getElem? (i := 58) rfl)) rfl
theorem W_393 : Cond.fieldLink RX9 15 "StairsInSteps$StairsReader" "state" "[I" ∈ jT := jT_mem (mt_1 (List.mem_of_getElem? (i := 60) rfl)) rfl
theorem W_394 : Cond.fieldLink RX9 18 "StairsInSteps$StairsReader" "asks" "[I" ∈ jT := jT_mem (mt_1 (List.mem_of_getElem? (i := 62) rfl)) rfl
theorem W_395 : Cond.fieldLink RX9 21 "StairsInSteps$StairsReader" "widow" "[I" ∈ jT := jT_mem (mt_1 (List.mem_of_getElem? (i := 64) rfl)) rfl
theorem W_396 : Cond.fieldLink RX9 24 "StairsInSteps$StairsReader" "owner" "[I" ∈ jT := jT_mem (mt_1 (List.mem_of_getElem? (i := 66) rfl)) rfl
theorem W_397 : Cond.code yX9_put cX9_put 6 none ∈ jT := jT_mem (mt_2 (List.mem_of_getElem? (i := 220) rfl)) rfl
theorem W_398 : Cond.methodLink RX9 88 yX9_put ∈ jT := jT_mem (mt_2 (List.mem_of_getElem? (i := 217) rfl)) rfl
theorem W_399 : Cond.instanceMethod yX9_put ∈ jT := jT_mem (mt_2 (List.mem_of_getElem? (i := 219) rfl)) rfl
theorem W_400 : Cond.selects RX9 yX9_put yX9_put ∈ jT := jT_mem (mt_0 (List.mem_of_getElem? (i := 7) rfl)) rfl
theorem W_401 : Cond.code yX9_readTimes cX9_readTimes 2 (some .int) ∈ jT := jT_mem (mt_2 (List.mem_of_getElem? (i := 216) rfl)) rfl
theorem W_402 : Cond.methodLink RX9 85 yX9_readTimes ∈ jT := jT_mem (mt_2 (List.mem_of_getElem? (i := 213) rfl)) rfl
theorem W_403 : Cond.instanceMethod yX9_readTimes ∈ jT := jT_mem (mt_2 (List.mem_of_getElem? (i := 215) rfl)) rfl
theorem W_404 : Cond.selects RX9 yX9_readTimes yX9_readTimes ∈ jT := jT_mem (mt_0 (List.mem_of_getElem? (i := 6) rfl)) rfl
theorem W_405 : Cond.code yX9_readMark cX9_readMark 3 (some .boolean) ∈ jT := jT_mem (mt_2 (List.mem_of_getElem? (i := 205) rfl)) rfl
theorem W_406 : Cond.methodLink RX9 60 yX9_readMark ∈ jT := jT_mem (mt_2 (List.mem_of_getElem? (i := 202) rfl)) rfl
theorem W_407 : Cond.instanceMethod yX9_readMark ∈ jT := jT_mem (mt_2 (List.mem_of_getElem? (i := 204) rfl)) rfl
theorem W_408 : Cond.selects RX9 yX9_readMark yX9_readMark ∈ jT := jT_mem (mt_0 (List.mem_of_getElem? (i := 4) rfl)) rfl
theorem W_409 : Cond.code yX9_readFamily cX9_readFamily 3 (some .int) ∈ jT := jT_mem (mt_2 (List.mem_of_getElem? (i := 209) rfl)) rfl
theorem W_410 : Cond.methodLink RX9 82 yX9_readFamily ∈ jT := jT_mem (mt_2 (List.mem_of_getElem? (i := 206) rfl)) rfl
theorem W_411 : Cond.instanceMethod yX9_readFamily ∈ jT := jT_mem (mt_2 (List.mem_of_getElem? (i := 208) rfl)) rfl
theorem W_412 : Cond.selects RX9 yX9_readFamily yX9_readFamily ∈ jT := jT_mem (mt_0 (List.mem_of_getElem? (i := 5) rfl)) rfl
theorem W_413 : Cond.code yX9_readLine cX9_readLine 9 (some .boolean) ∈ jT := jT_mem (mt_2 (List.mem_of_getElem? (i := 182) rfl)) rfl
theorem W_414 : Cond.methodLink RX9 49 yX9_readLine ∈ jT := jT_mem (mt_2 (List.mem_of_getElem? (i := 179) rfl)) rfl
theorem W_415 : Cond.instanceMethod yX9_readLine ∈ jT := jT_mem (mt_2 (List.mem_of_getElem? (i := 181) rfl)) rfl
theorem W_416 : Cond.selects RX9 yX9_readLine yX9_readLine ∈ jT := jT_mem (mt_0 (List.mem_of_getElem? (i := 0) rfl)) rfl
theorem W_417 : Cond.code yX9_readBreak cX9_readBreak 2 (some .boolean) ∈ jT := jT_mem (mt_2 (List.mem_of_getElem? (i := 224) rfl)) rfl
theorem W_418 : Cond.methodLink RX9 53 yX9_readBreak ∈ jT := jT_mem (mt_2 (List.mem_of_getElem? (i := 221) rfl)) rfl
theorem W_419 : Cond.instanceMethod yX9_readBreak ∈ jT := jT_mem (mt_2 (List.mem_of_getElem? (i := 223) rfl)) rfl
theorem W_420 : Cond.selects RX9 yX9_readBreak yX9_readBreak ∈ jT := jT_mem (mt_0 (List.mem_of_getElem? (i := 8) rfl)) rfl
theorem W_421 : Cond.methodLink RX9 43 Lib.Math.min.name ∈ jT := jT_mem (mt_2 (List.mem_of_getElem? (i := 176) rfl)) rfl
theorem W_422 : Cond.fieldLink RX11 12 "StairsInSteps" "text" "LStairsInSteps$Text;" ∈ jT := jT_mem (mt_2 (List.mem_of_getElem? (i := 100) rfl)) rfl
theorem W_423 : Cond.code yX10_append cX10_append 3 (some .boolean) ∈ jT := jT_mem (mt_2 (List.mem_of_getElem? (i := 159) rfl)) rfl
theorem W_424 : Cond.methodLink RX11 90 yX10_append ∈ jT := jT_mem (mt_2 (List.mem_of_getElem? (i := 156) rfl)) rfl
theorem W_425 : Cond.instanceMethod yX10_append ∈ jT := jT_mem (mt_2 (List.mem_of_getElem? (i := 157) rfl)) rfl
theorem W_426 : Cond.selects RX10 yX10_append yX10_append ∈ jT := jT_mem (mt_2 (List.mem_of_getElem? (i := 158) rfl)) rfl
theorem W_427 : Cond.code yX10_cut cX10_cut 2 (some .boolean) ∈ jT := jT_mem (mt_2 (List.mem_of_getElem? (i := 167) rfl)) rfl
theorem W_428 : Cond.methodLink RX11 97 yX10_cut ∈ jT := jT_mem (mt_2 (List.mem_of_getElem? (i := 164) rfl)) rfl
theorem W_429 : Cond.instanceMethod yX10_cut ∈ jT := jT_mem (mt_2 (List.mem_of_getElem? (i := 165) rfl)) rfl
theorem W_430 : Cond.selects RX10 yX10_cut yX10_cut ∈ jT := jT_mem (mt_2 (List.mem_of_getElem? (i := 166) rfl)) rfl
theorem W_431 : Cond.fieldLink RX11 36 "StairsInSteps" "toldPilgrims" "I" ∈ jT := jT_mem (mt_2 (List.mem_of_getElem? (i := 104) rfl)) rfl
theorem W_432 : Cond.fieldLink RX11 32 "StairsInSteps" "pilgrims" "[LStairsInSteps$Pilgrim;" ∈ jT := jT_mem (mt_2 (List.mem_of_getElem? (i := 103) rfl)) rfl
theorem W_433 : Cond.fieldLink RX11 53 "StairsInSteps" "store" "[LStairsInSteps$Kept;" ∈ jT := jT_mem (mt_2 (List.mem_of_getElem? (i := 108) rfl)) rfl
theorem W_434 : Cond.fieldLink RX11 40 "StairsInSteps" "purses" "[I" ∈ jT := jT_mem (mt_2 (List.mem_of_getElem? (i := 105) rfl)) rfl
theorem W_435 : Cond.methodLink RX11 118 yJ7_fill_53178 ∈ jT := jT_mem (mt_3 (List.mem_of_getElem? (i := 20) rfl)) rfl
theorem W_436 : Cond.code yX11_find cX11_find 2 (some (.object "StairsInSteps$Pilgrim")) ∈ jT := jT_mem (mt_3 (List.mem_of_getElem? (i := 15) rfl)) rfl
theorem W_437 : Cond.methodLink RX11 111 yX11_find ∈ jT := jT_mem (mt_3 (List.mem_of_getElem? (i := 12) rfl)) rfl
theorem W_438 : Cond.instanceMethod yX11_find ∈ jT := jT_mem (mt_3 (List.mem_of_getElem? (i := 14) rfl)) rfl
theorem W_439 : Cond.selects RX11 yX11_find yX11_find ∈ jT := jT_mem (mt_0 (List.mem_of_getElem? (i := 11) rfl)) rfl
theorem W_440 : Cond.code yX5_startAnew cX5_startAnew 1 none ∈ jT := jT_mem (mt_3 (List.mem_of_getElem? (i := 19) rfl)) rfl
theorem W_441 : Cond.initialized RX5 ∈ jT := jT_mem (mt_1 (List.mem_of_getElem? (i := 24) rfl)) rfl
theorem W_442 : Cond.methodLink RX11 115 yX5_startAnew ∈ jT := jT_mem (mt_3 (List.mem_of_getElem? (i := 16) rfl)) rfl
theorem W_443 : Cond.instanceMethod yX5_startAnew ∈ jT := jT_mem (mt_3 (List.mem_of_getElem? (i := 17) rfl)) rfl
theorem W_444 : Cond.selects RX5 yX5_startAnew yX5_startAnew ∈ jT := jT_mem (mt_3 (List.mem_of_getElem? (i := 18) rfl)) rfl
theorem W_445 : Cond.fieldLink RX11 19 "StairsInSteps" "reader" "LStairsInSteps$StairsReader;" ∈ jT := jT_mem (mt_2 (List.mem_of_getElem? (i := 101) rfl)) rfl
theorem W_446 : Cond.code yX9_read cX9_read 4 (some .int) ∈ jT := jT_mem (mt_2 (List.mem_of_getElem? (i := 175) rfl)) rfl
theorem W_447 : Cond.methodLink RX11 100 yX9_read ∈ jT := jT_mem (mt_2 (List.mem_of_getElem? (i := 172) rfl)) rfl
theorem W_448 : Cond.instanceMethod yX9_read ∈ jT := jT_mem (mt_2 (List.mem_of_getElem? (i := 173) rfl)) rfl
theorem W_449 : Cond.selects RX9 yX9_read yX9_read ∈ jT := jT_mem (mt_2 (List.mem_of_getElem? (i := 174) rfl)) rfl
theorem W_450 : Cond.code yX10_clear cX10_clear 1 none ∈ jT := jT_mem (mt_2 (List.mem_of_getElem? (i := 228) rfl)) rfl
theorem W_451 : Cond.methodLink RX11 104 yX10_clear ∈ jT := jT_mem (mt_2 (List.mem_of_getElem? (i := 225) rfl)) rfl
theorem W_452 : Cond.instanceMethod yX10_clear ∈ jT := jT_mem (mt_2 (List.mem_of_getElem? (i := 226) rfl)) rfl
theorem W_453 : Cond.selects RX10 yX10_clear yX10_clear ∈ jT := jT_mem (mt_2 (List.mem_of_getElem? (i := 227) rfl)) rfl
theorem W_454 : Cond.fieldLink RX11 26 "StairsInSteps" "flight" "LStairsInSteps$Stairs;" ∈ jT := jT_mem (mt_2 (List.mem_of_getElem? (i := 102) rfl)) rfl
theorem W_455 : Cond.code yX8_build cX8_build 2 none ∈ jT := jT_mem (mt_2 (List.mem_of_getElem? (i := 232) rfl)) rfl
theorem W_456 : Cond.methodLink RX11 107 yX8_build ∈ jT := jT_mem (mt_2 (List.mem_of_getElem? (i := 229) rfl)) rfl
theorem W_457 : Cond.instanceMethod yX8_build ∈ jT := jT_mem (mt_2 (List.mem_of_getElem? (i := 230) rfl)) rfl
theorem W_458 : Cond.selects RX8 yX8_build yX8_build ∈ jT := jT_mem (mt_2 (List.mem_of_getElem? (i := 231) rfl)) rfl
theorem W_459 : Cond.code yX3_read cX3_read 3 (some .int) ∈ jT := jT_mem (mt_3 (List.mem_of_getElem? (i := 28) rfl)) rfl
theorem W_460 : Cond.methodLink RX11 132 yX3_read ∈ jT := jT_mem (mt_3 (List.mem_of_getElem? (i := 25) rfl)) rfl
theorem W_461 : Cond.instanceMethod yX3_read ∈ jT := jT_mem (mt_3 (List.mem_of_getElem? (i := 26) rfl)) rfl
theorem W_462 : Cond.selects RX3 yX3_read yX3_read ∈ jT := jT_mem (mt_3 (List.mem_of_getElem? (i := 27) rfl)) rfl
theorem W_463 : Cond.methodLink RX11 138 yX8_has ∈ jT := jT_mem (mt_3 (List.mem_of_getElem? (i := 162) rfl)) rfl
theorem W_464 : Cond.methodLink RX11 164 yX4_mainOf ∈ jT := jT_mem (mt_4 (List.mem_of_getElem? (i := 135) rfl)) rfl
theorem W_465 : Cond.classLink RX11 141 "java/util/NoSuchElementException" ∈ jT := jT_mem (mt_6 (List.mem_of_getElem? (i := 182) rfl)) rfl
theorem W_466 : Cond.initialized "java/util/NoSuchElementException" ∈ jT := jT_mem (mt_1 (List.mem_of_getElem? (i := 23) rfl)) rfl
theorem W_467 : Cond.methodLink RX11 253 Lib.Math.min.name ∈ jT := jT_mem (mt_3 (List.mem_of_getElem? (i := 173) rfl)) rfl
theorem W_468 : Cond.methodLink RX11 188 Lib.Math.max.name ∈ jT := jT_mem (mt_3 (List.mem_of_getElem? (i := 174) rfl)) rfl
theorem W_469 : Cond.code yX8_sumOfAsks cX8_sumOfAsks 3 (some .int) ∈ jT := jT_mem (mt_3 (List.mem_of_getElem? (i := 178) rfl)) rfl
theorem W_470 : Cond.methodLink RX11 177 yX8_sumOfAsks ∈ jT := jT_mem (mt_3 (List.mem_of_getElem? (i := 175) rfl)) rfl
theorem W_471 : Cond.instanceMethod yX8_sumOfAsks ∈ jT := jT_mem (mt_3 (List.mem_of_getElem? (i := 176) rfl)) rfl
theorem W_472 : Cond.selects RX8 yX8_sumOfAsks yX8_sumOfAsks ∈ jT := jT_mem (mt_3 (List.mem_of_getElem? (i := 177) rfl)) rfl
theorem W_473 : Cond.code yX11_entryOf cX11_entryOf 3 (some .int) ∈ jT := jT_mem (mt_3 (List.mem_of_getElem? (i := 172) rfl)) rfl
theorem W_474 : Cond.methodLink RX11 173 yX11_entryOf ∈ jT := jT_mem (mt_3 (List.mem_of_getElem? (i := 170) rfl)) rfl
theorem W_475 : Cond.static yX11_entryOf ∈ jT := jT_mem (mt_3 (List.mem_of_getElem? (i := 171) rfl)) rfl
theorem W_476 : Cond.methodLink RX11 181 yX11_isFamily ∈ jT := jT_mem (mt_3 (List.mem_of_getElem? (i := 183) rfl)) rfl
theorem W_477 : Cond.code yX8_quarrel cX8_quarrel 4 none ∈ jT := jT_mem (mt_3 (List.mem_of_getElem? (i := 187) rfl)) rfl
theorem W_478 : Cond.methodLink RX11 184 yX8_quarrel ∈ jT := jT_mem (mt_3 (List.mem_of_getElem? (i := 184) rfl)) rfl
theorem W_479 : Cond.instanceMethod yX8_quarrel ∈ jT := jT_mem (mt_3 (List.mem_of_getElem? (i := 185) rfl)) rfl
theorem W_480 : Cond.selects RX8 yX8_quarrel yX8_quarrel ∈ jT := jT_mem (mt_3 (List.mem_of_getElem? (i := 186) rfl)) rfl
theorem W_481 : Cond.fieldLink RX11 87 "StairsInSteps" "toldNumbers" "I" ∈ jT := jT_mem (mt_2 (List.mem_of_getElem? (i := 116) rfl)) rfl
theorem W_482 : Cond.fieldLink RX11 83 "StairsInSteps" "told" "[J" ∈ jT := jT_mem (mt_2 (List.mem_of_getElem? (i := 115) rfl)) rfl
theorem W_483 : Cond.code yX11_tellNothing cX11_tellNothing 1 none ∈ jT := jT_mem (mt_4 (List.mem_of_getElem? (i := 94) rfl)) rfl
theorem W_484 : Cond.methodLink RX11 340 yX11_tellNothing ∈ jT := jT_mem (mt_4 (List.mem_of_getElem? (i := 91) rfl)) rfl
theorem W_485 : Cond.instanceMethod yX11_tellNothing ∈ jT := jT_mem (mt_4 (List.mem_of_getElem? (i := 93) rfl)) rfl
theorem W_486 : Cond.selects RX11 yX11_tellNothing yX11_tellNothing ∈ jT := jT_mem (mt_0 (List.mem_of_getElem? (i := 24) rfl)) rfl
theorem W_487 : Cond.code yX11_tellMore cX11_tellMore 3 none ∈ jT := jT_mem (mt_4 (List.mem_of_getElem? (i := 98) rfl)) rfl
theorem W_488 : Cond.methodLink RX11 289 yX11_tellMore ∈ jT := jT_mem (mt_4 (List.mem_of_getElem? (i := 95) rfl)) rfl
theorem W_489 : Cond.instanceMethod yX11_tellMore ∈ jT := jT_mem (mt_4 (List.mem_of_getElem? (i := 97) rfl)) rfl
theorem W_490 : Cond.selects RX11 yX11_tellMore yX11_tellMore ∈ jT := jT_mem (mt_0 (List.mem_of_getElem? (i := 25) rfl)) rfl
theorem W_491 : Cond.code yX11_tellOne cX11_tellOne 3 none ∈ jT := jT_mem (mt_4 (List.mem_of_getElem? (i := 90) rfl)) rfl
theorem W_492 : Cond.methodLink RX11 259 yX11_tellOne ∈ jT := jT_mem (mt_4 (List.mem_of_getElem? (i := 87) rfl)) rfl
theorem W_493 : Cond.instanceMethod yX11_tellOne ∈ jT := jT_mem (mt_4 (List.mem_of_getElem? (i := 89) rfl)) rfl
theorem W_494 : Cond.selects RX11 yX11_tellOne yX11_tellOne ∈ jT := jT_mem (mt_0 (List.mem_of_getElem? (i := 23) rfl)) rfl
theorem W_495 : Cond.code yX5_comesTo cX5_comesTo 2 (some .boolean) ∈ jT := jT_mem (mt_4 (List.mem_of_getElem? (i := 77) rfl)) rfl
theorem W_496 : Cond.methodLink RX11 224 yX5_comesTo ∈ jT := jT_mem (mt_4 (List.mem_of_getElem? (i := 74) rfl)) rfl
theorem W_497 : Cond.instanceMethod yX5_comesTo ∈ jT := jT_mem (mt_4 (List.mem_of_getElem? (i := 75) rfl)) rfl
theorem W_498 : Cond.selects RX5 yX5_comesTo yX5_comesTo ∈ jT := jT_mem (mt_4 (List.mem_of_getElem? (i := 76) rfl)) rfl
theorem W_499 : Cond.methodLink RX11 227 yX8_effortOfMove ∈ jT := jT_mem (mt_4 (List.mem_of_getElem? (i := 78) rfl)) rfl
theorem W_500 : Cond.code yX11_tellTwo cX11_tellTwo 5 none ∈ jT := jT_mem (mt_4 (List.mem_of_getElem? (i := 86) rfl)) rfl
theorem W_501 : Cond.methodLink RX11 231 yX11_tellTwo ∈ jT := jT_mem (mt_4 (List.mem_of_getElem? (i := 83) rfl)) rfl
theorem W_502 : Cond.instanceMethod yX11_tellTwo ∈ jT := jT_mem (mt_4 (List.mem_of_getElem? (i := 85) rfl)) rfl
theorem W_503 : Cond.selects RX11 yX11_tellTwo yX11_tellTwo ∈ jT := jT_mem (mt_0 (List.mem_of_getElem? (i := 22) rfl)) rfl
theorem W_504 : Cond.methodLink RX11 235 yX8_costOfMove ∈ jT := jT_mem (mt_4 (List.mem_of_getElem? (i := 99) rfl)) rfl
theorem W_505 : Cond.fieldLink RX11 44 "StairsInSteps" "division" "[I" ∈ jT := jT_mem (mt_2 (List.mem_of_getElem? (i := 106) rfl)) rfl
theorem W_506 : Cond.fieldLink RX11 47 "StairsInSteps" "remainders" "[I" ∈ jT := jT_mem (mt_2 (List.mem_of_getElem? (i := 107) rfl)) rfl
theorem W_507 : Cond.code yX4_shareInto cX4_shareInto 4 none ∈ jT := jT_mem (mt_4 (List.mem_of_getElem? (i := 152) rfl)) rfl
theorem W_508 : Cond.methodLink RX11 380 yX4_shareInto ∈ jT := jT_mem (mt_4 (List.mem_of_getElem? (i := 149) rfl)) rfl
theorem W_509 : Cond.instanceMethod yX4_shareInto ∈ jT := jT_mem (mt_4 (List.mem_of_getElem? (i := 150) rfl)) rfl
theorem W_510 : Cond.selects RX4 yX4_shareInto yX4_shareInto ∈ jT := jT_mem (mt_4 (List.mem_of_getElem? (i := 151) rfl)) rfl
theorem W_511 : Cond.code yX11_divide cX11_divide 7 none ∈ jT := jT_mem (mt_4 (List.mem_of_getElem? (i := 160) rfl)) rfl
theorem W_512 : Cond.methodLink RX11 376 yX11_divide ∈ jT := jT_mem (mt_4 (List.mem_of_getElem? (i := 157) rfl)) rfl
theorem W_513 : Cond.instanceMethod yX11_divide ∈ jT := jT_mem (mt_4 (List.mem_of_getElem? (i := 159) rfl)) rfl
theorem W_514 : Cond.selects RX11 yX11_divide yX11_divide ∈ jT := jT_mem (mt_0 (List.mem_of_getElem? (i := 29) rfl)) rfl
theorem W_515 : Cond.methodLink RX11 245 yX8_priceOf ∈ jT := jT_mem (mt_4 (List.mem_of_getElem? (i := 144) rfl)) rfl
theorem W_516 : Cond.code yX11_lead cX11_lead 5 none ∈ jT := jT_mem (mt_4 (List.mem_of_getElem? (i := 148) rfl)) rfl
theorem W_517 : Cond.methodLink RX11 249 yX11_lead ∈ jT := jT_mem (mt_4 (List.mem_of_getElem? (i := 145) rfl)) rfl
theorem W_518 : Cond.instanceMethod yX11_lead ∈ jT := jT_mem (mt_4 (List.mem_of_getElem? (i := 147) rfl)) rfl
theorem W_519 : Cond.selects RX11 yX11_lead yX11_lead ∈ jT := jT_mem (mt_0 (List.mem_of_getElem? (i := 28) rfl)) rfl
theorem W_520 : Cond.code yX5_vowsAgainst cX5_vowsAgainst 2 (some .boolean) ∈ jT := jT_mem (mt_4 (List.mem_of_getElem? (i := 139) rfl)) rfl
theorem W_521 : Cond.methodLink RX11 238 yX5_vowsAgainst ∈ jT := jT_mem (mt_4 (List.mem_of_getElem? (i := 136) rfl)) rfl
theorem W_522 : Cond.instanceMethod yX5_vowsAgainst ∈ jT := jT_mem (mt_4 (List.mem_of_getElem? (i := 137) rfl)) rfl
theorem W_523 : Cond.selects RX5 yX5_vowsAgainst yX5_vowsAgainst ∈ jT := jT_mem (mt_4 (List.mem_of_getElem? (i := 138) rfl)) rfl
theorem W_524 : Cond.code yX11_payForMove cX11_payForMove 5 none ∈ jT := jT_mem (mt_4 (List.mem_of_getElem? (i := 143) rfl)) rfl
theorem W_525 : Cond.methodLink RX11 241 yX11_payForMove ∈ jT := jT_mem (mt_4 (List.mem_of_getElem? (i := 140) rfl)) rfl
theorem W_526 : Cond.instanceMethod yX11_payForMove ∈ jT := jT_mem (mt_4 (List.mem_of_getElem? (i := 142) rfl)) rfl
theorem W_527 : Cond.selects RX11 yX11_payForMove yX11_payForMove ∈ jT := jT_mem (mt_0 (List.mem_of_getElem? (i := 27) rfl)) rfl
theorem W_528 : Cond.methodLink RX11 256 yX4_sumOf ∈ jT := jT_mem (mt_4 (List.mem_of_getElem? (i := 173) rfl)) rfl
theorem W_529 : Cond.methodLink RX11 292 yX11_costIn ∈ jT := jT_mem (mt_5 (List.mem_of_getElem? (i := 53) rfl)) rfl
theorem W_530 : Cond.methodLink RX11 285 yX11_treads ∈ jT := jT_mem (mt_5 (List.mem_of_getElem? (i := 49) rfl)) rfl
theorem W_531 : Cond.code yX6_lay cX6_lay 6 none ∈ jT := jT_mem (mt_4 (List.mem_of_getElem? (i := 184) rfl)) rfl
theorem W_532 : Cond.methodLink RX11 267 yX6_lay ∈ jT := jT_mem (mt_4 (List.mem_of_getElem? (i := 181) rfl)) rfl
theorem W_533 : Cond.instanceMethod yX6_lay ∈ jT := jT_mem (mt_4 (List.mem_of_getElem? (i := 182) rfl)) rfl
theorem W_534 : Cond.selects RX6 yX6_lay yX6_lay ∈ jT := jT_mem (mt_4 (List.mem_of_getElem? (i := 183) rfl)) rfl
theorem W_535 : Cond.code yX6_cheapest cX6_cheapest 1 (some .long) ∈ jT := jT_mem (mt_4 (List.mem_of_getElem? (i := 205) rfl)) rfl
theorem W_536 : Cond.methodLink RX11 272 yX6_cheapest ∈ jT := jT_mem (mt_4 (List.mem_of_getElem? (i := 202) rfl)) rfl
theorem W_537 : Cond.instanceMethod yX6_cheapest ∈ jT := jT_mem (mt_4 (List.mem_of_getElem? (i := 203) rfl)) rfl
theorem W_538 : Cond.selects RX6 yX6_cheapest yX6_cheapest ∈ jT := jT_mem (mt_4 (List.mem_of_getElem? (i := 204) rfl)) rfl
theorem W_539 : Cond.constantLong RX11 276 (9223372036854775807) ∈ jT := jT_mem (mt_5 (List.mem_of_getElem? (i := 44) rfl)) rfl
theorem W_540 : Cond.methodLink RX11 278 yX11_effortIn ∈ jT := jT_mem (mt_5 (List.mem_of_getElem? (i := 45) rfl)) rfl
theorem W_541 : Cond.code yX11_movesIn cX11_movesIn 2 (some .int) ∈ jT := jT_mem (mt_5 (List.mem_of_getElem? (i := 48) rfl)) rfl
theorem W_542 : Cond.methodLink RX11 282 yX11_movesIn ∈ jT := jT_mem (mt_5 (List.mem_of_getElem? (i := 46) rfl)) rfl
theorem W_543 : Cond.static yX11_movesIn ∈ jT := jT_mem (mt_5 (List.mem_of_getElem? (i := 47) rfl)) rfl
theorem W_544 : Cond.fieldLink RX11 60 "StairsInSteps" "byCost" "LStairsInSteps$ByCost;" ∈ jT := jT_mem (mt_2 (List.mem_of_getElem? (i := 109) rfl)) rfl
theorem W_545 : Cond.code yX0_easiest cX0_easiest 3 (some .long) ∈ jT := jT_mem (mt_5 (List.mem_of_getElem? (i := 61) rfl)) rfl
theorem W_546 : Cond.methodLink RX11 295 yX0_easiest ∈ jT := jT_mem (mt_5 (List.mem_of_getElem? (i := 58) rfl)) rfl
theorem W_547 : Cond.instanceMethod yX0_easiest ∈ jT := jT_mem (mt_5 (List.mem_of_getElem? (i := 59) rfl)) rfl
theorem W_548 : Cond.selects RX0 yX0_easiest yX0_easiest ∈ jT := jT_mem (mt_5 (List.mem_of_getElem? (i := 60) rfl)) rfl
theorem W_549 : Cond.constantLong RX11 299 (-1) ∈ jT := jT_mem (mt_5 (List.mem_of_getElem? (i := 73) rfl)) rfl
theorem W_550 : Cond.code yX0_tally cX0_tally 9 (some .long) ∈ jT := jT_mem (mt_5 (List.mem_of_getElem? (i := 77) rfl)) rfl
theorem W_551 : Cond.methodLink RX11 301 yX0_tally ∈ jT := jT_mem (mt_5 (List.mem_of_getElem? (i := 74) rfl)) rfl
theorem W_552 : Cond.instanceMethod yX0_tally ∈ jT := jT_mem (mt_5 (List.mem_of_getElem? (i := 75) rfl)) rfl
theorem W_553 : Cond.selects RX0 yX0_tally yX0_tally ∈ jT := jT_mem (mt_5 (List.mem_of_getElem? (i := 76) rfl)) rfl
theorem W_554 : Cond.code yX11_tellFraction cX11_tellFraction 12 none ∈ jT := jT_mem (mt_5 (List.mem_of_getElem? (i := 116) rfl)) rfl
theorem W_555 : Cond.methodLink RX11 309 yX11_tellFraction ∈ jT := jT_mem (mt_5 (List.mem_of_getElem? (i := 113) rfl)) rfl
theorem W_556 : Cond.instanceMethod yX11_tellFraction ∈ jT := jT_mem (mt_5 (List.mem_of_getElem? (i := 115) rfl)) rfl
theorem W_557 : Cond.selects RX11 yX11_tellFraction yX11_tellFraction ∈ jT := jT_mem (mt_0 (List.mem_of_getElem? (i := 36) rfl)) rfl
theorem W_558 : Cond.code yX0_firstAbove cX0_firstAbove 6 (some .long) ∈ jT := jT_mem (mt_5 (List.mem_of_getElem? (i := 128) rfl)) rfl
theorem W_559 : Cond.methodLink RX11 312 yX0_firstAbove ∈ jT := jT_mem (mt_5 (List.mem_of_getElem? (i := 125) rfl)) rfl
theorem W_560 : Cond.instanceMethod yX0_firstAbove ∈ jT := jT_mem (mt_5 (List.mem_of_getElem? (i := 126) rfl)) rfl
theorem W_561 : Cond.selects RX0 yX0_firstAbove yX0_firstAbove ∈ jT := jT_mem (mt_5 (List.mem_of_getElem? (i := 127) rfl)) rfl
theorem W_562 : Cond.fieldLink RX11 71 "StairsInSteps" "sumsNow" "[I" ∈ jT := jT_mem (mt_2 (List.mem_of_getElem? (i := 111) rfl)) rfl
theorem W_563 : Cond.code yX11_sumUp cX11_sumUp 7 none ∈ jT := jT_mem (mt_5 (List.mem_of_getElem? (i := 149) rfl)) rfl
theorem W_564 : Cond.methodLink RX11 316 yX11_sumUp ∈ jT := jT_mem (mt_5 (List.mem_of_getElem? (i := 146) rfl)) rfl
theorem W_565 : Cond.instanceMethod yX11_sumUp ∈ jT := jT_mem (mt_5 (List.mem_of_getElem? (i := 148) rfl)) rfl
theorem W_566 : Cond.selects RX11 yX11_sumUp yX11_sumUp ∈ jT := jT_mem (mt_0 (List.mem_of_getElem? (i := 37) rfl)) rfl
theorem W_567 : Cond.fieldLink RX11 74 "StairsInSteps" "sumsThen" "[I" ∈ jT := jT_mem (mt_2 (List.mem_of_getElem? (i := 112) rfl)) rfl
theorem W_568 : Cond.code yX11_tellDifferences cX11_tellDifferences 3 (some .int) ∈ jT := jT_mem (mt_5 (List.mem_of_getElem? (i := 157) rfl)) rfl
theorem W_569 : Cond.methodLink RX11 320 yX11_tellDifferences ∈ jT := jT_mem (mt_5 (List.mem_of_getElem? (i := 154) rfl)) rfl
theorem W_570 : Cond.instanceMethod yX11_tellDifferences ∈ jT := jT_mem (mt_5 (List.mem_of_getElem? (i := 156) rfl)) rfl
theorem W_571 : Cond.selects RX11 yX11_tellDifferences yX11_tellDifferences ∈ jT := jT_mem (mt_0 (List.mem_of_getElem? (i := 38) rfl)) rfl
theorem W_572 : Cond.fieldLink RX11 77 "StairsInSteps" "paid" "[I" ∈ jT := jT_mem (mt_2 (List.mem_of_getElem? (i := 113) rfl)) rfl
theorem W_573 : Cond.fieldLink RX11 80 "StairsInSteps" "climbers" "[I" ∈ jT := jT_mem (mt_2 (List.mem_of_getElem? (i := 114) rfl)) rfl
theorem W_574 : Cond.code yX6_addOffers cX6_addOffers 6 none ∈ jT := jT_mem (mt_5 (List.mem_of_getElem? (i := 194) rfl)) rfl
theorem W_575 : Cond.methodLink RX11 454 yX6_addOffers ∈ jT := jT_mem (mt_5 (List.mem_of_getElem? (i := 191) rfl)) rfl
theorem W_576 : Cond.instanceMethod yX6_addOffers ∈ jT := jT_mem (mt_5 (List.mem_of_getElem? (i := 192) rfl)) rfl
theorem W_577 : Cond.selects RX6 yX6_addOffers yX6_addOffers ∈ jT := jT_mem (mt_5 (List.mem_of_getElem? (i := 193) rfl)) rfl
theorem W_578 : Cond.code yX11_weigh cX11_weigh 4 none ∈ jT := jT_mem (mt_5 (List.mem_of_getElem? (i := 190) rfl)) rfl
theorem W_579 : Cond.methodLink RX11 451 yX11_weigh ∈ jT := jT_mem (mt_5 (List.mem_of_getElem? (i := 187) rfl)) rfl
theorem W_580 : Cond.instanceMethod yX11_weigh ∈ jT := jT_mem (mt_5 (List.mem_of_getElem? (i := 189) rfl)) rfl
theorem W_581 : Cond.selects RX11 yX11_weigh yX11_weigh ∈ jT := jT_mem (mt_0 (List.mem_of_getElem? (i := 42) rfl)) rfl
theorem W_582 : Cond.code yX6_survey cX6_survey 2 none ∈ jT := jT_mem (mt_5 (List.mem_of_getElem? (i := 177) rfl)) rfl
theorem W_583 : Cond.methodLink RX11 445 yX6_survey ∈ jT := jT_mem (mt_5 (List.mem_of_getElem? (i := 174) rfl)) rfl
theorem W_584 : Cond.instanceMethod yX6_survey ∈ jT := jT_mem (mt_5 (List.mem_of_getElem? (i := 175) rfl)) rfl
theorem W_585 : Cond.selects RX6 yX6_survey yX6_survey ∈ jT := jT_mem (mt_5 (List.mem_of_getElem? (i := 176) rfl)) rfl
theorem W_586 : Cond.methodLink RX11 448 yX6_raiseTo ∈ jT := jT_mem (mt_5 (List.mem_of_getElem? (i := 186) rfl)) rfl
theorem W_587 : Cond.code yX11_weighAlone cX11_weighAlone 4 none ∈ jT := jT_mem (mt_5 (List.mem_of_getElem? (i := 173) rfl)) rfl
theorem W_588 : Cond.methodLink RX11 323 yX11_weighAlone ∈ jT := jT_mem (mt_5 (List.mem_of_getElem? (i := 170) rfl)) rfl
theorem W_589 : Cond.instanceMethod yX11_weighAlone ∈ jT := jT_mem (mt_5 (List.mem_of_getElem? (i := 172) rfl)) rfl
theorem W_590 : Cond.selects RX11 yX11_weighAlone yX11_weighAlone ∈ jT := jT_mem (mt_0 (List.mem_of_getElem? (i := 39) rfl)) rfl
theorem W_591 : Cond.methodLink RX11 327 yX8_inFeud ∈ jT := jT_mem (mt_5 (List.mem_of_getElem? (i := 227) rfl)) rfl
theorem W_592 : Cond.methodLink RX11 331 arraycopyName ∈ jT := jT_mem (mt_5 (List.mem_of_getElem? (i := 228) rfl)) rfl
theorem W_593 : Cond.code yX8_mindsFeud cX8_mindsFeud 8 (some .boolean) ∈ jT := jT_mem (mt_5 (List.mem_of_getElem? (i := 232) rfl)) rfl
theorem W_594 : Cond.methodLink RX11 337 yX8_mindsFeud ∈ jT := jT_mem (mt_5 (List.mem_of_getElem? (i := 229) rfl)) rfl
theorem W_595 : Cond.instanceMethod yX8_mindsFeud ∈ jT := jT_mem (mt_5 (List.mem_of_getElem? (i := 230) rfl)) rfl
theorem W_596 : Cond.selects RX8 yX8_mindsFeud yX8_mindsFeud ∈ jT := jT_mem (mt_5 (List.mem_of_getElem? (i := 231) rfl)) rfl
theorem W_597 : Cond.methodLink RX11 343 yX11_isAsked ∈ jT := jT_mem (mt_6 (List.mem_of_getElem? (i := 1) rfl)) rfl
theorem W_598 : Cond.code yX11_mostPaid cX11_mostPaid 3 (some .int) ∈ jT := jT_mem (mt_6 (List.mem_of_getElem? (i := 9) rfl)) rfl
theorem W_599 : Cond.methodLink RX11 346 yX11_mostPaid ∈ jT := jT_mem (mt_6 (List.mem_of_getElem? (i := 6) rfl)) rfl
theorem W_600 : Cond.instanceMethod yX11_mostPaid ∈ jT := jT_mem (mt_6 (List.mem_of_getElem? (i := 8) rfl)) rfl
theorem W_601 : Cond.selects RX11 yX11_mostPaid yX11_mostPaid ∈ jT := jT_mem (mt_0 (List.mem_of_getElem? (i := 44) rfl)) rfl
theorem W_602 : Cond.methodLink RX11 464 yX6_raiseOne ∈ jT := jT_mem (mt_6 (List.mem_of_getElem? (i := 22) rfl)) rfl
theorem W_603 : Cond.methodLink RX11 467 yX6_measure ∈ jT := jT_mem (mt_6 (List.mem_of_getElem? (i := 27) rfl)) rfl
theorem W_604 : Cond.code yX11_climbAllTo cX11_climbAllTo 4 none ∈ jT := jT_mem (mt_6 (List.mem_of_getElem? (i := 21) rfl)) rfl
theorem W_605 : Cond.methodLink RX11 458 yX11_climbAllTo ∈ jT := jT_mem (mt_6 (List.mem_of_getElem? (i := 18) rfl)) rfl
theorem W_606 : Cond.instanceMethod yX11_climbAllTo ∈ jT := jT_mem (mt_6 (List.mem_of_getElem? (i := 20) rfl)) rfl
theorem W_607 : Cond.selects RX11 yX11_climbAllTo yX11_climbAllTo ∈ jT := jT_mem (mt_0 (List.mem_of_getElem? (i := 46) rfl)) rfl
theorem W_608 : Cond.code yX11_measureAllAt cX11_measureAllAt 4 none ∈ jT := jT_mem (mt_6 (List.mem_of_getElem? (i := 26) rfl)) rfl
theorem W_609 : Cond.methodLink RX11 461 yX11_measureAllAt ∈ jT := jT_mem (mt_6 (List.mem_of_getElem? (i := 23) rfl)) rfl
theorem W_610 : Cond.instanceMethod yX11_measureAllAt ∈ jT := jT_mem (mt_6 (List.mem_of_getElem? (i := 25) rfl)) rfl
theorem W_611 : Cond.selects RX11 yX11_measureAllAt yX11_measureAllAt ∈ jT := jT_mem (mt_0 (List.mem_of_getElem? (i := 47) rfl)) rfl
theorem W_612 : Cond.code yX11_haggle cX11_haggle 5 (some .boolean) ∈ jT := jT_mem (mt_6 (List.mem_of_getElem? (i := 17) rfl)) rfl
theorem W_613 : Cond.methodLink RX11 349 yX11_haggle ∈ jT := jT_mem (mt_6 (List.mem_of_getElem? (i := 14) rfl)) rfl
theorem W_614 : Cond.instanceMethod yX11_haggle ∈ jT := jT_mem (mt_6 (List.mem_of_getElem? (i := 16) rfl)) rfl
theorem W_615 : Cond.selects RX11 yX11_haggle yX11_haggle ∈ jT := jT_mem (mt_0 (List.mem_of_getElem? (i := 45) rfl)) rfl
theorem W_616 : Cond.methodLink RX11 353 yX4_shareOf ∈ jT := jT_mem (mt_6 (List.mem_of_getElem? (i := 32) rfl)) rfl
theorem W_617 : Cond.code yX4_remember cX4_remember 2 none ∈ jT := jT_mem (mt_6 (List.mem_of_getElem? (i := 40) rfl)) rfl
theorem W_618 : Cond.methodLink RX11 356 yX4_remember ∈ jT := jT_mem (mt_6 (List.mem_of_getElem? (i := 37) rfl)) rfl
theorem W_619 : Cond.instanceMethod yX4_remember ∈ jT := jT_mem (mt_6 (List.mem_of_getElem? (i := 38) rfl)) rfl
theorem W_620 : Cond.selects RX4 yX4_remember yX4_remember ∈ jT := jT_mem (mt_6 (List.mem_of_getElem? (i := 39) rfl)) rfl
theorem W_621 : Cond.methodLink RX11 359 yX4_move ∈ jT := jT_mem (mt_6 (List.mem_of_getElem? (i := 42) rfl)) rfl
theorem W_622 : Cond.code yX4_inherit cX4_inherit 8 none ∈ jT := jT_mem (mt_6 (List.mem_of_getElem? (i := 53) rfl)) rfl
theorem W_623 : Cond.methodLink RX11 363 yX4_inherit ∈ jT := jT_mem (mt_6 (List.mem_of_getElem? (i := 50) rfl)) rfl
theorem W_624 : Cond.instanceMethod yX4_inherit ∈ jT := jT_mem (mt_6 (List.mem_of_getElem? (i := 51) rfl)) rfl
theorem W_625 : Cond.selects RX4 yX4_inherit yX4_inherit ∈ jT := jT_mem (mt_6 (List.mem_of_getElem? (i := 52) rfl)) rfl
theorem W_626 : Cond.code yX4_takeBack cX4_takeBack 2 (some .boolean) ∈ jT := jT_mem (mt_6 (List.mem_of_getElem? (i := 68) rfl)) rfl
theorem W_627 : Cond.methodLink RX11 366 yX4_takeBack ∈ jT := jT_mem (mt_6 (List.mem_of_getElem? (i := 65) rfl)) rfl
theorem W_628 : Cond.instanceMethod yX4_takeBack ∈ jT := jT_mem (mt_6 (List.mem_of_getElem? (i := 66) rfl)) rfl
theorem W_629 : Cond.selects RX4 yX4_takeBack yX4_takeBack ∈ jT := jT_mem (mt_6 (List.mem_of_getElem? (i := 67) rfl)) rfl
theorem W_630 : Cond.code yX4_sumInto cX4_sumInto 3 none ∈ jT := jT_mem (mt_6 (List.mem_of_getElem? (i := 76) rfl)) rfl
theorem W_631 : Cond.methodLink RX11 372 yX4_sumInto ∈ jT := jT_mem (mt_6 (List.mem_of_getElem? (i := 73) rfl)) rfl
theorem W_632 : Cond.instanceMethod yX4_sumInto ∈ jT := jT_mem (mt_6 (List.mem_of_getElem? (i := 74) rfl)) rfl
theorem W_633 : Cond.selects RX4 yX4_sumInto yX4_sumInto ∈ jT := jT_mem (mt_6 (List.mem_of_getElem? (i := 75) rfl)) rfl
theorem W_634 : Cond.methodLink RX11 389 yJ6_bitCount_0f7a4 ∈ jT := jT_mem (mt_6 (List.mem_of_getElem? (i := 90) rfl)) rfl
theorem W_635 : Cond.code yX11_fewestOver cX11_fewestOver 6 (some .int) ∈ jT := jT_mem (mt_6 (List.mem_of_getElem? (i := 89) rfl)) rfl
theorem W_636 : Cond.methodLink RX11 386 yX11_fewestOver ∈ jT := jT_mem (mt_6 (List.mem_of_getElem? (i := 86) rfl)) rfl
theorem W_637 : Cond.instanceMethod yX11_fewestOver ∈ jT := jT_mem (mt_6 (List.mem_of_getElem? (i := 88) rfl)) rfl
theorem W_638 : Cond.selects RX11 yX11_fewestOver yX11_fewestOver ∈ jT := jT_mem (mt_0 (List.mem_of_getElem? (i := 48) rfl)) rfl
theorem W_639 : Cond.code yX4_mainsInto cX4_mainsInto 4 none ∈ jT := jT_mem (mt_6 (List.mem_of_getElem? (i := 85) rfl)) rfl
theorem W_640 : Cond.methodLink RX11 383 yX4_mainsInto ∈ jT := jT_mem (mt_6 (List.mem_of_getElem? (i := 82) rfl)) rfl
theorem W_641 : Cond.instanceMethod yX4_mainsInto ∈ jT := jT_mem (mt_6 (List.mem_of_getElem? (i := 83) rfl)) rfl
theorem W_642 : Cond.selects RX4 yX4_mainsInto yX4_mainsInto ∈ jT := jT_mem (mt_6 (List.mem_of_getElem? (i := 84) rfl)) rfl
theorem W_643 : Cond.fieldLink RX11 67 "StairsInSteps" "revel" "LStairsInSteps$Feast;" ∈ jT := jT_mem (mt_2 (List.mem_of_getElem? (i := 110) rfl)) rfl
theorem W_644 : Cond.code yX1_run cX1_run 4 none ∈ jT := jT_mem (mt_6 (List.mem_of_getElem? (i := 112) rfl)) rfl
theorem W_645 : Cond.methodLink RX11 477 yX1_run ∈ jT := jT_mem (mt_6 (List.mem_of_getElem? (i := 109) rfl)) rfl
theorem W_646 : Cond.instanceMethod yX1_run ∈ jT := jT_mem (mt_6 (List.mem_of_getElem? (i := 110) rfl)) rfl
theorem W_647 : Cond.selects RX1 yX1_run yX1_run ∈ jT := jT_mem (mt_6 (List.mem_of_getElem? (i := 111) rfl)) rfl
theorem W_648 : Cond.code yX1_invite cX1_invite 4 none ∈ jT := jT_mem (mt_6 (List.mem_of_getElem? (i := 108) rfl)) rfl
theorem W_649 : Cond.methodLink RX11 473 yX1_invite ∈ jT := jT_mem (mt_6 (List.mem_of_getElem? (i := 105) rfl)) rfl
theorem W_650 : Cond.instanceMethod yX1_invite ∈ jT := jT_mem (mt_6 (List.mem_of_getElem? (i := 106) rfl)) rfl
theorem W_651 : Cond.selects RX1 yX1_invite yX1_invite ∈ jT := jT_mem (mt_6 (List.mem_of_getElem? (i := 107) rfl)) rfl
theorem W_652 : Cond.code yX1_prepare cX1_prepare 3 none ∈ jT := jT_mem (mt_6 (List.mem_of_getElem? (i := 102) rfl)) rfl
theorem W_653 : Cond.methodLink RX11 470 yX1_prepare ∈ jT := jT_mem (mt_6 (List.mem_of_getElem? (i := 99) rfl)) rfl
theorem W_654 : Cond.instanceMethod yX1_prepare ∈ jT := jT_mem (mt_6 (List.mem_of_getElem? (i := 100) rfl)) rfl
theorem W_655 : Cond.selects RX1 yX1_prepare yX1_prepare ∈ jT := jT_mem (mt_6 (List.mem_of_getElem? (i := 101) rfl)) rfl
theorem W_656 : Cond.code yX11_hold cX11_hold 6 none ∈ jT := jT_mem (mt_6 (List.mem_of_getElem? (i := 98) rfl)) rfl
theorem W_657 : Cond.methodLink RX11 394 yX11_hold ∈ jT := jT_mem (mt_6 (List.mem_of_getElem? (i := 95) rfl)) rfl
theorem W_658 : Cond.instanceMethod yX11_hold ∈ jT := jT_mem (mt_6 (List.mem_of_getElem? (i := 97) rfl)) rfl
theorem W_659 : Cond.selects RX11 yX11_hold yX11_hold ∈ jT := jT_mem (mt_0 (List.mem_of_getElem? (i := 49) rfl)) rfl
theorem W_660 : Cond.code yX1_longestWaiting cX1_longestWaiting 3 (some .int) ∈ jT := jT_mem (mt_6 (List.mem_of_getElem? (i := 126) rfl)) rfl
theorem W_661 : Cond.methodLink RX11 397 yX1_longestWaiting ∈ jT := jT_mem (mt_6 (List.mem_of_getElem? (i := 123) rfl)) rfl
theorem W_662 : Cond.instanceMethod yX1_longestWaiting ∈ jT := jT_mem (mt_6 (List.mem_of_getElem? (i := 124) rfl)) rfl
theorem W_663 : Cond.selects RX1 yX1_longestWaiting yX1_longestWaiting ∈ jT := jT_mem (mt_6 (List.mem_of_getElem? (i := 125) rfl)) rfl
theorem W_664 : Cond.code yX2_putPilgrim cX2_putPilgrim 3 none ∈ jT := jT_mem (mt_6 (List.mem_of_getElem? (i := 143) rfl)) rfl
theorem W_665 : Cond.initialized RX2 ∈ jT := jT_mem (mt_1 (List.mem_of_getElem? (i := 7) rfl)) rfl
theorem W_666 : Cond.methodLink RX11 420 yX2_putPilgrim ∈ jT := jT_mem (mt_6 (List.mem_of_getElem? (i := 140) rfl)) rfl
theorem W_667 : Cond.instanceMethod yX2_putPilgrim ∈ jT := jT_mem (mt_6 (List.mem_of_getElem? (i := 141) rfl)) rfl
theorem W_668 : Cond.selects RX2 yX2_putPilgrim yX2_putPilgrim ∈ jT := jT_mem (mt_6 (List.mem_of_getElem? (i := 142) rfl)) rfl
theorem W_669 : Cond.code yX2_putStairs cX2_putStairs 2 none ∈ jT := jT_mem (mt_6 (List.mem_of_getElem? (i := 138) rfl)) rfl
theorem W_670 : Cond.methodLink RX11 412 yX2_putStairs ∈ jT := jT_mem (mt_6 (List.mem_of_getElem? (i := 135) rfl)) rfl
theorem W_671 : Cond.instanceMethod yX2_putStairs ∈ jT := jT_mem (mt_6 (List.mem_of_getElem? (i := 136) rfl)) rfl
theorem W_672 : Cond.selects RX2 yX2_putStairs yX2_putStairs ∈ jT := jT_mem (mt_6 (List.mem_of_getElem? (i := 137) rfl)) rfl
theorem W_673 : Cond.code yX2_getPilgrim cX2_getPilgrim 3 none ∈ jT := jT_mem (mt_6 (List.mem_of_getElem? (i := 159) rfl)) rfl
theorem W_674 : Cond.methodLink RX11 427 yX2_getPilgrim ∈ jT := jT_mem (mt_6 (List.mem_of_getElem? (i := 156) rfl)) rfl
theorem W_675 : Cond.instanceMethod yX2_getPilgrim ∈ jT := jT_mem (mt_6 (List.mem_of_getElem? (i := 157) rfl)) rfl
theorem W_676 : Cond.selects RX2 yX2_getPilgrim yX2_getPilgrim ∈ jT := jT_mem (mt_6 (List.mem_of_getElem? (i := 158) rfl)) rfl
theorem W_677 : Cond.code yX2_getStairs cX2_getStairs 2 none ∈ jT := jT_mem (mt_6 (List.mem_of_getElem? (i := 151) rfl)) rfl
theorem W_678 : Cond.methodLink RX11 424 yX2_getStairs ∈ jT := jT_mem (mt_6 (List.mem_of_getElem? (i := 148) rfl)) rfl
theorem W_679 : Cond.instanceMethod yX2_getStairs ∈ jT := jT_mem (mt_6 (List.mem_of_getElem? (i := 149) rfl)) rfl
theorem W_680 : Cond.selects RX2 yX2_getStairs yX2_getStairs ∈ jT := jT_mem (mt_6 (List.mem_of_getElem? (i := 150) rfl)) rfl
theorem W_681 : Cond.methodLink RX11 430 yX3_isTold ∈ jT := jT_mem (mt_6 (List.mem_of_getElem? (i := 164) rfl)) rfl
theorem W_682 : Cond.code yX11_sumOfPurses cX11_sumOfPurses 3 (some .int) ∈ jT := jT_mem (mt_6 (List.mem_of_getElem? (i := 168) rfl)) rfl
theorem W_683 : Cond.methodLink RX11 433 yX11_sumOfPurses ∈ jT := jT_mem (mt_6 (List.mem_of_getElem? (i := 165) rfl)) rfl
theorem W_684 : Cond.instanceMethod yX11_sumOfPurses ∈ jT := jT_mem (mt_6 (List.mem_of_getElem? (i := 167) rfl)) rfl
theorem W_685 : Cond.selects RX11 yX11_sumOfPurses yX11_sumOfPurses ∈ jT := jT_mem (mt_0 (List.mem_of_getElem? (i := 52) rfl)) rfl
theorem W_686 : Cond.code yX8_sumOfFeuds cX8_sumOfFeuds 3 (some .int) ∈ jT := jT_mem (mt_6 (List.mem_of_getElem? (i := 172) rfl)) rfl
theorem W_687 : Cond.methodLink RX11 436 yX8_sumOfFeuds ∈ jT := jT_mem (mt_6 (List.mem_of_getElem? (i := 169) rfl)) rfl
theorem W_688 : Cond.instanceMethod yX8_sumOfFeuds ∈ jT := jT_mem (mt_6 (List.mem_of_getElem? (i := 170) rfl)) rfl
theorem W_689 : Cond.selects RX8 yX8_sumOfFeuds yX8_sumOfFeuds ∈ jT := jT_mem (mt_6 (List.mem_of_getElem? (i := 171) rfl)) rfl
theorem W_690 : Cond.fieldLink RX12 140 "StairsInStepsModel" "thrown" "I" ∈ jT := jT_mem (mt_7 (List.mem_of_getElem? (i := 56) rfl)) rfl
theorem W_691 : Cond.fieldLink RX12 60 "StairsInStepsModel" "row" "[J" ∈ jT := jT_mem (mt_7 (List.mem_of_getElem? (i := 54) rfl)) rfl
theorem W_692 : Cond.fieldLink RX12 143 "StairsInStepsModel" "rowMany" "I" ∈ jT := jT_mem (mt_7 (List.mem_of_getElem? (i := 55) rfl)) rfl
theorem W_693 : Cond.fieldLink RX12 146 "StairsInStepsModel" "steps" "I" ∈ jT := jT_mem (mt_7 (List.mem_of_getElem? (i := 34) rfl)) rfl
theorem W_694 : Cond.code yX12_in cX12_in 3 (some .boolean) ∈ jT := jT_mem (mt_8 (List.mem_of_getElem? (i := 10) rfl)) rfl
theorem W_695 : Cond.initialized RX12 ∈ jT := jT_mem (mt_1 (List.mem_of_getElem? (i := 11) rfl)) rfl
theorem W_696 : Cond.methodLink RX12 149 yX12_in ∈ jT := jT_mem (mt_8 (List.mem_of_getElem? (i := 8) rfl)) rfl
theorem W_697 : Cond.static yX12_in ∈ jT := jT_mem (mt_8 (List.mem_of_getElem? (i := 9) rfl)) rfl
theorem W_698 : Cond.fieldLink RX12 153 "StairsInStepsModel" "pilgrims" "I" ∈ jT := jT_mem (mt_7 (List.mem_of_getElem? (i := 42) rfl)) rfl
theorem W_699 : Cond.fieldLink RX12 23 "StairsInStepsModel" "parts" "[I" ∈ jT := jT_mem (mt_7 (List.mem_of_getElem? (i := 39) rfl)) rfl
theorem W_700 : Cond.fieldLink RX12 156 "StairsInStepsModel" "typed" "I" ∈ jT := jT_mem (mt_7 (List.mem_of_getElem? (i := 53) rfl)) rfl
theorem W_701 : Cond.fieldLink RX12 56 "StairsInStepsModel" "text" "[B" ∈ jT := jT_mem (mt_7 (List.mem_of_getElem? (i := 52) rfl)) rfl
theorem W_702 : Cond.fieldLink RX12 159 "StairsInStepsModel" "read" "[B" ∈ jT := jT_mem (mt_7 (List.mem_of_getElem? (i := 57) rfl)) rfl
theorem W_703 : Cond.fieldLink RX12 162 "StairsInStepsModel" "size" "I" ∈ jT := jT_mem (mt_7 (List.mem_of_getElem? (i := 58) rfl)) rfl
theorem W_704 : Cond.fieldLink RX12 165 "StairsInStepsModel" "top" "I" ∈ jT := jT_mem (mt_7 (List.mem_of_getElem? (i := 59) rfl)) rfl
theorem W_705 : Cond.fieldLink RX12 168 "StairsInStepsModel" "at" "I" ∈ jT := jT_mem (mt_7 (List.mem_of_getElem? (i := 60) rfl)) rfl
theorem W_706 : Cond.fieldLink RX12 171 "StairsInStepsModel" "wrong" "I" ∈ jT := jT_mem (mt_7 (List.mem_of_getElem? (i := 61) rfl)) rfl
theorem W_707 : Cond.code yX12_fine cX12_fine 1 (some .boolean) ∈ jT := jT_mem (mt_8 (List.mem_of_getElem? (i := 22) rfl)) rfl
theorem W_708 : Cond.methodLink RX12 174 yX12_fine ∈ jT := jT_mem (mt_8 (List.mem_of_getElem? (i := 19) rfl)) rfl
theorem W_709 : Cond.instanceMethod yX12_fine ∈ jT := jT_mem (mt_8 (List.mem_of_getElem? (i := 21) rfl)) rfl
theorem W_710 : Cond.selects RX12 yX12_fine yX12_fine ∈ jT := jT_mem (mt_0 (List.mem_of_getElem? (i := 55) rfl)) rfl
theorem W_711 : Cond.code yX12_here cX12_here 1 (some .int) ∈ jT := jT_mem (mt_8 (List.mem_of_getElem? (i := 38) rfl)) rfl
theorem W_712 : Cond.methodLink RX12 178 yX12_here ∈ jT := jT_mem (mt_8 (List.mem_of_getElem? (i := 35) rfl)) rfl
theorem W_713 : Cond.instanceMethod yX12_here ∈ jT := jT_mem (mt_8 (List.mem_of_getElem? (i := 37) rfl)) rfl
theorem W_714 : Cond.selects RX12 yX12_here yX12_here ∈ jT := jT_mem (mt_0 (List.mem_of_getElem? (i := 59) rfl)) rfl
theorem W_715 : Cond.code yX12_passes cX12_passes 2 (some .boolean) ∈ jT := jT_mem (mt_8 (List.mem_of_getElem? (i := 46) rfl)) rfl
theorem W_716 : Cond.methodLink RX12 182 yX12_passes ∈ jT := jT_mem (mt_8 (List.mem_of_getElem? (i := 43) rfl)) rfl
theorem W_717 : Cond.instanceMethod yX12_passes ∈ jT := jT_mem (mt_8 (List.mem_of_getElem? (i := 45) rfl)) rfl
theorem W_718 : Cond.selects RX12 yX12_passes yX12_passes ∈ jT := jT_mem (mt_0 (List.mem_of_getElem? (i := 61) rfl)) rfl
theorem W_719 : Cond.code yX12_fault cX12_fault 2 none ∈ jT := jT_mem (mt_8 (List.mem_of_getElem? (i := 26) rfl)) rfl
theorem W_720 : Cond.methodLink RX12 186 yX12_fault ∈ jT := jT_mem (mt_8 (List.mem_of_getElem? (i := 23) rfl)) rfl
theorem W_721 : Cond.instanceMethod yX12_fault ∈ jT := jT_mem (mt_8 (List.mem_of_getElem? (i := 25) rfl)) rfl
theorem W_722 : Cond.selects RX12 yX12_fault yX12_fault ∈ jT := jT_mem (mt_0 (List.mem_of_getElem? (i := 56) rfl)) rfl
theorem W_723 : Cond.fieldLink RX12 64 "StairsInStepsModel" "newStep" "[I" ∈ jT := jT_mem (mt_7 (List.mem_of_getElem? (i := 62) rfl)) rfl
theorem W_724 : Cond.code yX12_number cX12_number 6 (some .int) ∈ jT := jT_mem (mt_8 (List.mem_of_getElem? (i := 34) rfl)) rfl
theorem W_725 : Cond.methodLink RX12 204 yX12_number ∈ jT := jT_mem (mt_8 (List.mem_of_getElem? (i := 31) rfl)) rfl
theorem W_726 : Cond.instanceMethod yX12_number ∈ jT := jT_mem (mt_8 (List.mem_of_getElem? (i := 33) rfl)) rfl
theorem W_727 : Cond.selects RX12 yX12_number yX12_number ∈ jT := jT_mem (mt_0 (List.mem_of_getElem? (i := 58) rfl)) rfl
theorem W_728 : Cond.code yX12_need cX12_need 2 none ∈ jT := jT_mem (mt_8 (List.mem_of_getElem? (i := 42) rfl)) rfl
theorem W_729 : Cond.methodLink RX12 208 yX12_need ∈ jT := jT_mem (mt_8 (List.mem_of_getElem? (i := 39) rfl)) rfl
theorem W_730 : Cond.instanceMethod yX12_need ∈ jT := jT_mem (mt_8 (List.mem_of_getElem? (i := 41) rfl)) rfl
theorem W_731 : Cond.selects RX12 yX12_need yX12_need ∈ jT := jT_mem (mt_0 (List.mem_of_getElem? (i := 60) rfl)) rfl
theorem W_732 : Cond.fieldLink RX12 44 "StairsInStepsModel" "where" "[I" ∈ jT := jT_mem (mt_7 (List.mem_of_getElem? (i := 48) rfl)) rfl
theorem W_733 : Cond.fieldLink RX12 47 "StairsInStepsModel" "kneesLeft" "[I" ∈ jT := jT_mem (mt_7 (List.mem_of_getElem? (i := 49) rfl)) rfl
theorem W_734 : Cond.fieldLink RX12 29 "StairsInStepsModel" "knees" "[I" ∈ jT := jT_mem (mt_7 (List.mem_of_getElem? (i := 43) rfl)) rfl
theorem W_735 : Cond.fieldLink RX12 50 "StairsInStepsModel" "purseLeft" "[I" ∈ jT := jT_mem (mt_7 (List.mem_of_getElem? (i := 50) rfl)) rfl
theorem W_736 : Cond.fieldLink RX12 32 "StairsInStepsModel" "purse" "[I" ∈ jT := jT_mem (mt_7 (List.mem_of_getElem? (i := 44) rfl)) rfl
theorem W_737 : Cond.fieldLink RX12 53 "StairsInStepsModel" "earned" "[I" ∈ jT := jT_mem (mt_7 (List.mem_of_getElem? (i := 51) rfl)) rfl
theorem W_738 : Cond.fieldLink RX12 19 "StairsInStepsModel" "isWidow" "[Z" ∈ jT := jT_mem (mt_7 (List.mem_of_getElem? (i := 38) rfl)) rfl
theorem W_739 : Cond.fieldLink RX12 198 "StairsInStepsModel" "stairsTold" "I" ∈ jT := jT_mem (mt_7 (List.mem_of_getElem? (i := 41) rfl)) rfl
theorem W_740 : Cond.fieldLink RX12 201 "StairsInStepsModel" "sales" "I" ∈ jT := jT_mem (mt_7 (List.mem_of_getElem? (i := 86) rfl)) rfl
theorem W_741 : Cond.fieldLink RX12 9 "StairsInStepsModel" "rise" "[I" ∈ jT := jT_mem (mt_7 (List.mem_of_getElem? (i := 35) rfl)) rfl
theorem W_742 : Cond.fieldLink RX12 13 "StairsInStepsModel" "state" "[I" ∈ jT := jT_mem (mt_7 (List.mem_of_getElem? (i := 36) rfl)) rfl
theorem W_743 : Cond.fieldLink RX12 16 "StairsInStepsModel" "asks" "[I" ∈ jT := jT_mem (mt_7 (List.mem_of_getElem? (i := 37) rfl)) rfl
theorem W_744 : Cond.code yX12_readLine cX12_readLine 10 (some .int) ∈ jT := jT_mem (mt_8 (List.mem_of_getElem? (i := 30) rfl)) rfl
theorem W_745 : Cond.methodLink RX12 194 yX12_readLine ∈ jT := jT_mem (mt_8 (List.mem_of_getElem? (i := 27) rfl)) rfl
theorem W_746 : Cond.instanceMethod yX12_readLine ∈ jT := jT_mem (mt_8 (List.mem_of_getElem? (i := 29) rfl)) rfl
theorem W_747 : Cond.selects RX12 yX12_readLine yX12_readLine ∈ jT := jT_mem (mt_0 (List.mem_of_getElem? (i := 57) rfl)) rfl
theorem W_748 : Cond.code yX12_begin cX12_begin 4 none ∈ jT := jT_mem (mt_8 (List.mem_of_getElem? (i := 18) rfl)) rfl
theorem W_749 : Cond.methodLink RX12 190 yX12_begin ∈ jT := jT_mem (mt_8 (List.mem_of_getElem? (i := 15) rfl)) rfl
theorem W_750 : Cond.instanceMethod yX12_begin ∈ jT := jT_mem (mt_8 (List.mem_of_getElem? (i := 17) rfl)) rfl
theorem W_751 : Cond.selects RX12 yX12_begin yX12_begin ∈ jT := jT_mem (mt_0 (List.mem_of_getElem? (i := 54) rfl)) rfl
theorem W_752 : Cond.fieldLink RX12 75 "StairsInStepsModel" "askedStep" "I" ∈ jT := jT_mem (mt_7 (List.mem_of_getElem? (i := 65) rfl)) rfl
theorem W_753 : Cond.fieldLink RX12 234 "StairsInStepsModel" "askedLoad" "I" ∈ jT := jT_mem (mt_7 (List.mem_of_getElem? (i := 67) rfl)) rfl
theorem W_754 : Cond.fieldLink RX12 228 "StairsInStepsModel" "askedFrom" "I" ∈ jT := jT_mem (mt_7 (List.mem_of_getElem? (i := 66) rfl)) rfl
theorem W_755 : Cond.fieldLink RX12 26 "StairsInStepsModel" "isFeud" "[Z" ∈ jT := jT_mem (mt_7 (List.mem_of_getElem? (i := 40) rfl)) rfl
theorem W_756 : Cond.code yX12_mainOf cX12_mainOf 4 (some .int) ∈ jT := jT_mem (mt_8 (List.mem_of_getElem? (i := 74) rfl)) rfl
theorem W_757 : Cond.methodLink RX12 231 yX12_mainOf ∈ jT := jT_mem (mt_8 (List.mem_of_getElem? (i := 71) rfl)) rfl
theorem W_758 : Cond.instanceMethod yX12_mainOf ∈ jT := jT_mem (mt_8 (List.mem_of_getElem? (i := 73) rfl)) rfl
theorem W_759 : Cond.selects RX12 yX12_mainOf yX12_mainOf ∈ jT := jT_mem (mt_0 (List.mem_of_getElem? (i := 67) rfl)) rfl
theorem W_760 : Cond.fieldLink RX12 237 "StairsInStepsModel" "askedLeaps" "I" ∈ jT := jT_mem (mt_7 (List.mem_of_getElem? (i := 68) rfl)) rfl
theorem W_761 : Cond.code yX12_letter cX12_letter 2 (some .int) ∈ jT := jT_mem (mt_8 (List.mem_of_getElem? (i := 70) rfl)) rfl
theorem W_762 : Cond.methodLink RX12 224 yX12_letter ∈ jT := jT_mem (mt_8 (List.mem_of_getElem? (i := 67) rfl)) rfl
theorem W_763 : Cond.instanceMethod yX12_letter ∈ jT := jT_mem (mt_8 (List.mem_of_getElem? (i := 69) rfl)) rfl
theorem W_764 : Cond.selects RX12 yX12_letter yX12_letter ∈ jT := jT_mem (mt_0 (List.mem_of_getElem? (i := 66) rfl)) rfl
theorem W_765 : Cond.code yX12_held cX12_held 3 (some .int) ∈ jT := jT_mem (mt_8 (List.mem_of_getElem? (i := 54) rfl)) rfl
theorem W_766 : Cond.methodLink RX12 221 yX12_held ∈ jT := jT_mem (mt_8 (List.mem_of_getElem? (i := 51) rfl)) rfl
theorem W_767 : Cond.instanceMethod yX12_held ∈ jT := jT_mem (mt_8 (List.mem_of_getElem? (i := 53) rfl)) rfl
theorem W_768 : Cond.selects RX12 yX12_held yX12_held ∈ jT := jT_mem (mt_0 (List.mem_of_getElem? (i := 62) rfl)) rfl
theorem W_769 : Cond.code yX12_thing cX12_thing 4 (some .int) ∈ jT := jT_mem (mt_8 (List.mem_of_getElem? (i := 66) rfl)) rfl
theorem W_770 : Cond.methodLink RX12 218 yX12_thing ∈ jT := jT_mem (mt_8 (List.mem_of_getElem? (i := 63) rfl)) rfl
theorem W_771 : Cond.instanceMethod yX12_thing ∈ jT := jT_mem (mt_8 (List.mem_of_getElem? (i := 65) rfl)) rfl
theorem W_772 : Cond.selects RX12 yX12_thing yX12_thing ∈ jT := jT_mem (mt_0 (List.mem_of_getElem? (i := 65) rfl)) rfl
theorem W_773 : Cond.code yX12_product cX12_product 5 (some .int) ∈ jT := jT_mem (mt_8 (List.mem_of_getElem? (i := 62) rfl)) rfl
theorem W_774 : Cond.methodLink RX12 215 yX12_product ∈ jT := jT_mem (mt_8 (List.mem_of_getElem? (i := 59) rfl)) rfl
theorem W_775 : Cond.instanceMethod yX12_product ∈ jT := jT_mem (mt_8 (List.mem_of_getElem? (i := 61) rfl)) rfl
theorem W_776 : Cond.selects RX12 yX12_product yX12_product ∈ jT := jT_mem (mt_0 (List.mem_of_getElem? (i := 64) rfl)) rfl
theorem W_777 : Cond.code yX12_sum cX12_sum 5 (some .int) ∈ jT := jT_mem (mt_8 (List.mem_of_getElem? (i := 58) rfl)) rfl
theorem W_778 : Cond.methodLink RX12 212 yX12_sum ∈ jT := jT_mem (mt_8 (List.mem_of_getElem? (i := 55) rfl)) rfl
theorem W_779 : Cond.instanceMethod yX12_sum ∈ jT := jT_mem (mt_8 (List.mem_of_getElem? (i := 57) rfl)) rfl
theorem W_780 : Cond.selects RX12 yX12_sum yX12_sum ∈ jT := jT_mem (mt_0 (List.mem_of_getElem? (i := 63) rfl)) rfl
theorem W_781 : Cond.fieldLink RX12 72 "StairsInStepsModel" "lawSize" "[I" ∈ jT := jT_mem (mt_7 (List.mem_of_getElem? (i := 64) rfl)) rfl
theorem W_782 : Cond.fieldLink RX12 69 "StairsInStepsModel" "laws" "[[B" ∈ jT := jT_mem (mt_7 (List.mem_of_getElem? (i := 63) rfl)) rfl
theorem W_783 : Cond.methodLink RX12 240 Lib.Math.min.name ∈ jT := jT_mem (mt_8 (List.mem_of_getElem? (i := 95) rfl)) rfl
theorem W_784 : Cond.methodLink RX12 246 Lib.Math.max.name ∈ jT := jT_mem (mt_8 (List.mem_of_getElem? (i := 96) rfl)) rfl
theorem W_785 : Cond.code yX12_lost cX12_lost 1 (some .int) ∈ jT := jT_mem (mt_8 (List.mem_of_getElem? (i := 86) rfl)) rfl
theorem W_786 : Cond.methodLink RX12 253 yX12_lost ∈ jT := jT_mem (mt_8 (List.mem_of_getElem? (i := 83) rfl)) rfl
theorem W_787 : Cond.instanceMethod yX12_lost ∈ jT := jT_mem (mt_8 (List.mem_of_getElem? (i := 85) rfl)) rfl
theorem W_788 : Cond.selects RX12 yX12_lost yX12_lost ∈ jT := jT_mem (mt_0 (List.mem_of_getElem? (i := 69) rfl)) rfl
theorem W_789 : Cond.code yX12_isStep cX12_isStep 2 (some .boolean) ∈ jT := jT_mem (mt_8 (List.mem_of_getElem? (i := 82) rfl)) rfl
theorem W_790 : Cond.methodLink RX12 249 yX12_isStep ∈ jT := jT_mem (mt_8 (List.mem_of_getElem? (i := 79) rfl)) rfl
theorem W_791 : Cond.instanceMethod yX12_isStep ∈ jT := jT_mem (mt_8 (List.mem_of_getElem? (i := 81) rfl)) rfl
theorem W_792 : Cond.selects RX12 yX12_isStep yX12_isStep ∈ jT := jT_mem (mt_0 (List.mem_of_getElem? (i := 68) rfl)) rfl
theorem W_793 : Cond.code yX12_isFamily cX12_isFamily 1 (some .boolean) ∈ jT := jT_mem (mt_8 (List.mem_of_getElem? (i := 103) rfl)) rfl
theorem W_794 : Cond.methodLink RX12 256 yX12_isFamily ∈ jT := jT_mem (mt_8 (List.mem_of_getElem? (i := 101) rfl)) rfl
theorem W_795 : Cond.static yX12_isFamily ∈ jT := jT_mem (mt_8 (List.mem_of_getElem? (i := 102) rfl)) rfl
theorem W_796 : Cond.code yX12_setFeud cX12_setFeud 4 none ∈ jT := jT_mem (mt_8 (List.mem_of_getElem? (i := 107) rfl)) rfl
theorem W_797 : Cond.methodLink RX12 259 yX12_setFeud ∈ jT := jT_mem (mt_8 (List.mem_of_getElem? (i := 104) rfl)) rfl
theorem W_798 : Cond.instanceMethod yX12_setFeud ∈ jT := jT_mem (mt_8 (List.mem_of_getElem? (i := 106) rfl)) rfl
theorem W_799 : Cond.selects RX12 yX12_setFeud yX12_setFeud ∈ jT := jT_mem (mt_0 (List.mem_of_getElem? (i := 70) rfl)) rfl
theorem W_800 : Cond.fieldLink RX12 35 "StairsInStepsModel" "leap" "[I" ∈ jT := jT_mem (mt_7 (List.mem_of_getElem? (i := 45) rfl)) rfl
theorem W_801 : Cond.fieldLink RX12 38 "StairsInStepsModel" "load" "[I" ∈ jT := jT_mem (mt_7 (List.mem_of_getElem? (i := 46) rfl)) rfl
theorem W_802 : Cond.fieldLink RX12 41 "StairsInStepsModel" "vow" "[I" ∈ jT := jT_mem (mt_7 (List.mem_of_getElem? (i := 47) rfl)) rfl
theorem W_803 : Cond.code yX12_isOne cX12_isOne 2 (some .boolean) ∈ jT := jT_mem (mt_8 (List.mem_of_getElem? (i := 123) rfl)) rfl
theorem W_804 : Cond.methodLink RX12 263 yX12_isOne ∈ jT := jT_mem (mt_8 (List.mem_of_getElem? (i := 120) rfl)) rfl
theorem W_805 : Cond.instanceMethod yX12_isOne ∈ jT := jT_mem (mt_8 (List.mem_of_getElem? (i := 122) rfl)) rfl
theorem W_806 : Cond.selects RX12 yX12_isOne yX12_isOne ∈ jT := jT_mem (mt_0 (List.mem_of_getElem? (i := 71) rfl)) rfl
theorem W_807 : Cond.code yX12_lawOf cX12_lawOf 6 (some .int) ∈ jT := jT_mem (mt_8 (List.mem_of_getElem? (i := 151) rfl)) rfl
theorem W_808 : Cond.methodLink RX12 266 yX12_lawOf ∈ jT := jT_mem (mt_8 (List.mem_of_getElem? (i := 148) rfl)) rfl
theorem W_809 : Cond.instanceMethod yX12_lawOf ∈ jT := jT_mem (mt_8 (List.mem_of_getElem? (i := 150) rfl)) rfl
theorem W_810 : Cond.selects RX12 yX12_lawOf yX12_lawOf ∈ jT := jT_mem (mt_0 (List.mem_of_getElem? (i := 76) rfl)) rfl
theorem W_811 : Cond.code yX12_isMove cX12_isMove 4 (some .boolean) ∈ jT := jT_mem (mt_8 (List.mem_of_getElem? (i := 135) rfl)) rfl
theorem W_812 : Cond.methodLink RX12 270 yX12_isMove ∈ jT := jT_mem (mt_8 (List.mem_of_getElem? (i := 132) rfl)) rfl
theorem W_813 : Cond.instanceMethod yX12_isMove ∈ jT := jT_mem (mt_8 (List.mem_of_getElem? (i := 134) rfl)) rfl
theorem W_814 : Cond.selects RX12 yX12_isMove yX12_isMove ∈ jT := jT_mem (mt_0 (List.mem_of_getElem? (i := 72) rfl)) rfl
theorem W_815 : Cond.code yX12_effortOf cX12_effortOf 6 (some .int) ∈ jT := jT_mem (mt_8 (List.mem_of_getElem? (i := 139) rfl)) rfl
theorem W_816 : Cond.methodLink RX12 273 yX12_effortOf ∈ jT := jT_mem (mt_8 (List.mem_of_getElem? (i := 136) rfl)) rfl
theorem W_817 : Cond.instanceMethod yX12_effortOf ∈ jT := jT_mem (mt_8 (List.mem_of_getElem? (i := 138) rfl)) rfl
theorem W_818 : Cond.selects RX12 yX12_effortOf yX12_effortOf ∈ jT := jT_mem (mt_0 (List.mem_of_getElem? (i := 73) rfl)) rfl
theorem W_819 : Cond.code yX12_tell cX12_tell 3 none ∈ jT := jT_mem (mt_8 (List.mem_of_getElem? (i := 143) rfl)) rfl
theorem W_820 : Cond.methodLink RX12 276 yX12_tell ∈ jT := jT_mem (mt_8 (List.mem_of_getElem? (i := 140) rfl)) rfl
theorem W_821 : Cond.instanceMethod yX12_tell ∈ jT := jT_mem (mt_8 (List.mem_of_getElem? (i := 142) rfl)) rfl
theorem W_822 : Cond.selects RX12 yX12_tell yX12_tell ∈ jT := jT_mem (mt_0 (List.mem_of_getElem? (i := 74) rfl)) rfl
theorem W_823 : Cond.code yX12_costOf cX12_costOf 7 (some .int) ∈ jT := jT_mem (mt_8 (List.mem_of_getElem? (i := 147) rfl)) rfl
theorem W_824 : Cond.methodLink RX12 280 yX12_costOf ∈ jT := jT_mem (mt_8 (List.mem_of_getElem? (i := 144) rfl)) rfl
theorem W_825 : Cond.instanceMethod yX12_costOf ∈ jT := jT_mem (mt_8 (List.mem_of_getElem? (i := 146) rfl)) rfl
theorem W_826 : Cond.selects RX12 yX12_costOf yX12_costOf ∈ jT := jT_mem (mt_0 (List.mem_of_getElem? (i := 75) rfl)) rfl
theorem W_827 : Cond.fieldLink RX12 79 "StairsInStepsModel" "share" "[I" ∈ jT := jT_mem (mt_7 (List.mem_of_getElem? (i := 69) rfl)) rfl
theorem W_828 : Cond.fieldLink RX12 82 "StairsInStepsModel" "rest" "[J" ∈ jT := jT_mem (mt_7 (List.mem_of_getElem? (i := 70) rfl)) rfl
theorem W_829 : Cond.constantLong RX12 285 (-1) ∈ jT := jT_mem (mt_8 (List.mem_of_getElem? (i := 168) rfl)) rfl
theorem W_830 : Cond.constantLong RX12 283 (720) ∈ jT := jT_mem (mt_8 (List.mem_of_getElem? (i := 167) rfl)) rfl
theorem W_831 : Cond.code yX12_divide cX12_divide 10 none ∈ jT := jT_mem (mt_8 (List.mem_of_getElem? (i := 166) rfl)) rfl
theorem W_832 : Cond.methodLink RX12 287 yX12_divide ∈ jT := jT_mem (mt_8 (List.mem_of_getElem? (i := 163) rfl)) rfl
theorem W_833 : Cond.instanceMethod yX12_divide ∈ jT := jT_mem (mt_8 (List.mem_of_getElem? (i := 165) rfl)) rfl
theorem W_834 : Cond.selects RX12 yX12_divide yX12_divide ∈ jT := jT_mem (mt_0 (List.mem_of_getElem? (i := 78) rfl)) rfl
theorem W_835 : Cond.code yX12_earn cX12_earn 5 none ∈ jT := jT_mem (mt_8 (List.mem_of_getElem? (i := 162) rfl)) rfl
theorem W_836 : Cond.methodLink RX12 295 yX12_earn ∈ jT := jT_mem (mt_8 (List.mem_of_getElem? (i := 159) rfl)) rfl
theorem W_837 : Cond.instanceMethod yX12_earn ∈ jT := jT_mem (mt_8 (List.mem_of_getElem? (i := 161) rfl)) rfl
theorem W_838 : Cond.selects RX12 yX12_earn yX12_earn ∈ jT := jT_mem (mt_0 (List.mem_of_getElem? (i := 77) rfl)) rfl
theorem W_839 : Cond.code yX12_has cX12_has 2 (some .boolean) ∈ jT := jT_mem (mt_8 (List.mem_of_getElem? (i := 158) rfl)) rfl
theorem W_840 : Cond.methodLink RX12 291 yX12_has ∈ jT := jT_mem (mt_8 (List.mem_of_getElem? (i := 156) rfl)) rfl
theorem W_841 : Cond.static yX12_has ∈ jT := jT_mem (mt_8 (List.mem_of_getElem? (i := 157) rfl)) rfl
theorem W_842 : Cond.fieldLink RX12 85 "StairsInStepsModel" "moveCost" "[I" ∈ jT := jT_mem (mt_7 (List.mem_of_getElem? (i := 71) rfl)) rfl
theorem W_843 : Cond.constant RX12 299 (1000000000) ∈ jT := jT_mem (mt_8 (List.mem_of_getElem? (i := 193) rfl)) rfl
theorem W_844 : Cond.fieldLink RX12 91 "StairsInStepsModel" "shut" "I" ∈ jT := jT_mem (mt_7 (List.mem_of_getElem? (i := 73) rfl)) rfl
theorem W_845 : Cond.fieldLink RX12 88 "StairsInStepsModel" "moveEffort" "[I" ∈ jT := jT_mem (mt_7 (List.mem_of_getElem? (i := 72) rfl)) rfl
theorem W_846 : Cond.fieldLink RX12 94 "StairsInStepsModel" "best" "[I" ∈ jT := jT_mem (mt_7 (List.mem_of_getElem? (i := 74) rfl)) rfl
theorem W_847 : Cond.code yX12_isOn cX12_isOn 6 (some .boolean) ∈ jT := jT_mem (mt_8 (List.mem_of_getElem? (i := 201) rfl)) rfl
theorem W_848 : Cond.methodLink RX12 315 yX12_isOn ∈ jT := jT_mem (mt_8 (List.mem_of_getElem? (i := 198) rfl)) rfl
theorem W_849 : Cond.instanceMethod yX12_isOn ∈ jT := jT_mem (mt_8 (List.mem_of_getElem? (i := 200) rfl)) rfl
theorem W_850 : Cond.selects RX12 yX12_isOn yX12_isOn ∈ jT := jT_mem (mt_0 (List.mem_of_getElem? (i := 82) rfl)) rfl
theorem W_851 : Cond.fieldLink RX12 97 "StairsInStepsModel" "climbRow" "[I" ∈ jT := jT_mem (mt_7 (List.mem_of_getElem? (i := 78) rfl)) rfl
theorem W_852 : Cond.fieldLink RX12 312 "StairsInStepsModel" "climbMoves" "I" ∈ jT := jT_mem (mt_7 (List.mem_of_getElem? (i := 77) rfl)) rfl
theorem W_853 : Cond.fieldLink RX12 306 "StairsInStepsModel" "climbCost" "I" ∈ jT := jT_mem (mt_7 (List.mem_of_getElem? (i := 75) rfl)) rfl
theorem W_854 : Cond.fieldLink RX12 309 "StairsInStepsModel" "climbEffort" "I" ∈ jT := jT_mem (mt_7 (List.mem_of_getElem? (i := 76) rfl)) rfl
theorem W_855 : Cond.code yX12_layMoves cX12_layMoves 6 none ∈ jT := jT_mem (mt_8 (List.mem_of_getElem? (i := 192) rfl)) rfl
theorem W_856 : Cond.methodLink RX12 300 yX12_layMoves ∈ jT := jT_mem (mt_8 (List.mem_of_getElem? (i := 189) rfl)) rfl
theorem W_857 : Cond.instanceMethod yX12_layMoves ∈ jT := jT_mem (mt_8 (List.mem_of_getElem? (i := 191) rfl)) rfl
theorem W_858 : Cond.selects RX12 yX12_layMoves yX12_layMoves ∈ jT := jT_mem (mt_0 (List.mem_of_getElem? (i := 80) rfl)) rfl
theorem W_859 : Cond.code yX12_findByEffort cX12_findByEffort 8 none ∈ jT := jT_mem (mt_8 (List.mem_of_getElem? (i := 197) rfl)) rfl
theorem W_860 : Cond.methodLink RX12 303 yX12_findByEffort ∈ jT := jT_mem (mt_8 (List.mem_of_getElem? (i := 194) rfl)) rfl
theorem W_861 : Cond.instanceMethod yX12_findByEffort ∈ jT := jT_mem (mt_8 (List.mem_of_getElem? (i := 196) rfl)) rfl
theorem W_862 : Cond.selects RX12 yX12_findByEffort yX12_findByEffort ∈ jT := jT_mem (mt_0 (List.mem_of_getElem? (i := 81) rfl)) rfl
theorem W_863 : Cond.code yX12_findClimb cX12_findClimb 6 (some .boolean) ∈ jT := jT_mem (mt_8 (List.mem_of_getElem? (i := 188) rfl)) rfl
theorem W_864 : Cond.methodLink RX12 318 yX12_findClimb ∈ jT := jT_mem (mt_8 (List.mem_of_getElem? (i := 185) rfl)) rfl
theorem W_865 : Cond.instanceMethod yX12_findClimb ∈ jT := jT_mem (mt_8 (List.mem_of_getElem? (i := 187) rfl)) rfl
theorem W_866 : Cond.selects RX12 yX12_findClimb yX12_findClimb ∈ jT := jT_mem (mt_0 (List.mem_of_getElem? (i := 79) rfl)) rfl
theorem W_867 : Cond.fieldLink RX12 101 "StairsInStepsModel" "many" "[I" ∈ jT := jT_mem (mt_7 (List.mem_of_getElem? (i := 79) rfl)) rfl
theorem W_868 : Cond.fieldLink RX12 321 "StairsInStepsModel" "leastEffort" "I" ∈ jT := jT_mem (mt_7 (List.mem_of_getElem? (i := 80) rfl)) rfl
theorem W_869 : Cond.fieldLink RX12 324 "StairsInStepsModel" "leastMany" "I" ∈ jT := jT_mem (mt_7 (List.mem_of_getElem? (i := 81) rfl)) rfl
theorem W_870 : Cond.code yX12_isCost cX12_isCost 1 (some .boolean) ∈ jT := jT_mem (mt_8 (List.mem_of_getElem? (i := 212) rfl)) rfl
theorem W_871 : Cond.methodLink RX12 327 yX12_isCost ∈ jT := jT_mem (mt_8 (List.mem_of_getElem? (i := 210) rfl)) rfl
theorem W_872 : Cond.static yX12_isCost ∈ jT := jT_mem (mt_8 (List.mem_of_getElem? (i := 211) rfl)) rfl
theorem W_873 : Cond.code yX12_countWays cX12_countWays 11 (some .int) ∈ jT := jT_mem (mt_8 (List.mem_of_getElem? (i := 216) rfl)) rfl
theorem W_874 : Cond.methodLink RX12 330 yX12_countWays ∈ jT := jT_mem (mt_8 (List.mem_of_getElem? (i := 213) rfl)) rfl
theorem W_875 : Cond.instanceMethod yX12_countWays ∈ jT := jT_mem (mt_8 (List.mem_of_getElem? (i := 215) rfl)) rfl
theorem W_876 : Cond.selects RX12 yX12_countWays yX12_countWays ∈ jT := jT_mem (mt_0 (List.mem_of_getElem? (i := 83) rfl)) rfl
theorem W_877 : Cond.code yX12_countTreading cX12_countTreading 6 (some .int) ∈ jT := jT_mem (mt_8 (List.mem_of_getElem? (i := 224) rfl)) rfl
theorem W_878 : Cond.methodLink RX12 333 yX12_countTreading ∈ jT := jT_mem (mt_8 (List.mem_of_getElem? (i := 221) rfl)) rfl
theorem W_879 : Cond.instanceMethod yX12_countTreading ∈ jT := jT_mem (mt_8 (List.mem_of_getElem? (i := 223) rfl)) rfl
theorem W_880 : Cond.selects RX12 yX12_countTreading yX12_countTreading ∈ jT := jT_mem (mt_0 (List.mem_of_getElem? (i := 84) rfl)) rfl
theorem W_881 : Cond.code yX12_tellPart cX12_tellPart 11 none ∈ jT := jT_mem (mt_8 (List.mem_of_getElem? (i := 228) rfl)) rfl
theorem W_882 : Cond.methodLink RX12 336 yX12_tellPart ∈ jT := jT_mem (mt_8 (List.mem_of_getElem? (i := 225) rfl)) rfl
theorem W_883 : Cond.instanceMethod yX12_tellPart ∈ jT := jT_mem (mt_8 (List.mem_of_getElem? (i := 227) rfl)) rfl
theorem W_884 : Cond.selects RX12 yX12_tellPart yX12_tellPart ∈ jT := jT_mem (mt_0 (List.mem_of_getElem? (i := 85) rfl)) rfl
theorem W_885 : Cond.code yX12_findByCost cX12_findByCost 8 none ∈ jT := jT_mem (mt_9 (List.mem_of_getElem? (i := 0) rfl)) rfl
theorem W_886 : Cond.methodLink RX12 340 yX12_findByCost ∈ jT := jT_mem (mt_8 (List.mem_of_getElem? (i := 237) rfl)) rfl
theorem W_887 : Cond.instanceMethod yX12_findByCost ∈ jT := jT_mem (mt_8 (List.mem_of_getElem? (i := 239) rfl)) rfl
theorem W_888 : Cond.selects RX12 yX12_findByCost yX12_findByCost ∈ jT := jT_mem (mt_0 (List.mem_of_getElem? (i := 86) rfl)) rfl
theorem W_889 : Cond.fieldLink RX12 343 "StairsInStepsModel" "allMany" "I" ∈ jT := jT_mem (mt_7 (List.mem_of_getElem? (i := 82) rfl)) rfl
theorem W_890 : Cond.fieldLink RX12 346 "StairsInStepsModel" "allCosts" "I" ∈ jT := jT_mem (mt_7 (List.mem_of_getElem? (i := 83) rfl)) rfl
theorem W_891 : Cond.fieldLink RX12 349 "StairsInStepsModel" "allEfforts" "I" ∈ jT := jT_mem (mt_7 (List.mem_of_getElem? (i := 84) rfl)) rfl
theorem W_892 : Cond.code yX12_findAll cX12_findAll 2 none ∈ jT := jT_mem (mt_9 (List.mem_of_getElem? (i := 16) rfl)) rfl
theorem W_893 : Cond.methodLink RX12 352 yX12_findAll ∈ jT := jT_mem (mt_9 (List.mem_of_getElem? (i := 13) rfl)) rfl
theorem W_894 : Cond.instanceMethod yX12_findAll ∈ jT := jT_mem (mt_9 (List.mem_of_getElem? (i := 15) rfl)) rfl
theorem W_895 : Cond.selects RX12 yX12_findAll yX12_findAll ∈ jT := jT_mem (mt_0 (List.mem_of_getElem? (i := 87) rfl)) rfl
theorem W_896 : Cond.code yX12_tellMore cX12_tellMore 4 (some .int) ∈ jT := jT_mem (mt_9 (List.mem_of_getElem? (i := 24) rfl)) rfl
theorem W_897 : Cond.methodLink RX12 355 yX12_tellMore ∈ jT := jT_mem (mt_9 (List.mem_of_getElem? (i := 21) rfl)) rfl
theorem W_898 : Cond.instanceMethod yX12_tellMore ∈ jT := jT_mem (mt_9 (List.mem_of_getElem? (i := 23) rfl)) rfl
theorem W_899 : Cond.selects RX12 yX12_tellMore yX12_tellMore ∈ jT := jT_mem (mt_0 (List.mem_of_getElem? (i := 88) rfl)) rfl
theorem W_900 : Cond.code yX12_paidTo cX12_paidTo 9 (some .int) ∈ jT := jT_mem (mt_9 (List.mem_of_getElem? (i := 52) rfl)) rfl
theorem W_901 : Cond.methodLink RX12 358 yX12_paidTo ∈ jT := jT_mem (mt_9 (List.mem_of_getElem? (i := 49) rfl)) rfl
theorem W_902 : Cond.instanceMethod yX12_paidTo ∈ jT := jT_mem (mt_9 (List.mem_of_getElem? (i := 51) rfl)) rfl
theorem W_903 : Cond.selects RX12 yX12_paidTo yX12_paidTo ∈ jT := jT_mem (mt_0 (List.mem_of_getElem? (i := 89) rfl)) rfl
theorem W_904 : Cond.fieldLink RX12 361 "StairsInStepsModel" "bestPaid" "I" ∈ jT := jT_mem (mt_7 (List.mem_of_getElem? (i := 85) rfl)) rfl
theorem W_905 : Cond.code yX12_findBest cX12_findBest 5 (some .int) ∈ jT := jT_mem (mt_9 (List.mem_of_getElem? (i := 60) rfl)) rfl
theorem W_906 : Cond.methodLink RX12 364 yX12_findBest ∈ jT := jT_mem (mt_9 (List.mem_of_getElem? (i := 57) rfl)) rfl
theorem W_907 : Cond.instanceMethod yX12_findBest ∈ jT := jT_mem (mt_9 (List.mem_of_getElem? (i := 59) rfl)) rfl
theorem W_908 : Cond.selects RX12 yX12_findBest yX12_findBest ∈ jT := jT_mem (mt_0 (List.mem_of_getElem? (i := 90) rfl)) rfl
theorem W_909 : Cond.fieldLink RX12 104 "StairsInStepsModel" "partsWere" "[I" ∈ jT := jT_mem (mt_7 (List.mem_of_getElem? (i := 87) rfl)) rfl
theorem W_910 : Cond.fieldLink RX12 107 "StairsInStepsModel" "partsNow" "[I" ∈ jT := jT_mem (mt_7 (List.mem_of_getElem? (i := 88) rfl)) rfl
theorem W_911 : Cond.code yX12_rememberParts cX12_rememberParts 3 none ∈ jT := jT_mem (mt_9 (List.mem_of_getElem? (i := 76) rfl)) rfl
theorem W_912 : Cond.methodLink RX12 367 yX12_rememberParts ∈ jT := jT_mem (mt_9 (List.mem_of_getElem? (i := 73) rfl)) rfl
theorem W_913 : Cond.instanceMethod yX12_rememberParts ∈ jT := jT_mem (mt_9 (List.mem_of_getElem? (i := 75) rfl)) rfl
theorem W_914 : Cond.selects RX12 yX12_rememberParts yX12_rememberParts ∈ jT := jT_mem (mt_0 (List.mem_of_getElem? (i := 91) rfl)) rfl
theorem W_915 : Cond.methodLink RX12 370 yJ6_bitCount_0f7a4 ∈ jT := jT_mem (mt_9 (List.mem_of_getElem? (i := 81) rfl)) rfl
theorem W_916 : Cond.fieldLink RX12 116 "StairsInStepsModel" "gone" "[I" ∈ jT := jT_mem (mt_7 (List.mem_of_getElem? (i := 91) rfl)) rfl
theorem W_917 : Cond.fieldLink RX12 110 "StairsInStepsModel" "goes" "[I" ∈ jT := jT_mem (mt_7 (List.mem_of_getElem? (i := 89) rfl)) rfl
theorem W_918 : Cond.fieldLink RX12 113 "StairsInStepsModel" "goesMany" "[I" ∈ jT := jT_mem (mt_7 (List.mem_of_getElem? (i := 90) rfl)) rfl
theorem W_919 : Cond.code yX12_placeOf cX12_placeOf 2 (some .int) ∈ jT := jT_mem (mt_9 (List.mem_of_getElem? (i := 105) rfl)) rfl
theorem W_920 : Cond.methodLink RX12 375 yX12_placeOf ∈ jT := jT_mem (mt_9 (List.mem_of_getElem? (i := 102) rfl)) rfl
theorem W_921 : Cond.instanceMethod yX12_placeOf ∈ jT := jT_mem (mt_9 (List.mem_of_getElem? (i := 104) rfl)) rfl
theorem W_922 : Cond.selects RX12 yX12_placeOf yX12_placeOf ∈ jT := jT_mem (mt_0 (List.mem_of_getElem? (i := 93) rfl)) rfl
theorem W_923 : Cond.fieldLink RX12 378 "StairsInStepsModel" "crowd" "I" ∈ jT := jT_mem (mt_7 (List.mem_of_getElem? (i := 94) rfl)) rfl
theorem W_924 : Cond.code yX12_onStep cX12_onStep 4 (some .int) ∈ jT := jT_mem (mt_9 (List.mem_of_getElem? (i := 109) rfl)) rfl
theorem W_925 : Cond.methodLink RX12 381 yX12_onStep ∈ jT := jT_mem (mt_9 (List.mem_of_getElem? (i := 106) rfl)) rfl
theorem W_926 : Cond.instanceMethod yX12_onStep ∈ jT := jT_mem (mt_9 (List.mem_of_getElem? (i := 108) rfl)) rfl
theorem W_927 : Cond.selects RX12 yX12_onStep yX12_onStep ∈ jT := jT_mem (mt_0 (List.mem_of_getElem? (i := 94) rfl)) rfl
theorem W_928 : Cond.fieldLink RX12 125 "StairsInStepsModel" "placeThen" "[I" ∈ jT := jT_mem (mt_7 (List.mem_of_getElem? (i := 95) rfl)) rfl
theorem W_929 : Cond.fieldLink RX12 119 "StairsInStepsModel" "waited" "[I" ∈ jT := jT_mem (mt_7 (List.mem_of_getElem? (i := 92) rfl)) rfl
theorem W_930 : Cond.fieldLink RX12 122 "StairsInStepsModel" "waitedFor" "[I" ∈ jT := jT_mem (mt_7 (List.mem_of_getElem? (i := 93) rfl)) rfl
theorem W_931 : Cond.code yX12_runFeast cX12_runFeast 7 (some .int) ∈ jT := jT_mem (mt_9 (List.mem_of_getElem? (i := 101) rfl)) rfl
theorem W_932 : Cond.methodLink RX12 384 yX12_runFeast ∈ jT := jT_mem (mt_9 (List.mem_of_getElem? (i := 98) rfl)) rfl
theorem W_933 : Cond.instanceMethod yX12_runFeast ∈ jT := jT_mem (mt_9 (List.mem_of_getElem? (i := 100) rfl)) rfl
theorem W_934 : Cond.selects RX12 yX12_runFeast yX12_runFeast ∈ jT := jT_mem (mt_0 (List.mem_of_getElem? (i := 92) rfl)) rfl
theorem W_935 : Cond.fieldLink RX12 128 "StairsInStepsModel" "kept" "[I" ∈ jT := jT_mem (mt_7 (List.mem_of_getElem? (i := 96) rfl)) rfl
theorem W_936 : Cond.fieldLink RX12 387 "StairsInStepsModel" "keptAt" "I" ∈ jT := jT_mem (mt_7 (List.mem_of_getElem? (i := 100) rfl)) rfl
theorem W_937 : Cond.code yX12_put cX12_put 2 none ∈ jT := jT_mem (mt_9 (List.mem_of_getElem? (i := 121) rfl)) rfl
theorem W_938 : Cond.methodLink RX12 390 yX12_put ∈ jT := jT_mem (mt_9 (List.mem_of_getElem? (i := 118) rfl)) rfl
theorem W_939 : Cond.instanceMethod yX12_put ∈ jT := jT_mem (mt_9 (List.mem_of_getElem? (i := 120) rfl)) rfl
theorem W_940 : Cond.selects RX12 yX12_put yX12_put ∈ jT := jT_mem (mt_0 (List.mem_of_getElem? (i := 95) rfl)) rfl
theorem W_941 : Cond.fieldLink RX12 131 "StairsInStepsModel" "isKept" "[Z" ∈ jT := jT_mem (mt_7 (List.mem_of_getElem? (i := 97) rfl)) rfl
theorem W_942 : Cond.fieldLink RX12 134 "StairsInStepsModel" "keptStairs" "[I" ∈ jT := jT_mem (mt_7 (List.mem_of_getElem? (i := 98) rfl)) rfl
theorem W_943 : Cond.fieldLink RX12 137 "StairsInStepsModel" "keptPilgrims" "[I" ∈ jT := jT_mem (mt_7 (List.mem_of_getElem? (i := 99) rfl)) rfl
theorem W_944 : Cond.code yX12_take cX12_take 1 (some .int) ∈ jT := jT_mem (mt_9 (List.mem_of_getElem? (i := 129) rfl)) rfl
theorem W_945 : Cond.methodLink RX12 393 yX12_take ∈ jT := jT_mem (mt_9 (List.mem_of_getElem? (i := 126) rfl)) rfl
theorem W_946 : Cond.instanceMethod yX12_take ∈ jT := jT_mem (mt_9 (List.mem_of_getElem? (i := 128) rfl)) rfl
theorem W_947 : Cond.selects RX12 yX12_take yX12_take ∈ jT := jT_mem (mt_0 (List.mem_of_getElem? (i := 96) rfl)) rfl
theorem W_948 : Cond.code yX11_step cX11_step 3 (some .int) ∈ jT := jT_mem (mt_6 (List.mem_of_getElem? (i := 181) rfl)) rfl
theorem W_949 : Cond.methodLink RL 7 yX11_step ∈ jT := jT_mem (mt_6 (List.mem_of_getElem? (i := 178) rfl)) rfl
theorem W_950 : Cond.instanceMethod yX11_step ∈ jT := jT_mem (mt_6 (List.mem_of_getElem? (i := 179) rfl)) rfl
theorem W_951 : Cond.selects RX11 yX11_step yX11_step ∈ jT := jT_mem (mt_6 (List.mem_of_getElem? (i := 180) rfl)) rfl
theorem W_952 : Cond.classLink RL 13 "java/util/NoSuchElementException" ∈ jT := jT_mem (mt_6 (List.mem_of_getElem? (i := 177) rfl)) rfl
theorem W_953 : Cond.code yX11_of cX11_of 4 (some .int) ∈ jT := jT_mem (mt_7 (List.mem_of_getElem? (i := 14) rfl)) rfl
theorem W_954 : Cond.methodLink RL 15 yX11_of ∈ jT := jT_mem (mt_7 (List.mem_of_getElem? (i := 11) rfl)) rfl
theorem W_955 : Cond.instanceMethod yX11_of ∈ jT := jT_mem (mt_7 (List.mem_of_getElem? (i := 12) rfl)) rfl
theorem W_956 : Cond.selects RX11 yX11_of yX11_of ∈ jT := jT_mem (mt_7 (List.mem_of_getElem? (i := 13) rfl)) rfl
theorem W_957 : Cond.code yX11_row cX11_row 2 (some .long) ∈ jT := jT_mem (mt_7 (List.mem_of_getElem? (i := 23) rfl)) rfl
theorem W_958 : Cond.methodLink RL 18 yX11_row ∈ jT := jT_mem (mt_7 (List.mem_of_getElem? (i := 20) rfl)) rfl
theorem W_959 : Cond.instanceMethod yX11_row ∈ jT := jT_mem (mt_7 (List.mem_of_getElem? (i := 21) rfl)) rfl
theorem W_960 : Cond.selects RX11 yX11_row yX11_row ∈ jT := jT_mem (mt_7 (List.mem_of_getElem? (i := 22) rfl)) rfl
theorem W_961 : Cond.methodLink RX10 3 objectInit ∈ jT := jT_mem (mt_1 (List.mem_of_getElem? (i := 40) rfl)) rfl
theorem W_962 : Cond.instanceMethod objectInit ∈ jT := jT_mem (mt_1 (List.mem_of_getElem? (i := 33) rfl)) rfl
theorem W_963 : Cond.code objectInit ⟨#[0xb1]⟩ 1 none ∈ jT := jT_mem (mt_1 (List.mem_of_getElem? (i := 34) rfl)) rfl
theorem W_964 : Cond.arrayClass .byte ∈ jT := jT_mem (mt_1 (List.mem_of_getElem? (i := 51) rfl)) rfl
theorem W_965 : Cond.methodLink RX9 3 objectInit ∈ jT := jT_mem (mt_1 (List.mem_of_getElem? (i := 57) rfl)) rfl
theorem W_966 : Cond.arrayClass .int ∈ jT := jT_mem (mt_1 (List.mem_of_getElem? (i := 92) rfl)) rfl
theorem W_967 : Cond.methodLink RX4 3 objectInit ∈ jT := jT_mem (mt_1 (List.mem_of_getElem? (i := 104) rfl)) rfl
theorem W_968 : Cond.methodLink RX3 5 objectInit ∈ jT := jT_mem (mt_1 (List.mem_of_getElem? (i := 128) rfl)) rfl
theorem W_969 : Cond.methodLink RX8 3 objectInit ∈ jT := jT_mem (mt_1 (List.mem_of_getElem? (i := 98) rfl)) rfl
theorem W_970 : Cond.classLink RX8 24 RX4 ∈ jT := jT_mem (mt_1 (List.mem_of_getElem? (i := 99) rfl)) rfl
theorem W_971 : Cond.instantiable RX4 5 ∈ jT := jT_mem (mt_1 (List.mem_of_getElem? (i := 100) rfl)) rfl
theorem W_972 : Cond.code yX4_init cX4_init 1 none ∈ jT := jT_mem (mt_1 (List.mem_of_getElem? (i := 103) rfl)) rfl
theorem W_973 : Cond.instanceMethod yX4_init ∈ jT := jT_mem (mt_1 (List.mem_of_getElem? (i := 102) rfl)) rfl
theorem W_974 : Cond.classLink RX8 34 RX3 ∈ jT := jT_mem (mt_1 (List.mem_of_getElem? (i := 123) rfl)) rfl
theorem W_975 : Cond.instantiable RX3 9 ∈ jT := jT_mem (mt_1 (List.mem_of_getElem? (i := 124) rfl)) rfl
theorem W_976 : Cond.code yX3_init cX3_init 1 none ∈ jT := jT_mem (mt_1 (List.mem_of_getElem? (i := 127) rfl)) rfl
theorem W_977 : Cond.instanceMethod yX3_init ∈ jT := jT_mem (mt_1 (List.mem_of_getElem? (i := 126) rfl)) rfl
theorem W_978 : Cond.methodLink RX7 3 objectInit ∈ jT := jT_mem (mt_2 (List.mem_of_getElem? (i := 13) rfl)) rfl
theorem W_979 : Cond.methodLink RX0 3 objectInit ∈ jT := jT_mem (mt_2 (List.mem_of_getElem? (i := 7) rfl)) rfl
theorem W_980 : Cond.classLink RX0 9 RX7 ∈ jT := jT_mem (mt_2 (List.mem_of_getElem? (i := 8) rfl)) rfl
theorem W_981 : Cond.instantiable RX7 10 ∈ jT := jT_mem (mt_2 (List.mem_of_getElem? (i := 9) rfl)) rfl
theorem W_982 : Cond.code yX7_init cX7_init 1 none ∈ jT := jT_mem (mt_2 (List.mem_of_getElem? (i := 12) rfl)) rfl
theorem W_983 : Cond.instanceMethod yX7_init ∈ jT := jT_mem (mt_2 (List.mem_of_getElem? (i := 11) rfl)) rfl
theorem W_984 : Cond.methodLink RX1 3 objectInit ∈ jT := jT_mem (mt_2 (List.mem_of_getElem? (i := 63) rfl)) rfl
theorem W_985 : Cond.arrayClass .boolean ∈ jT := jT_mem (mt_2 (List.mem_of_getElem? (i := 99) rfl)) rfl
theorem W_986 : Cond.methodLink RX2 3 objectInit ∈ jT := jT_mem (mt_1 (List.mem_of_getElem? (i := 210) rfl)) rfl
theorem W_987 : Cond.fieldLink RX2 21 "StairsInSteps$Kept" "earnings" "[I" ∈ jT := jT_mem (mt_1 (List.mem_of_getElem? (i := 214) rfl)) rfl
theorem W_988 : Cond.fieldLink RX2 33 "StairsInSteps$Kept" "size" "I" ∈ jT := jT_mem (mt_1 (List.mem_of_getElem? (i := 219) rfl)) rfl
theorem W_989 : Cond.fieldLink RX2 37 "StairsInSteps$Kept" "holds" "Z" ∈ jT := jT_mem (mt_1 (List.mem_of_getElem? (i := 221) rfl)) rfl
theorem W_990 : Cond.methodLink RX11 3 objectInit ∈ jT := jT_mem (mt_1 (List.mem_of_getElem? (i := 32) rfl)) rfl
theorem W_991 : Cond.classLink RX11 9 RX10 ∈ jT := jT_mem (mt_1 (List.mem_of_getElem? (i := 35) rfl)) rfl
theorem W_992 : Cond.instantiable RX10 2 ∈ jT := jT_mem (mt_1 (List.mem_of_getElem? (i := 36) rfl)) rfl
theorem W_993 : Cond.code yX10_init cX10_init 1 none ∈ jT := jT_mem (mt_1 (List.mem_of_getElem? (i := 39) rfl)) rfl
theorem W_994 : Cond.instanceMethod yX10_init ∈ jT := jT_mem (mt_1 (List.mem_of_getElem? (i := 38) rfl)) rfl
theorem W_995 : Cond.classLink RX11 16 RX9 ∈ jT := jT_mem (mt_1 (List.mem_of_getElem? (i := 52) rfl)) rfl
theorem W_996 : Cond.instantiable RX9 9 ∈ jT := jT_mem (mt_1 (List.mem_of_getElem? (i := 53) rfl)) rfl
theorem W_997 : Cond.code yX9_init cX9_init 1 none ∈ jT := jT_mem (mt_1 (List.mem_of_getElem? (i := 56) rfl)) rfl
theorem W_998 : Cond.instanceMethod yX9_init ∈ jT := jT_mem (mt_1 (List.mem_of_getElem? (i := 55) rfl)) rfl
theorem W_999 : Cond.classLink RX11 23 RX8 ∈ jT := jT_mem (mt_1 (List.mem_of_getElem? (i := 93) rfl)) rfl
theorem W_1000 : Cond.instantiable RX8 10 ∈ jT := jT_mem (mt_1 (List.mem_of_getElem? (i := 94) rfl)) rfl
theorem W_1001 : Cond.code yX8_init cX8_init 1 none ∈ jT := jT_mem (mt_1 (List.mem_of_getElem? (i := 97) rfl)) rfl
theorem W_1002 : Cond.instanceMethod yX8_init ∈ jT := jT_mem (mt_1 (List.mem_of_getElem? (i := 96) rfl)) rfl
theorem W_1003 : Cond.classLink RX11 30 RX5 ∈ jT := jT_mem (mt_1 (List.mem_of_getElem? (i := 202) rfl)) rfl
theorem W_1004 : Cond.classLink RX11 50 RX2 ∈ jT := jT_mem (mt_1 (List.mem_of_getElem? (i := 204) rfl)) rfl
theorem W_1005 : Cond.instantiable RX2 9 ∈ jT := jT_mem (mt_1 (List.mem_of_getElem? (i := 206) rfl)) rfl
theorem W_1006 : Cond.code yX2_init cX2_init 1 none ∈ jT := jT_mem (mt_1 (List.mem_of_getElem? (i := 209) rfl)) rfl
theorem W_1007 : Cond.instanceMethod yX2_init ∈ jT := jT_mem (mt_1 (List.mem_of_getElem? (i := 208) rfl)) rfl
theorem W_1008 : Cond.classLink RX11 57 RX0 ∈ jT := jT_mem (mt_2 (List.mem_of_getElem? (i := 2) rfl)) rfl
theorem W_1009 : Cond.instantiable RX0 3 ∈ jT := jT_mem (mt_2 (List.mem_of_getElem? (i := 3) rfl)) rfl
theorem W_1010 : Cond.code yX0_init cX0_init 1 none ∈ jT := jT_mem (mt_2 (List.mem_of_getElem? (i := 6) rfl)) rfl
theorem W_1011 : Cond.instanceMethod yX0_init ∈ jT := jT_mem (mt_2 (List.mem_of_getElem? (i := 5) rfl)) rfl
theorem W_1012 : Cond.classLink RX11 64 RX1 ∈ jT := jT_mem (mt_2 (List.mem_of_getElem? (i := 58) rfl)) rfl
theorem W_1013 : Cond.instantiable RX1 10 ∈ jT := jT_mem (mt_2 (List.mem_of_getElem? (i := 59) rfl)) rfl
theorem W_1014 : Cond.code yX1_init cX1_init 1 none ∈ jT := jT_mem (mt_2 (List.mem_of_getElem? (i := 62) rfl)) rfl
theorem W_1015 : Cond.instanceMethod yX1_init ∈ jT := jT_mem (mt_2 (List.mem_of_getElem? (i := 61) rfl)) rfl
theorem W_1016 : Cond.methodLink RX6 3 objectInit ∈ jT := jT_mem (mt_3 (List.mem_of_getElem? (i := 207) rfl)) rfl
theorem W_1017 : Cond.classLink RX6 28 RX7 ∈ jT := jT_mem (mt_3 (List.mem_of_getElem? (i := 208) rfl)) rfl
theorem W_1018 : Cond.methodLink RX5 3 objectInit ∈ jT := jT_mem (mt_3 (List.mem_of_getElem? (i := 201) rfl)) rfl
theorem W_1019 : Cond.fieldLink RX5 27 "StairsInSteps$Pilgrim" "load" "I" ∈ jT := jT_mem (mt_4 (List.mem_of_getElem? (i := 32) rfl)) rfl
theorem W_1020 : Cond.classLink RX5 36 RX6 ∈ jT := jT_mem (mt_3 (List.mem_of_getElem? (i := 202) rfl)) rfl
theorem W_1021 : Cond.instantiable RX6 16 ∈ jT := jT_mem (mt_3 (List.mem_of_getElem? (i := 203) rfl)) rfl
theorem W_1022 : Cond.code yX6_init cX6_init 5 none ∈ jT := jT_mem (mt_3 (List.mem_of_getElem? (i := 206) rfl)) rfl
theorem W_1023 : Cond.methodLink RX5 38 yX6_init ∈ jT := jT_mem (mt_3 (List.mem_of_getElem? (i := 204) rfl)) rfl
theorem W_1024 : Cond.instanceMethod yX6_init ∈ jT := jT_mem (mt_3 (List.mem_of_getElem? (i := 205) rfl)) rfl
theorem W_1025 : Cond.fieldLink RX5 41 "StairsInSteps$Pilgrim" "routes" "LStairsInSteps$Routes;" ∈ jT := jT_mem (mt_4 (List.mem_of_getElem? (i := 45) rfl)) rfl
theorem W_1026 : Cond.methodLink RX12 3 objectInit ∈ jT := jT_mem (mt_7 (List.mem_of_getElem? (i := 30) rfl)) rfl
theorem W_1027 : Cond.classLink RX12 67 "[[B" ∈ jT := jT_mem (mt_7 (List.mem_of_getElem? (i := 31) rfl)) rfl
theorem W_1028 : Cond.constant RX12 100 (484000) ∈ jT := jT_mem (mt_7 (List.mem_of_getElem? (i := 33) rfl)) rfl
theorem W_1029 : Cond.instantiable RX5 9 ∈ jT := jT_mem (mt_3 (List.mem_of_getElem? (i := 197) rfl)) rfl
theorem W_1030 : Cond.code yX5_init cX5_init 6 none ∈ jT := jT_mem (mt_3 (List.mem_of_getElem? (i := 200) rfl)) rfl
theorem W_1031 : Cond.methodLink RX11 193 yX5_init ∈ jT := jT_mem (mt_3 (List.mem_of_getElem? (i := 198) rfl)) rfl
theorem W_1032 : Cond.instanceMethod yX5_init ∈ jT := jT_mem (mt_3 (List.mem_of_getElem? (i := 199) rfl)) rfl
theorem W_1033 : Cond.laysFinal RX0 "StairsInSteps$ByCost" "rows" "LStairsInSteps$Rows;" ∈ jT := jT_mem (mt_2 (List.mem_of_getElem? (i := 51) rfl)) rfl
theorem W_1034 : Cond.laysFinal RX0 "StairsInSteps$ByCost" "reach" "[J" ∈ jT := jT_mem (mt_2 (List.mem_of_getElem? (i := 53) rfl)) rfl
theorem W_1035 : Cond.lays RX0 "StairsInSteps$ByCost" "easiestWays" "J" ∈ jT := jT_mem (mt_2 (List.mem_of_getElem? (i := 55) rfl)) rfl
theorem W_1036 : Cond.laysFinal RX1 "StairsInSteps$Feast" "goes" "[Z" ∈ jT := jT_mem (mt_2 (List.mem_of_getElem? (i := 78) rfl)) rfl
theorem W_1037 : Cond.laysFinal RX1 "StairsInSteps$Feast" "key" "[J" ∈ jT := jT_mem (mt_2 (List.mem_of_getElem? (i := 80) rfl)) rfl
theorem W_1038 : Cond.laysFinal RX1 "StairsInSteps$Feast" "at" "[I" ∈ jT := jT_mem (mt_2 (List.mem_of_getElem? (i := 82) rfl)) rfl
theorem W_1039 : Cond.laysFinal RX1 "StairsInSteps$Feast" "waited" "[I" ∈ jT := jT_mem (mt_2 (List.mem_of_getElem? (i := 84) rfl)) rfl
theorem W_1040 : Cond.laysFinal RX1 "StairsInSteps$Feast" "on" "[I" ∈ jT := jT_mem (mt_2 (List.mem_of_getElem? (i := 86) rfl)) rfl
theorem W_1041 : Cond.laysFinal RX1 "StairsInSteps$Feast" "waitedFor" "[I" ∈ jT := jT_mem (mt_2 (List.mem_of_getElem? (i := 88) rfl)) rfl
theorem W_1042 : Cond.lays RX1 "StairsInSteps$Feast" "size" "I" ∈ jT := jT_mem (mt_2 (List.mem_of_getElem? (i := 90) rfl)) rfl
theorem W_1043 : Cond.lays RX1 "StairsInSteps$Feast" "going" "I" ∈ jT := jT_mem (mt_2 (List.mem_of_getElem? (i := 92) rfl)) rfl
theorem W_1044 : Cond.lays RX1 "StairsInSteps$Feast" "minutes" "I" ∈ jT := jT_mem (mt_2 (List.mem_of_getElem? (i := 94) rfl)) rfl
theorem W_1045 : Cond.lays RX1 "StairsInSteps$Feast" "crowd" "I" ∈ jT := jT_mem (mt_2 (List.mem_of_getElem? (i := 96) rfl)) rfl
theorem W_1046 : Cond.laysFinal RX2 "StairsInSteps$Kept" "states" "[I" ∈ jT := jT_mem (mt_1 (List.mem_of_getElem? (i := 223) rfl)) rfl
theorem W_1047 : Cond.laysFinal RX2 "StairsInSteps$Kept" "asked" "[I" ∈ jT := jT_mem (mt_1 (List.mem_of_getElem? (i := 225) rfl)) rfl
theorem W_1048 : Cond.laysFinal RX2 "StairsInSteps$Kept" "owned" "[I" ∈ jT := jT_mem (mt_1 (List.mem_of_getElem? (i := 227) rfl)) rfl
theorem W_1049 : Cond.laysFinal RX2 "StairsInSteps$Kept" "earnings" "[I" ∈ jT := jT_mem (mt_1 (List.mem_of_getElem? (i := 229) rfl)) rfl
theorem W_1050 : Cond.laysFinal RX2 "StairsInSteps$Kept" "at" "[I" ∈ jT := jT_mem (mt_1 (List.mem_of_getElem? (i := 231) rfl)) rfl
theorem W_1051 : Cond.laysFinal RX2 "StairsInSteps$Kept" "kneesLeft" "[I" ∈ jT := jT_mem (mt_1 (List.mem_of_getElem? (i := 233) rfl)) rfl
theorem W_1052 : Cond.laysFinal RX2 "StairsInSteps$Kept" "purseLeft" "[I" ∈ jT := jT_mem (mt_1 (List.mem_of_getElem? (i := 235) rfl)) rfl
theorem W_1053 : Cond.lays RX2 "StairsInSteps$Kept" "size" "I" ∈ jT := jT_mem (mt_1 (List.mem_of_getElem? (i := 237) rfl)) rfl
theorem W_1054 : Cond.lays RX2 "StairsInSteps$Kept" "holds" "Z" ∈ jT := jT_mem (mt_1 (List.mem_of_getElem? (i := 239) rfl)) rfl
theorem W_1055 : Cond.laysFinal RX3 "StairsInSteps$Law" "code" "[I" ∈ jT := jT_mem (mt_1 (List.mem_of_getElem? (i := 138) rfl)) rfl
theorem W_1056 : Cond.laysFinal RX3 "StairsInSteps$Law" "draft" "[I" ∈ jT := jT_mem (mt_1 (List.mem_of_getElem? (i := 140) rfl)) rfl
theorem W_1057 : Cond.laysFinal RX3 "StairsInSteps$Law" "stack" "[I" ∈ jT := jT_mem (mt_1 (List.mem_of_getElem? (i := 142) rfl)) rfl
theorem W_1058 : Cond.lays RX3 "StairsInSteps$Law" "size" "I" ∈ jT := jT_mem (mt_1 (List.mem_of_getElem? (i := 144) rfl)) rfl
theorem W_1059 : Cond.lays RX3 "StairsInSteps$Law" "named" "I" ∈ jT := jT_mem (mt_1 (List.mem_of_getElem? (i := 146) rfl)) rfl
theorem W_1060 : Cond.lays RX3 "StairsInSteps$Law" "drafted" "I" ∈ jT := jT_mem (mt_1 (List.mem_of_getElem? (i := 148) rfl)) rfl
theorem W_1061 : Cond.lays RX3 "StairsInSteps$Law" "at" "I" ∈ jT := jT_mem (mt_1 (List.mem_of_getElem? (i := 150) rfl)) rfl
theorem W_1062 : Cond.lays RX3 "StairsInSteps$Law" "limit" "I" ∈ jT := jT_mem (mt_1 (List.mem_of_getElem? (i := 152) rfl)) rfl
theorem W_1063 : Cond.lays RX3 "StairsInSteps$Law" "fault" "I" ∈ jT := jT_mem (mt_1 (List.mem_of_getElem? (i := 154) rfl)) rfl
theorem W_1064 : Cond.laysFinal RX4 "StairsInSteps$Parts" "owned" "[I" ∈ jT := jT_mem (mt_1 (List.mem_of_getElem? (i := 112) rfl)) rfl
theorem W_1065 : Cond.laysFinal RX4 "StairsInSteps$Parts" "mains" "[I" ∈ jT := jT_mem (mt_1 (List.mem_of_getElem? (i := 114) rfl)) rfl
theorem W_1066 : Cond.laysFinal RX4 "StairsInSteps$Parts" "past" "[I" ∈ jT := jT_mem (mt_1 (List.mem_of_getElem? (i := 116) rfl)) rfl
theorem W_1067 : Cond.lays RX4 "StairsInSteps$Parts" "oldest" "I" ∈ jT := jT_mem (mt_1 (List.mem_of_getElem? (i := 118) rfl)) rfl
theorem W_1068 : Cond.lays RX4 "StairsInSteps$Parts" "sales" "I" ∈ jT := jT_mem (mt_1 (List.mem_of_getElem? (i := 120) rfl)) rfl
theorem W_1069 : Cond.laysFinal RX5 "StairsInSteps$Pilgrim" "knees" "I" ∈ jT := jT_mem (mt_4 (List.mem_of_getElem? (i := 47) rfl)) rfl
theorem W_1070 : Cond.laysFinal RX5 "StairsInSteps$Pilgrim" "purse" "I" ∈ jT := jT_mem (mt_4 (List.mem_of_getElem? (i := 49) rfl)) rfl
theorem W_1071 : Cond.laysFinal RX5 "StairsInSteps$Pilgrim" "leap" "I" ∈ jT := jT_mem (mt_4 (List.mem_of_getElem? (i := 51) rfl)) rfl
theorem W_1072 : Cond.laysFinal RX5 "StairsInSteps$Pilgrim" "load" "I" ∈ jT := jT_mem (mt_4 (List.mem_of_getElem? (i := 53) rfl)) rfl
theorem W_1073 : Cond.lays RX5 "StairsInSteps$Pilgrim" "vow" "I" ∈ jT := jT_mem (mt_4 (List.mem_of_getElem? (i := 55) rfl)) rfl
theorem W_1074 : Cond.lays RX5 "StairsInSteps$Pilgrim" "at" "I" ∈ jT := jT_mem (mt_4 (List.mem_of_getElem? (i := 57) rfl)) rfl
theorem W_1075 : Cond.lays RX5 "StairsInSteps$Pilgrim" "kneesLeft" "I" ∈ jT := jT_mem (mt_4 (List.mem_of_getElem? (i := 59) rfl)) rfl
theorem W_1076 : Cond.lays RX5 "StairsInSteps$Pilgrim" "purseLeft" "I" ∈ jT := jT_mem (mt_4 (List.mem_of_getElem? (i := 61) rfl)) rfl
theorem W_1077 : Cond.laysFinal RX5 "StairsInSteps$Pilgrim" "routes" "LStairsInSteps$Routes;" ∈ jT := jT_mem (mt_4 (List.mem_of_getElem? (i := 63) rfl)) rfl
theorem W_1078 : Cond.laysFinal RX6 "StairsInSteps$Routes" "stairs" "LStairsInSteps$Stairs;" ∈ jT := jT_mem (mt_3 (List.mem_of_getElem? (i := 233) rfl)) rfl
theorem W_1079 : Cond.laysFinal RX6 "StairsInSteps$Routes" "knees" "I" ∈ jT := jT_mem (mt_3 (List.mem_of_getElem? (i := 235) rfl)) rfl
theorem W_1080 : Cond.laysFinal RX6 "StairsInSteps$Routes" "purse" "I" ∈ jT := jT_mem (mt_3 (List.mem_of_getElem? (i := 237) rfl)) rfl
theorem W_1081 : Cond.laysFinal RX6 "StairsInSteps$Routes" "leap" "I" ∈ jT := jT_mem (mt_3 (List.mem_of_getElem? (i := 239) rfl)) rfl
theorem W_1082 : Cond.laysFinal RX6 "StairsInSteps$Routes" "cost" "[I" ∈ jT := jT_mem (mt_4 (List.mem_of_getElem? (i := 1) rfl)) rfl
theorem W_1083 : Cond.laysFinal RX6 "StairsInSteps$Routes" "effort" "[I" ∈ jT := jT_mem (mt_4 (List.mem_of_getElem? (i := 3) rfl)) rfl
theorem W_1084 : Cond.laysFinal RX6 "StairsInSteps$Routes" "open" "[Z" ∈ jT := jT_mem (mt_4 (List.mem_of_getElem? (i := 5) rfl)) rfl
theorem W_1085 : Cond.laysFinal RX6 "StairsInSteps$Routes" "leastUp" "[I" ∈ jT := jT_mem (mt_4 (List.mem_of_getElem? (i := 7) rfl)) rfl
theorem W_1086 : Cond.laysFinal RX6 "StairsInSteps$Routes" "leastFrom" "[I" ∈ jT := jT_mem (mt_4 (List.mem_of_getElem? (i := 9) rfl)) rfl
theorem W_1087 : Cond.laysFinal RX6 "StairsInSteps$Routes" "rising" "LStairsInSteps$Rows;" ∈ jT := jT_mem (mt_4 (List.mem_of_getElem? (i := 11) rfl)) rfl
theorem W_1088 : Cond.laysFinal RX6 "StairsInSteps$Routes" "ending" "LStairsInSteps$Rows;" ∈ jT := jT_mem (mt_4 (List.mem_of_getElem? (i := 13) rfl)) rfl
theorem W_1089 : Cond.laysFinal RX6 "StairsInSteps$Routes" "offered" "[J" ∈ jT := jT_mem (mt_4 (List.mem_of_getElem? (i := 15) rfl)) rfl
theorem W_1090 : Cond.laysFinal RX6 "StairsInSteps$Routes" "offeredPay" "[I" ∈ jT := jT_mem (mt_4 (List.mem_of_getElem? (i := 17) rfl)) rfl
theorem W_1091 : Cond.laysFinal RX6 "StairsInSteps$Routes" "prices" "[I" ∈ jT := jT_mem (mt_4 (List.mem_of_getElem? (i := 19) rfl)) rfl
theorem W_1092 : Cond.lays RX6 "StairsInSteps$Routes" "load" "I" ∈ jT := jT_mem (mt_4 (List.mem_of_getElem? (i := 21) rfl)) rfl
theorem W_1093 : Cond.lays RX6 "StairsInSteps$Routes" "top" "I" ∈ jT := jT_mem (mt_4 (List.mem_of_getElem? (i := 23) rfl)) rfl
theorem W_1094 : Cond.lays RX7 "StairsInSteps$Rows" "keys" "[J" ∈ jT := jT_mem (mt_2 (List.mem_of_getElem? (i := 25) rfl)) rfl
theorem W_1095 : Cond.laysFinal RX7 "StairsInSteps$Rows" "first" "[I" ∈ jT := jT_mem (mt_2 (List.mem_of_getElem? (i := 27) rfl)) rfl
theorem W_1096 : Cond.laysFinal RX7 "StairsInSteps$Rows" "size" "[I" ∈ jT := jT_mem (mt_2 (List.mem_of_getElem? (i := 29) rfl)) rfl
theorem W_1097 : Cond.lays RX7 "StairsInSteps$Rows" "filled" "I" ∈ jT := jT_mem (mt_2 (List.mem_of_getElem? (i := 31) rfl)) rfl
theorem W_1098 : Cond.laysFinal RX7 "StairsInSteps$Rows" "head" "[I" ∈ jT := jT_mem (mt_2 (List.mem_of_getElem? (i := 33) rfl)) rfl
theorem W_1099 : Cond.laysFinal RX7 "StairsInSteps$Rows" "tail" "[I" ∈ jT := jT_mem (mt_2 (List.mem_of_getElem? (i := 35) rfl)) rfl
theorem W_1100 : Cond.laysFinal RX7 "StairsInSteps$Rows" "shift" "[J" ∈ jT := jT_mem (mt_2 (List.mem_of_getElem? (i := 37) rfl)) rfl
theorem W_1101 : Cond.laysFinal RX7 "StairsInSteps$Rows" "ahead" "[J" ∈ jT := jT_mem (mt_2 (List.mem_of_getElem? (i := 39) rfl)) rfl
theorem W_1102 : Cond.lays RX7 "StairsInSteps$Rows" "merged" "I" ∈ jT := jT_mem (mt_2 (List.mem_of_getElem? (i := 41) rfl)) rfl
theorem W_1103 : Cond.lays RX7 "StairsInSteps$Rows" "waiting" "I" ∈ jT := jT_mem (mt_2 (List.mem_of_getElem? (i := 43) rfl)) rfl
theorem W_1104 : Cond.laysFinal RX8 "StairsInSteps$Stairs" "rise" "[I" ∈ jT := jT_mem (mt_1 (List.mem_of_getElem? (i := 181) rfl)) rfl
theorem W_1105 : Cond.laysFinal RX8 "StairsInSteps$Stairs" "state" "[I" ∈ jT := jT_mem (mt_1 (List.mem_of_getElem? (i := 183) rfl)) rfl
theorem W_1106 : Cond.laysFinal RX8 "StairsInSteps$Stairs" "asks" "[I" ∈ jT := jT_mem (mt_1 (List.mem_of_getElem? (i := 185) rfl)) rfl
theorem W_1107 : Cond.laysFinal RX8 "StairsInSteps$Stairs" "widow" "[I" ∈ jT := jT_mem (mt_1 (List.mem_of_getElem? (i := 187) rfl)) rfl
theorem W_1108 : Cond.laysFinal RX8 "StairsInSteps$Stairs" "shares" "LStairsInSteps$Parts;" ∈ jT := jT_mem (mt_1 (List.mem_of_getElem? (i := 189) rfl)) rfl
theorem W_1109 : Cond.laysFinal RX8 "StairsInSteps$Stairs" "feuds" "[I" ∈ jT := jT_mem (mt_1 (List.mem_of_getElem? (i := 191) rfl)) rfl
theorem W_1110 : Cond.laysFinal RX8 "StairsInSteps$Stairs" "treading" "LStairsInSteps$Law;" ∈ jT := jT_mem (mt_1 (List.mem_of_getElem? (i := 193) rfl)) rfl
theorem W_1111 : Cond.laysFinal RX8 "StairsInSteps$Stairs" "leaping" "LStairsInSteps$Law;" ∈ jT := jT_mem (mt_1 (List.mem_of_getElem? (i := 195) rfl)) rfl
theorem W_1112 : Cond.laysFinal RX8 "StairsInSteps$Stairs" "letters" "[I" ∈ jT := jT_mem (mt_1 (List.mem_of_getElem? (i := 197) rfl)) rfl
theorem W_1113 : Cond.lays RX8 "StairsInSteps$Stairs" "size" "I" ∈ jT := jT_mem (mt_1 (List.mem_of_getElem? (i := 199) rfl)) rfl
theorem W_1114 : Cond.laysFinal RX9 "StairsInSteps$StairsReader" "rise" "[I" ∈ jT := jT_mem (mt_1 (List.mem_of_getElem? (i := 73) rfl)) rfl
theorem W_1115 : Cond.laysFinal RX9 "StairsInSteps$StairsReader" "state" "[I" ∈ jT := jT_mem (mt_1 (List.mem_of_getElem? (i := 75) rfl)) rfl
theorem W_1116 : Cond.laysFinal RX9 "StairsInSteps$StairsReader" "asks" "[I" ∈ jT := jT_mem (mt_1 (List.mem_of_getElem? (i := 77) rfl)) rfl
theorem W_1117 : Cond.laysFinal RX9 "StairsInSteps$StairsReader" "widow" "[I" ∈ jT := jT_mem (mt_1 (List.mem_of_getElem? (i := 79) rfl)) rfl
theorem W_1118 : Cond.laysFinal RX9 "StairsInSteps$StairsReader" "owner" "[I" ∈ jT := jT_mem (mt_1 (List.mem_of_getElem? (i := 81) rfl)) rfl
theorem W_1119 : Cond.lays RX9 "StairsInSteps$StairsReader" "size" "I" ∈ jT := jT_mem (mt_1 (List.mem_of_getElem? (i := 83) rfl)) rfl
theorem W_1120 : Cond.lays RX9 "StairsInSteps$StairsReader" "at" "I" ∈ jT := jT_mem (mt_1 (List.mem_of_getElem? (i := 85) rfl)) rfl
theorem W_1121 : Cond.lays RX9 "StairsInSteps$StairsReader" "limit" "I" ∈ jT := jT_mem (mt_1 (List.mem_of_getElem? (i := 87) rfl)) rfl
theorem W_1122 : Cond.lays RX9 "StairsInSteps$StairsReader" "fault" "I" ∈ jT := jT_mem (mt_1 (List.mem_of_getElem? (i := 89) rfl)) rfl
theorem W_1123 : Cond.laysFinal RX10 "StairsInSteps$Text" "signs" "[B" ∈ jT := jT_mem (mt_1 (List.mem_of_getElem? (i := 46) rfl)) rfl
theorem W_1124 : Cond.lays RX10 "StairsInSteps$Text" "size" "I" ∈ jT := jT_mem (mt_1 (List.mem_of_getElem? (i := 48) rfl)) rfl
theorem W_1125 : Cond.laysFinal RX11 "StairsInSteps" "text" "LStairsInSteps$Text;" ∈ jT := jT_mem (mt_2 (List.mem_of_getElem? (i := 117) rfl)) rfl
theorem W_1126 : Cond.laysFinal RX11 "StairsInSteps" "reader" "LStairsInSteps$StairsReader;" ∈ jT := jT_mem (mt_2 (List.mem_of_getElem? (i := 119) rfl)) rfl
theorem W_1127 : Cond.laysFinal RX11 "StairsInSteps" "flight" "LStairsInSteps$Stairs;" ∈ jT := jT_mem (mt_2 (List.mem_of_getElem? (i := 121) rfl)) rfl
theorem W_1128 : Cond.laysFinal RX11 "StairsInSteps" "pilgrims" "[LStairsInSteps$Pilgrim;" ∈ jT := jT_mem (mt_2 (List.mem_of_getElem? (i := 123) rfl)) rfl
theorem W_1129 : Cond.lays RX11 "StairsInSteps" "toldPilgrims" "I" ∈ jT := jT_mem (mt_2 (List.mem_of_getElem? (i := 125) rfl)) rfl
theorem W_1130 : Cond.laysFinal RX11 "StairsInSteps" "purses" "[I" ∈ jT := jT_mem (mt_2 (List.mem_of_getElem? (i := 127) rfl)) rfl
theorem W_1131 : Cond.laysFinal RX11 "StairsInSteps" "division" "[I" ∈ jT := jT_mem (mt_2 (List.mem_of_getElem? (i := 129) rfl)) rfl
theorem W_1132 : Cond.laysFinal RX11 "StairsInSteps" "remainders" "[I" ∈ jT := jT_mem (mt_2 (List.mem_of_getElem? (i := 131) rfl)) rfl
theorem W_1133 : Cond.laysFinal RX11 "StairsInSteps" "store" "[LStairsInSteps$Kept;" ∈ jT := jT_mem (mt_2 (List.mem_of_getElem? (i := 133) rfl)) rfl
theorem W_1134 : Cond.laysFinal RX11 "StairsInSteps" "byCost" "LStairsInSteps$ByCost;" ∈ jT := jT_mem (mt_2 (List.mem_of_getElem? (i := 135) rfl)) rfl
theorem W_1135 : Cond.laysFinal RX11 "StairsInSteps" "revel" "LStairsInSteps$Feast;" ∈ jT := jT_mem (mt_2 (List.mem_of_getElem? (i := 137) rfl)) rfl
theorem W_1136 : Cond.laysFinal RX11 "StairsInSteps" "sumsNow" "[I" ∈ jT := jT_mem (mt_2 (List.mem_of_getElem? (i := 139) rfl)) rfl
theorem W_1137 : Cond.laysFinal RX11 "StairsInSteps" "sumsThen" "[I" ∈ jT := jT_mem (mt_2 (List.mem_of_getElem? (i := 141) rfl)) rfl
theorem W_1138 : Cond.laysFinal RX11 "StairsInSteps" "paid" "[I" ∈ jT := jT_mem (mt_2 (List.mem_of_getElem? (i := 143) rfl)) rfl
theorem W_1139 : Cond.laysFinal RX11 "StairsInSteps" "climbers" "[I" ∈ jT := jT_mem (mt_2 (List.mem_of_getElem? (i := 145) rfl)) rfl
theorem W_1140 : Cond.laysFinal RX11 "StairsInSteps" "told" "[J" ∈ jT := jT_mem (mt_2 (List.mem_of_getElem? (i := 147) rfl)) rfl
theorem W_1141 : Cond.lays RX11 "StairsInSteps" "toldNumbers" "I" ∈ jT := jT_mem (mt_2 (List.mem_of_getElem? (i := 149) rfl)) rfl
theorem W_1142 : Cond.lays RX12 "StairsInStepsModel" "steps" "I" ∈ jT := jT_mem (mt_7 (List.mem_of_getElem? (i := 101) rfl)) rfl
theorem W_1143 : Cond.laysFinal RX12 "StairsInStepsModel" "rise" "[I" ∈ jT := jT_mem (mt_7 (List.mem_of_getElem? (i := 103) rfl)) rfl
theorem W_1144 : Cond.laysFinal RX12 "StairsInStepsModel" "state" "[I" ∈ jT := jT_mem (mt_7 (List.mem_of_getElem? (i := 105) rfl)) rfl
theorem W_1145 : Cond.laysFinal RX12 "StairsInStepsModel" "asks" "[I" ∈ jT := jT_mem (mt_7 (List.mem_of_getElem? (i := 107) rfl)) rfl
theorem W_1146 : Cond.laysFinal RX12 "StairsInStepsModel" "isWidow" "[Z" ∈ jT := jT_mem (mt_7 (List.mem_of_getElem? (i := 109) rfl)) rfl
theorem W_1147 : Cond.laysFinal RX12 "StairsInStepsModel" "parts" "[I" ∈ jT := jT_mem (mt_7 (List.mem_of_getElem? (i := 111) rfl)) rfl
theorem W_1148 : Cond.laysFinal RX12 "StairsInStepsModel" "isFeud" "[Z" ∈ jT := jT_mem (mt_7 (List.mem_of_getElem? (i := 113) rfl)) rfl
theorem W_1149 : Cond.lays RX12 "StairsInStepsModel" "stairsTold" "I" ∈ jT := jT_mem (mt_7 (List.mem_of_getElem? (i := 115) rfl)) rfl
theorem W_1150 : Cond.lays RX12 "StairsInStepsModel" "pilgrims" "I" ∈ jT := jT_mem (mt_7 (List.mem_of_getElem? (i := 117) rfl)) rfl
theorem W_1151 : Cond.laysFinal RX12 "StairsInStepsModel" "knees" "[I" ∈ jT := jT_mem (mt_7 (List.mem_of_getElem? (i := 119) rfl)) rfl
theorem W_1152 : Cond.laysFinal RX12 "StairsInStepsModel" "purse" "[I" ∈ jT := jT_mem (mt_7 (List.mem_of_getElem? (i := 121) rfl)) rfl
theorem W_1153 : Cond.laysFinal RX12 "StairsInStepsModel" "leap" "[I" ∈ jT := jT_mem (mt_7 (List.mem_of_getElem? (i := 123) rfl)) rfl
theorem W_1154 : Cond.laysFinal RX12 "StairsInStepsModel" "load" "[I" ∈ jT := jT_mem (mt_7 (List.mem_of_getElem? (i := 125) rfl)) rfl
theorem W_1155 : Cond.laysFinal RX12 "StairsInStepsModel" "vow" "[I" ∈ jT := jT_mem (mt_7 (List.mem_of_getElem? (i := 127) rfl)) rfl
theorem W_1156 : Cond.laysFinal RX12 "StairsInStepsModel" "where" "[I" ∈ jT := jT_mem (mt_7 (List.mem_of_getElem? (i := 129) rfl)) rfl
theorem W_1157 : Cond.laysFinal RX12 "StairsInStepsModel" "kneesLeft" "[I" ∈ jT := jT_mem (mt_7 (List.mem_of_getElem? (i := 131) rfl)) rfl
theorem W_1158 : Cond.laysFinal RX12 "StairsInStepsModel" "purseLeft" "[I" ∈ jT := jT_mem (mt_7 (List.mem_of_getElem? (i := 133) rfl)) rfl
theorem W_1159 : Cond.laysFinal RX12 "StairsInStepsModel" "earned" "[I" ∈ jT := jT_mem (mt_7 (List.mem_of_getElem? (i := 135) rfl)) rfl
theorem W_1160 : Cond.laysFinal RX12 "StairsInStepsModel" "text" "[B" ∈ jT := jT_mem (mt_7 (List.mem_of_getElem? (i := 137) rfl)) rfl
theorem W_1161 : Cond.lays RX12 "StairsInStepsModel" "typed" "I" ∈ jT := jT_mem (mt_7 (List.mem_of_getElem? (i := 139) rfl)) rfl
theorem W_1162 : Cond.laysFinal RX12 "StairsInStepsModel" "row" "[J" ∈ jT := jT_mem (mt_7 (List.mem_of_getElem? (i := 141) rfl)) rfl
theorem W_1163 : Cond.lays RX12 "StairsInStepsModel" "rowMany" "I" ∈ jT := jT_mem (mt_7 (List.mem_of_getElem? (i := 143) rfl)) rfl
theorem W_1164 : Cond.lays RX12 "StairsInStepsModel" "thrown" "I" ∈ jT := jT_mem (mt_7 (List.mem_of_getElem? (i := 145) rfl)) rfl
theorem W_1165 : Cond.lays RX12 "StairsInStepsModel" "read" "[B" ∈ jT := jT_mem (mt_7 (List.mem_of_getElem? (i := 147) rfl)) rfl
theorem W_1166 : Cond.lays RX12 "StairsInStepsModel" "size" "I" ∈ jT := jT_mem (mt_7 (List.mem_of_getElem? (i := 149) rfl)) rfl
theorem W_1167 : Cond.lays RX12 "StairsInStepsModel" "top" "I" ∈ jT := jT_mem (mt_7 (List.mem_of_getElem? (i := 151) rfl)) rfl
theorem W_1168 : Cond.lays RX12 "StairsInStepsModel" "at" "I" ∈ jT := jT_mem (mt_7 (List.mem_of_getElem? (i := 153) rfl)) rfl
theorem W_1169 : Cond.lays RX12 "StairsInStepsModel" "wrong" "I" ∈ jT := jT_mem (mt_7 (List.mem_of_getElem? (i := 155) rfl)) rfl
theorem W_1170 : Cond.laysFinal RX12 "StairsInStepsModel" "newStep" "[I" ∈ jT := jT_mem (mt_7 (List.mem_of_getElem? (i := 157) rfl)) rfl
theorem W_1171 : Cond.laysFinal RX12 "StairsInStepsModel" "laws" "[[B" ∈ jT := jT_mem (mt_7 (List.mem_of_getElem? (i := 159) rfl)) rfl
theorem W_1172 : Cond.laysFinal RX12 "StairsInStepsModel" "lawSize" "[I" ∈ jT := jT_mem (mt_7 (List.mem_of_getElem? (i := 161) rfl)) rfl
theorem W_1173 : Cond.lays RX12 "StairsInStepsModel" "askedStep" "I" ∈ jT := jT_mem (mt_7 (List.mem_of_getElem? (i := 163) rfl)) rfl
theorem W_1174 : Cond.lays RX12 "StairsInStepsModel" "askedFrom" "I" ∈ jT := jT_mem (mt_7 (List.mem_of_getElem? (i := 165) rfl)) rfl
theorem W_1175 : Cond.lays RX12 "StairsInStepsModel" "askedLoad" "I" ∈ jT := jT_mem (mt_7 (List.mem_of_getElem? (i := 167) rfl)) rfl
theorem W_1176 : Cond.lays RX12 "StairsInStepsModel" "askedLeaps" "I" ∈ jT := jT_mem (mt_7 (List.mem_of_getElem? (i := 169) rfl)) rfl
theorem W_1177 : Cond.laysFinal RX12 "StairsInStepsModel" "share" "[I" ∈ jT := jT_mem (mt_7 (List.mem_of_getElem? (i := 171) rfl)) rfl
theorem W_1178 : Cond.laysFinal RX12 "StairsInStepsModel" "rest" "[J" ∈ jT := jT_mem (mt_7 (List.mem_of_getElem? (i := 173) rfl)) rfl
theorem W_1179 : Cond.laysFinal RX12 "StairsInStepsModel" "moveCost" "[I" ∈ jT := jT_mem (mt_7 (List.mem_of_getElem? (i := 175) rfl)) rfl
theorem W_1180 : Cond.laysFinal RX12 "StairsInStepsModel" "moveEffort" "[I" ∈ jT := jT_mem (mt_7 (List.mem_of_getElem? (i := 177) rfl)) rfl
theorem W_1181 : Cond.lays RX12 "StairsInStepsModel" "shut" "I" ∈ jT := jT_mem (mt_7 (List.mem_of_getElem? (i := 179) rfl)) rfl
theorem W_1182 : Cond.laysFinal RX12 "StairsInStepsModel" "best" "[I" ∈ jT := jT_mem (mt_7 (List.mem_of_getElem? (i := 181) rfl)) rfl
theorem W_1183 : Cond.lays RX12 "StairsInStepsModel" "climbCost" "I" ∈ jT := jT_mem (mt_7 (List.mem_of_getElem? (i := 183) rfl)) rfl
theorem W_1184 : Cond.lays RX12 "StairsInStepsModel" "climbEffort" "I" ∈ jT := jT_mem (mt_7 (List.mem_of_getElem? (i := 185) rfl)) rfl
theorem W_1185 : Cond.lays RX12 "StairsInStepsModel" "climbMoves" "I" ∈ jT := jT_mem (mt_7 (List.mem_of_getElem? (i := 187) rfl)) rfl
theorem W_1186 : Cond.laysFinal RX12 "StairsInStepsModel" "climbRow" "[I" ∈ jT := jT_mem (mt_7 (List.mem_of_getElem? (i := 189) rfl)) rfl
theorem W_1187 : Cond.laysFinal RX12 "StairsInStepsModel" "many" "[I" ∈ jT := jT_mem (mt_7 (List.mem_of_getElem? (i := 191) rfl)) rfl
theorem W_1188 : Cond.lays RX12 "StairsInStepsModel" "leastEffort" "I" ∈ jT := jT_mem (mt_7 (List.mem_of_getElem? (i := 193) rfl)) rfl
theorem W_1189 : Cond.lays RX12 "StairsInStepsModel" "leastMany" "I" ∈ jT := jT_mem (mt_7 (List.mem_of_getElem? (i := 195) rfl)) rfl
theorem W_1190 : Cond.lays RX12 "StairsInStepsModel" "allMany" "I" ∈ jT := jT_mem (mt_7 (List.mem_of_getElem? (i := 197) rfl)) rfl
theorem W_1191 : Cond.lays RX12 "StairsInStepsModel" "allCosts" "I" ∈ jT := jT_mem (mt_7 (List.mem_of_getElem? (i := 199) rfl)) rfl
theorem W_1192 : Cond.lays RX12 "StairsInStepsModel" "allEfforts" "I" ∈ jT := jT_mem (mt_7 (List.mem_of_getElem? (i := 201) rfl)) rfl
theorem W_1193 : Cond.lays RX12 "StairsInStepsModel" "bestPaid" "I" ∈ jT := jT_mem (mt_7 (List.mem_of_getElem? (i := 203) rfl)) rfl
theorem W_1194 : Cond.lays RX12 "StairsInStepsModel" "sales" "I" ∈ jT := jT_mem (mt_7 (List.mem_of_getElem? (i := 205) rfl)) rfl
theorem W_1195 : Cond.laysFinal RX12 "StairsInStepsModel" "partsWere" "[I" ∈ jT := jT_mem (mt_7 (List.mem_of_getElem? (i := 207) rfl)) rfl
theorem W_1196 : Cond.laysFinal RX12 "StairsInStepsModel" "partsNow" "[I" ∈ jT := jT_mem (mt_7 (List.mem_of_getElem? (i := 209) rfl)) rfl
theorem W_1197 : Cond.laysFinal RX12 "StairsInStepsModel" "goes" "[I" ∈ jT := jT_mem (mt_7 (List.mem_of_getElem? (i := 211) rfl)) rfl
theorem W_1198 : Cond.laysFinal RX12 "StairsInStepsModel" "goesMany" "[I" ∈ jT := jT_mem (mt_7 (List.mem_of_getElem? (i := 213) rfl)) rfl
theorem W_1199 : Cond.laysFinal RX12 "StairsInStepsModel" "gone" "[I" ∈ jT := jT_mem (mt_7 (List.mem_of_getElem? (i := 215) rfl)) rfl
theorem W_1200 : Cond.laysFinal RX12 "StairsInStepsModel" "waited" "[I" ∈ jT := jT_mem (mt_7 (List.mem_of_getElem? (i := 217) rfl)) rfl
theorem W_1201 : Cond.laysFinal RX12 "StairsInStepsModel" "waitedFor" "[I" ∈ jT := jT_mem (mt_7 (List.mem_of_getElem? (i := 219) rfl)) rfl
theorem W_1202 : Cond.lays RX12 "StairsInStepsModel" "crowd" "I" ∈ jT := jT_mem (mt_7 (List.mem_of_getElem? (i := 221) rfl)) rfl
theorem W_1203 : Cond.laysFinal RX12 "StairsInStepsModel" "placeThen" "[I" ∈ jT := jT_mem (mt_7 (List.mem_of_getElem? (i := 223) rfl)) rfl
theorem W_1204 : Cond.laysFinal RX12 "StairsInStepsModel" "kept" "[I" ∈ jT := jT_mem (mt_7 (List.mem_of_getElem? (i := 225) rfl)) rfl
theorem W_1205 : Cond.laysFinal RX12 "StairsInStepsModel" "isKept" "[Z" ∈ jT := jT_mem (mt_7 (List.mem_of_getElem? (i := 227) rfl)) rfl
theorem W_1206 : Cond.laysFinal RX12 "StairsInStepsModel" "keptStairs" "[I" ∈ jT := jT_mem (mt_7 (List.mem_of_getElem? (i := 229) rfl)) rfl
theorem W_1207 : Cond.laysFinal RX12 "StairsInStepsModel" "keptPilgrims" "[I" ∈ jT := jT_mem (mt_7 (List.mem_of_getElem? (i := 231) rfl)) rfl
theorem W_1208 : Cond.lays RX12 "StairsInStepsModel" "keptAt" "I" ∈ jT := jT_mem (mt_7 (List.mem_of_getElem? (i := 233) rfl)) rfl
theorem iT_0 : ∀ w ∈ u_ws RX0 TX0 3, w ∈ jT := by
  intro w hw
  obtain ⟨k, hk, rfl⟩ := List.mem_map.mp hw
  have hk := List.mem_range.mp hk
  match k, hk with
  | 0, _ => exact W_1033
  | 1, _ => exact W_1034
  | 2, _ => exact W_1035
  | k + 3, hk => omega
theorem iT_1 : ∀ w ∈ u_ws RX1 TX1 10, w ∈ jT := by
  intro w hw
  obtain ⟨k, hk, rfl⟩ := List.mem_map.mp hw
  have hk := List.mem_range.mp hk
  match k, hk with
  | 0, _ => exact W_1036
  | 1, _ => exact W_1037
  | 2, _ => exact W_1038
  | 3, _ => exact W_1039
  | 4, _ => exact W_1040
  | 5, _ => exact W_1041
  | 6, _ => exact W_1042
  | 7, _ => exact W_1043
  | 8, _ => exact W_1044
  | 9, _ => exact W_1045
  | k + 10, hk => omega
theorem iT_2 : ∀ w ∈ u_ws RX2 TX2 9, w ∈ jT := by
  intro w hw
  obtain ⟨k, hk, rfl⟩ := List.mem_map.mp hw
  have hk := List.mem_range.mp hk
  match k, hk with
  | 0, _ => exact W_1046
  | 1, _ => exact W_1047
  | 2, _ => exact W_1048
  | 3, _ => exact W_1049
  | 4, _ => exact W_1050
  | 5, _ => exact W_1051
  | 6, _ => exact W_1052
  | 7, _ => exact W_1053
  | 8, _ => exact W_1054
  | k + 9, hk => omega
theorem iT_3 : ∀ w ∈ u_ws RX3 TX3 9, w ∈ jT := by
  intro w hw
  obtain ⟨k, hk, rfl⟩ := List.mem_map.mp hw
  have hk := List.mem_range.mp hk
  match k, hk with
  | 0, _ => exact W_1055
  | 1, _ => exact W_1056
  | 2, _ => exact W_1057
  | 3, _ => exact W_1058
  | 4, _ => exact W_1059
  | 5, _ => exact W_1060
  | 6, _ => exact W_1061
  | 7, _ => exact W_1062
  | 8, _ => exact W_1063
  | k + 9, hk => omega
theorem iT_4 : ∀ w ∈ u_ws RX4 TX4 5, w ∈ jT := by
  intro w hw
  obtain ⟨k, hk, rfl⟩ := List.mem_map.mp hw
  have hk := List.mem_range.mp hk
  match k, hk with
  | 0, _ => exact W_1064
  | 1, _ => exact W_1065
  | 2, _ => exact W_1066
  | 3, _ => exact W_1067
  | 4, _ => exact W_1068
  | k + 5, hk => omega
theorem iT_5 : ∀ w ∈ u_ws RX5 TX5 9, w ∈ jT := by
  intro w hw
  obtain ⟨k, hk, rfl⟩ := List.mem_map.mp hw
  have hk := List.mem_range.mp hk
  match k, hk with
  | 0, _ => exact W_1069
  | 1, _ => exact W_1070
  | 2, _ => exact W_1071
  | 3, _ => exact W_1072
  | 4, _ => exact W_1073
  | 5, _ => exact W_1074
  | 6, _ => exact W_1075
  | 7, _ => exact W_1076
  | 8, _ => exact W_1077
  | k + 9, hk => omega
theorem iT_6 : ∀ w ∈ u_ws RX6 TX6 16, w ∈ jT := by
  intro w hw
  obtain ⟨k, hk, rfl⟩ := List.mem_map.mp hw
  have hk := List.mem_range.mp hk
  match k, hk with
  | 0, _ => exact W_1078
  | 1, _ => exact W_1079
  | 2, _ => exact W_1080
  | 3, _ => exact W_1081
  | 4, _ => exact W_1082
  | 5, _ => exact W_1083
  | 6, _ => exact W_1084
  | 7, _ => exact W_1085
  | 8, _ => exact W_1086
  | 9, _ => exact W_1087
  | 10, _ => exact W_1088
  | 11, _ => exact W_1089
  | 12, _ => exact W_1090
  | 13, _ => exact W_1091
  | 14, _ => exact W_1092
  | 15, _ => exact W_1093
  | k + 16, hk => omega
theorem iT_7 : ∀ w ∈ u_ws RX7 TX7 10, w ∈ jT := by
  intro w hw
  obtain ⟨k, hk, rfl⟩ := List.mem_map.mp hw
  have hk := List.mem_range.mp hk
  match k, hk with
  | 0, _ => exact W_1094
  | 1, _ => exact W_1095
  | 2, _ => exact W_1096
  | 3, _ => exact W_1097
  | 4, _ => exact W_1098
  | 5, _ => exact W_1099
  | 6, _ => exact W_1100
  | 7, _ => exact W_1101
  | 8, _ => exact W_1102
  | 9, _ => exact W_1103
  | k + 10, hk => omega
theorem iT_8 : ∀ w ∈ u_ws RX8 TX8 10, w ∈ jT := by
  intro w hw
  obtain ⟨k, hk, rfl⟩ := List.mem_map.mp hw
  have hk := List.mem_range.mp hk
  match k, hk with
  | 0, _ => exact W_1104
  | 1, _ => exact W_1105
  | 2, _ => exact W_1106
  | 3, _ => exact W_1107
  | 4, _ => exact W_1108
  | 5, _ => exact W_1109
  | 6, _ => exact W_1110
  | 7, _ => exact W_1111
  | 8, _ => exact W_1112
  | 9, _ => exact W_1113
  | k + 10, hk => omega
theorem iT_9 : ∀ w ∈ u_ws RX9 TX9 9, w ∈ jT := by
  intro w hw
  obtain ⟨k, hk, rfl⟩ := List.mem_map.mp hw
  have hk := List.mem_range.mp hk
  match k, hk with
  | 0, _ => exact W_1114
  | 1, _ => exact W_1115
  | 2, _ => exact W_1116
  | 3, _ => exact W_1117
  | 4, _ => exact W_1118
  | 5, _ => exact W_1119
  | 6, _ => exact W_1120
  | 7, _ => exact W_1121
  | 8, _ => exact W_1122
  | k + 9, hk => omega
theorem iT_10 : ∀ w ∈ u_ws RX10 TX10 2, w ∈ jT := by
  intro w hw
  obtain ⟨k, hk, rfl⟩ := List.mem_map.mp hw
  have hk := List.mem_range.mp hk
  match k, hk with
  | 0, _ => exact W_1123
  | 1, _ => exact W_1124
  | k + 2, hk => omega
theorem iT_11 : ∀ w ∈ u_ws RX11 TX11 17, w ∈ jT := by
  intro w hw
  obtain ⟨k, hk, rfl⟩ := List.mem_map.mp hw
  have hk := List.mem_range.mp hk
  match k, hk with
  | 0, _ => exact W_1125
  | 1, _ => exact W_1126
  | 2, _ => exact W_1127
  | 3, _ => exact W_1128
  | 4, _ => exact W_1129
  | 5, _ => exact W_1130
  | 6, _ => exact W_1131
  | 7, _ => exact W_1132
  | 8, _ => exact W_1133
  | 9, _ => exact W_1134
  | 10, _ => exact W_1135
  | 11, _ => exact W_1136
  | 12, _ => exact W_1137
  | 13, _ => exact W_1138
  | 14, _ => exact W_1139
  | 15, _ => exact W_1140
  | 16, _ => exact W_1141
  | k + 17, hk => omega
theorem iT_12 : ∀ w ∈ u_ws RX12 TX12 67, w ∈ jT := by
  intro w hw
  obtain ⟨k, hk, rfl⟩ := List.mem_map.mp hw
  have hk := List.mem_range.mp hk
  match k, hk with
  | 0, _ => exact W_1142
  | 1, _ => exact W_1143
  | 2, _ => exact W_1144
  | 3, _ => exact W_1145
  | 4, _ => exact W_1146
  | 5, _ => exact W_1147
  | 6, _ => exact W_1148
  | 7, _ => exact W_1149
  | 8, _ => exact W_1150
  | 9, _ => exact W_1151
  | 10, _ => exact W_1152
  | 11, _ => exact W_1153
  | 12, _ => exact W_1154
  | 13, _ => exact W_1155
  | 14, _ => exact W_1156
  | 15, _ => exact W_1157
  | 16, _ => exact W_1158
  | 17, _ => exact W_1159
  | 18, _ => exact W_1160
  | 19, _ => exact W_1161
  | 20, _ => exact W_1162
  | 21, _ => exact W_1163
  | 22, _ => exact W_1164
  | 23, _ => exact W_1165
  | 24, _ => exact W_1166
  | 25, _ => exact W_1167
  | 26, _ => exact W_1168
  | 27, _ => exact W_1169
  | 28, _ => exact W_1170
  | 29, _ => exact W_1171
  | 30, _ => exact W_1172
  | 31, _ => exact W_1173
  | 32, _ => exact W_1174
  | 33, _ => exact W_1175
  | 34, _ => exact W_1176
  | 35, _ => exact W_1177
  | 36, _ => exact W_1178
  | 37, _ => exact W_1179
  | 38, _ => exact W_1180
  | 39, _ => exact W_1181
  | 40, _ => exact W_1182
  | 41, _ => exact W_1183
  | 42, _ => exact W_1184
  | 43, _ => exact W_1185
  | 44, _ => exact W_1186
  | 45, _ => exact W_1187
  | 46, _ => exact W_1188
  | 47, _ => exact W_1189
  | 48, _ => exact W_1190
  | 49, _ => exact W_1191
  | 50, _ => exact W_1192
  | 51, _ => exact W_1193
  | 52, _ => exact W_1194
  | 53, _ => exact W_1195
  | 54, _ => exact W_1196
  | 55, _ => exact W_1197
  | 56, _ => exact W_1198
  | 57, _ => exact W_1199
  | 58, _ => exact W_1200
  | 59, _ => exact W_1201
  | 60, _ => exact W_1202
  | 61, _ => exact W_1203
  | 62, _ => exact W_1204
  | 63, _ => exact W_1205
  | 64, _ => exact W_1206
  | 65, _ => exact W_1207
  | 66, _ => exact W_1208
  | k + 67, hk => omega
abbrev w_J6_bitCount_0f7a4 : List Cond := .code yJ6_bitCount_0f7a4 cJ6_bitCount_0f7a4 1 (some .int) :: jT
abbrev w_J7_copyOf_c38d5 : List Cond := .code yJ7_copyOf_c38d5 cJ7_copyOf_c38d5 3 (some (.array .long)) :: jT
abbrev w_J7_fill_53178 : List Cond := .code yJ7_fill_53178 cJ7_fill_53178 4 none :: jT
abbrev w_J7_fill_d0a16 : List Cond := .code yJ7_fill_d0a16 cJ7_fill_d0a16 5 none :: jT
abbrev w_L_of : List Cond := .codeWith yL_of cL_of 5 (some .int) [(0, 10, 13, 13)] :: jT
abbrev w_L_row : List Cond := .codeWith yL_row cL_row 4 (some .int) [(0, 8, 11, 13)] :: jT
abbrev w_L_step : List Cond := .codeWith yL_step cL_step 5 (some .int) [(0, 10, 13, 13)] :: jT
abbrev w_X0_addReach : List Cond := .code yX0_addReach cX0_addReach 9 none :: jT
abbrev w_X0_easiest : List Cond := .code yX0_easiest cX0_easiest 3 (some .long) :: jT
abbrev w_X0_findReach : List Cond := .code yX0_findReach cX0_findReach 4 none :: jT
abbrev w_X0_firstAbove : List Cond := .code yX0_firstAbove cX0_firstAbove 6 (some .long) :: jT
abbrev w_X0_init : List Cond := .code yX0_init cX0_init 1 none :: jT
abbrev w_X0_isInReach : List Cond := .code yX0_isInReach cX0_isInReach 4 (some .boolean) :: jT
abbrev w_X0_keepOnTheWay : List Cond := .code yX0_keepOnTheWay cX0_keepOnTheWay 8 none :: jT
abbrev w_X0_tally : List Cond := .code yX0_tally cX0_tally 9 (some .long) :: jT
abbrev w_X10_append : List Cond := .code yX10_append cX10_append 3 (some .boolean) :: jT
abbrev w_X10_clear : List Cond := .code yX10_clear cX10_clear 1 none :: jT
abbrev w_X10_cut : List Cond := .code yX10_cut cX10_cut 2 (some .boolean) :: jT
abbrev w_X10_init : List Cond := .code yX10_init cX10_init 1 none :: jT
abbrev w_X10_isDigit : List Cond := .code yX10_isDigit cX10_isDigit 1 (some .boolean) :: jT
abbrev w_X10_signAt : List Cond := .code yX10_signAt cX10_signAt 2 (some .int) :: jT
abbrev w_X11_again : List Cond := .code yX11_again cX11_again 5 (some .boolean) :: jT
abbrev w_X11_all : List Cond := .code yX11_all cX11_all 1 (some .int) :: jT
abbrev w_X11_bears : List Cond := .code yX11_bears cX11_bears 6 (some .int) :: jT
abbrev w_X11_best : List Cond := .code yX11_best cX11_best 3 (some .int) :: jT
abbrev w_X11_bitOf : List Cond := .code yX11_bitOf cX11_bitOf 1 (some .long) :: jT
abbrev w_X11_breaks : List Cond := .code yX11_breaks cX11_breaks 8 (some .int) :: jT
abbrev w_X11_climb : List Cond := .code yX11_climb cX11_climb 6 (some .int) :: jT
abbrev w_X11_climbAllTo : List Cond := .code yX11_climbAllTo cX11_climbAllTo 4 none :: jT
abbrev w_X11_costIn : List Cond := .code yX11_costIn cX11_costIn 2 (some .int) :: jT
abbrev w_X11_costs : List Cond := .code yX11_costs cX11_costs 4 (some .int) :: jT
abbrev w_X11_count : List Cond := .code yX11_count cX11_count 2 (some .int) :: jT
abbrev w_X11_dies : List Cond := .code yX11_dies cX11_dies 5 (some .int) :: jT
abbrev w_X11_divide : List Cond := .code yX11_divide cX11_divide 7 none :: jT
abbrev w_X11_earned : List Cond := .code yX11_earned cX11_earned 2 (some .int) :: jT
abbrev w_X11_effortIn : List Cond := .code yX11_effortIn cX11_effortIn 2 (some .int) :: jT
abbrev w_X11_end : List Cond := .code yX11_end cX11_end 2 (some .boolean) :: jT
abbrev w_X11_entryOf : List Cond := .code yX11_entryOf cX11_entryOf 3 (some .int) :: jT
abbrev w_X11_feast : List Cond := .code yX11_feast cX11_feast 3 (some .int) :: jT
abbrev w_X11_feud : List Cond := .code yX11_feud cX11_feud 4 (some .boolean) :: jT
abbrev w_X11_fewestOver : List Cond := .code yX11_fewestOver cX11_fewestOver 6 (some .int) :: jT
abbrev w_X11_find : List Cond := .code yX11_find cX11_find 2 (some (.object "StairsInSteps$Pilgrim")) :: jT
abbrev w_X11_haggle : List Cond := .code yX11_haggle cX11_haggle 5 (some .boolean) :: jT
abbrev w_X11_hold : List Cond := .code yX11_hold cX11_hold 6 none :: jT
abbrev w_X11_init : List Cond := .code yX11_init cX11_init 1 none :: jT
abbrev w_X11_isAsked : List Cond := .code yX11_isAsked cX11_isAsked 1 (some .boolean) :: jT
abbrev w_X11_isFamily : List Cond := .code yX11_isFamily cX11_isFamily 1 (some .boolean) :: jT
abbrev w_X11_jam : List Cond := .code yX11_jam cX11_jam 3 (some .int) :: jT
abbrev w_X11_keep : List Cond := .code yX11_keep cX11_keep 5 (some .boolean) :: jT
abbrev w_X11_knees : List Cond := .code yX11_knees cX11_knees 5 (some .int) :: jT
abbrev w_X11_lamps : List Cond := .code yX11_lamps cX11_lamps 3 (some .int) :: jT
abbrev w_X11_law : List Cond := .code yX11_law cX11_law 3 (some .int) :: jT
abbrev w_X11_lead : List Cond := .code yX11_lead cX11_lead 5 none :: jT
abbrev w_X11_market : List Cond := .code yX11_market cX11_market 5 (some .int) :: jT
abbrev w_X11_measureAllAt : List Cond := .code yX11_measureAllAt cX11_measureAllAt 4 none :: jT
abbrev w_X11_mends : List Cond := .code yX11_mends cX11_mends 3 (some .int) :: jT
abbrev w_X11_mostPaid : List Cond := .code yX11_mostPaid cX11_mostPaid 3 (some .int) :: jT
abbrev w_X11_movesIn : List Cond := .code yX11_movesIn cX11_movesIn 2 (some .int) :: jT
abbrev w_X11_next : List Cond := .code yX11_next cX11_next 6 (some .int) :: jT
abbrev w_X11_of : List Cond := .code yX11_of cX11_of 4 (some .int) :: jT
abbrev w_X11_parts : List Cond := .code yX11_parts cX11_parts 3 (some .int) :: jT
abbrev w_X11_payForMove : List Cond := .code yX11_payForMove cX11_payForMove 5 none :: jT
abbrev w_X11_peace : List Cond := .code yX11_peace cX11_peace 6 (some .int) :: jT
abbrev w_X11_pilgrim : List Cond := .code yX11_pilgrim cX11_pilgrim 6 (some .int) :: jT
abbrev w_X11_rail : List Cond := .code yX11_rail cX11_rail 4 (some .int) :: jT
abbrev w_X11_rests : List Cond := .code yX11_rests cX11_rests 5 (some .int) :: jT
abbrev w_X11_returns : List Cond := .code yX11_returns cX11_returns 4 (some .int) :: jT
abbrev w_X11_row : List Cond := .code yX11_row cX11_row 2 (some .long) :: jT
abbrev w_X11_rules : List Cond := .code yX11_rules cX11_rules 4 (some .int) :: jT
abbrev w_X11_sells : List Cond := .code yX11_sells cX11_sells 7 (some .int) :: jT
abbrev w_X11_set : List Cond := .code yX11_set cX11_set 5 (some .int) :: jT
abbrev w_X11_sheet : List Cond := .code yX11_sheet cX11_sheet 8 (some .int) :: jT
abbrev w_X11_shut : List Cond := .code yX11_shut cX11_shut 2 (some .int) :: jT
abbrev w_X11_sign : List Cond := .code yX11_sign cX11_sign 2 (some .int) :: jT
abbrev w_X11_stairs : List Cond := .code yX11_stairs cX11_stairs 4 (some .int) :: jT
abbrev w_X11_step : List Cond := .code yX11_step cX11_step 3 (some .int) :: jT
abbrev w_X11_sumOfPurses : List Cond := .code yX11_sumOfPurses cX11_sumOfPurses 3 (some .int) :: jT
abbrev w_X11_sumUp : List Cond := .code yX11_sumUp cX11_sumUp 7 none :: jT
abbrev w_X11_tellDifferences : List Cond := .code yX11_tellDifferences cX11_tellDifferences 3 (some .int) :: jT
abbrev w_X11_tellFraction : List Cond := .code yX11_tellFraction cX11_tellFraction 12 none :: jT
abbrev w_X11_tellMore : List Cond := .code yX11_tellMore cX11_tellMore 3 none :: jT
abbrev w_X11_tellNothing : List Cond := .code yX11_tellNothing cX11_tellNothing 1 none :: jT
abbrev w_X11_tellOne : List Cond := .code yX11_tellOne cX11_tellOne 3 none :: jT
abbrev w_X11_tellTwo : List Cond := .code yX11_tellTwo cX11_tellTwo 5 none :: jT
abbrev w_X11_toll : List Cond := .code yX11_toll cX11_toll 4 (some .int) :: jT
abbrev w_X11_tread : List Cond := .code yX11_tread cX11_tread 6 (some .int) :: jT
abbrev w_X11_treads : List Cond := .code yX11_treads cX11_treads 3 (some .boolean) :: jT
abbrev w_X11_trod : List Cond := .code yX11_trod cX11_trod 7 (some .int) :: jT
abbrev w_X11_undo : List Cond := .code yX11_undo cX11_undo 1 (some .int) :: jT
abbrev w_X11_vow : List Cond := .code yX11_vow cX11_vow 5 (some .int) :: jT
abbrev w_X11_ways : List Cond := .code yX11_ways cX11_ways 6 (some .long) :: jT
abbrev w_X11_wears : List Cond := .code yX11_wears cX11_wears 4 (some .int) :: jT
abbrev w_X11_weigh : List Cond := .code yX11_weigh cX11_weigh 4 none :: jT
abbrev w_X11_weighAlone : List Cond := .code yX11_weighAlone cX11_weighAlone 4 none :: jT
abbrev w_X11_who : List Cond := .code yX11_who cX11_who 6 (some .int) :: jT
abbrev w_X11_whole : List Cond := .code yX11_whole cX11_whole 3 (some .int) :: jT
abbrev w_X11_would : List Cond := .code yX11_would cX11_would 3 (some .int) :: jT
abbrev w_X12_again : List Cond := .code yX12_again cX12_again 6 (some .boolean) :: jT
abbrev w_X12_all : List Cond := .code yX12_all cX12_all 1 (some .int) :: jT
abbrev w_X12_bears : List Cond := .code yX12_bears cX12_bears 5 (some .int) :: jT
abbrev w_X12_begin : List Cond := .code yX12_begin cX12_begin 4 none :: jT
abbrev w_X12_best : List Cond := .code yX12_best cX12_best 3 (some .int) :: jT
abbrev w_X12_breaks : List Cond := .code yX12_breaks cX12_breaks 7 (some .int) :: jT
abbrev w_X12_climb : List Cond := .code yX12_climb cX12_climb 3 (some .int) :: jT
abbrev w_X12_costOf : List Cond := .code yX12_costOf cX12_costOf 7 (some .int) :: jT
abbrev w_X12_costs : List Cond := .code yX12_costs cX12_costs 3 (some .int) :: jT
abbrev w_X12_count : List Cond := .code yX12_count cX12_count 5 (some .int) :: jT
abbrev w_X12_countTreading : List Cond := .code yX12_countTreading cX12_countTreading 6 (some .int) :: jT
abbrev w_X12_countWays : List Cond := .code yX12_countWays cX12_countWays 11 (some .int) :: jT
abbrev w_X12_dies : List Cond := .code yX12_dies cX12_dies 9 (some .int) :: jT
abbrev w_X12_divide : List Cond := .code yX12_divide cX12_divide 10 none :: jT
abbrev w_X12_earn : List Cond := .code yX12_earn cX12_earn 5 none :: jT
abbrev w_X12_earned : List Cond := .code yX12_earned cX12_earned 4 (some .int) :: jT
abbrev w_X12_effortOf : List Cond := .code yX12_effortOf cX12_effortOf 6 (some .int) :: jT
abbrev w_X12_end : List Cond := .code yX12_end cX12_end 2 (some .boolean) :: jT
abbrev w_X12_fault : List Cond := .code yX12_fault cX12_fault 2 none :: jT
abbrev w_X12_feast : List Cond := .code yX12_feast cX12_feast 6 (some .int) :: jT
abbrev w_X12_feud : List Cond := .code yX12_feud cX12_feud 4 (some .boolean) :: jT
abbrev w_X12_findAll : List Cond := .code yX12_findAll cX12_findAll 2 none :: jT
abbrev w_X12_findBest : List Cond := .code yX12_findBest cX12_findBest 5 (some .int) :: jT
abbrev w_X12_findByCost : List Cond := .code yX12_findByCost cX12_findByCost 8 none :: jT
abbrev w_X12_findByEffort : List Cond := .code yX12_findByEffort cX12_findByEffort 8 none :: jT
abbrev w_X12_findClimb : List Cond := .code yX12_findClimb cX12_findClimb 6 (some .boolean) :: jT
abbrev w_X12_fine : List Cond := .code yX12_fine cX12_fine 1 (some .boolean) :: jT
abbrev w_X12_has : List Cond := .code yX12_has cX12_has 2 (some .boolean) :: jT
abbrev w_X12_held : List Cond := .code yX12_held cX12_held 3 (some .int) :: jT
abbrev w_X12_here : List Cond := .code yX12_here cX12_here 1 (some .int) :: jT
abbrev w_X12_in : List Cond := .code yX12_in cX12_in 3 (some .boolean) :: jT
abbrev w_X12_init : List Cond := .code yX12_init cX12_init 1 none :: jT
abbrev w_X12_isCost : List Cond := .code yX12_isCost cX12_isCost 1 (some .boolean) :: jT
abbrev w_X12_isFamily : List Cond := .code yX12_isFamily cX12_isFamily 1 (some .boolean) :: jT
abbrev w_X12_isMove : List Cond := .code yX12_isMove cX12_isMove 4 (some .boolean) :: jT
abbrev w_X12_isOn : List Cond := .code yX12_isOn cX12_isOn 6 (some .boolean) :: jT
abbrev w_X12_isOne : List Cond := .code yX12_isOne cX12_isOne 2 (some .boolean) :: jT
abbrev w_X12_isStep : List Cond := .code yX12_isStep cX12_isStep 2 (some .boolean) :: jT
abbrev w_X12_jam : List Cond := .code yX12_jam cX12_jam 3 (some .int) :: jT
abbrev w_X12_keep : List Cond := .code yX12_keep cX12_keep 3 (some .boolean) :: jT
abbrev w_X12_knees : List Cond := .code yX12_knees cX12_knees 3 (some .int) :: jT
abbrev w_X12_lamps : List Cond := .code yX12_lamps cX12_lamps 5 (some .int) :: jT
abbrev w_X12_law : List Cond := .code yX12_law cX12_law 4 (some .int) :: jT
abbrev w_X12_lawOf : List Cond := .code yX12_lawOf cX12_lawOf 6 (some .int) :: jT
abbrev w_X12_layMoves : List Cond := .code yX12_layMoves cX12_layMoves 6 none :: jT
abbrev w_X12_letter : List Cond := .code yX12_letter cX12_letter 2 (some .int) :: jT
abbrev w_X12_lost : List Cond := .code yX12_lost cX12_lost 1 (some .int) :: jT
abbrev w_X12_mainOf : List Cond := .code yX12_mainOf cX12_mainOf 4 (some .int) :: jT
abbrev w_X12_market : List Cond := .code yX12_market cX12_market 8 (some .int) :: jT
abbrev w_X12_mends : List Cond := .code yX12_mends cX12_mends 3 (some .int) :: jT
abbrev w_X12_need : List Cond := .code yX12_need cX12_need 2 none :: jT
abbrev w_X12_next : List Cond := .code yX12_next cX12_next 4 (some .int) :: jT
abbrev w_X12_number : List Cond := .code yX12_number cX12_number 6 (some .int) :: jT
abbrev w_X12_of : List Cond := .code yX12_of cX12_of 3 (some .int) :: jT
abbrev w_X12_onStep : List Cond := .code yX12_onStep cX12_onStep 4 (some .int) :: jT
abbrev w_X12_paidTo : List Cond := .code yX12_paidTo cX12_paidTo 9 (some .int) :: jT
abbrev w_X12_parts : List Cond := .code yX12_parts cX12_parts 3 (some .int) :: jT
abbrev w_X12_passes : List Cond := .code yX12_passes cX12_passes 2 (some .boolean) :: jT
abbrev w_X12_peace : List Cond := .code yX12_peace cX12_peace 7 (some .int) :: jT
abbrev w_X12_pilgrim : List Cond := .code yX12_pilgrim cX12_pilgrim 5 (some .int) :: jT
abbrev w_X12_placeOf : List Cond := .code yX12_placeOf cX12_placeOf 2 (some .int) :: jT
abbrev w_X12_product : List Cond := .code yX12_product cX12_product 5 (some .int) :: jT
abbrev w_X12_put : List Cond := .code yX12_put cX12_put 2 none :: jT
abbrev w_X12_rail : List Cond := .code yX12_rail cX12_rail 4 (some .int) :: jT
abbrev w_X12_readLine : List Cond := .code yX12_readLine cX12_readLine 10 (some .int) :: jT
abbrev w_X12_rememberParts : List Cond := .code yX12_rememberParts cX12_rememberParts 3 none :: jT
abbrev w_X12_rests : List Cond := .code yX12_rests cX12_rests 5 (some .int) :: jT
abbrev w_X12_returns : List Cond := .code yX12_returns cX12_returns 3 (some .int) :: jT
abbrev w_X12_row : List Cond := .code yX12_row cX12_row 2 (some .long) :: jT
abbrev w_X12_rules : List Cond := .code yX12_rules cX12_rules 7 (some .int) :: jT
abbrev w_X12_runFeast : List Cond := .code yX12_runFeast cX12_runFeast 7 (some .int) :: jT
abbrev w_X12_sells : List Cond := .code yX12_sells cX12_sells 8 (some .int) :: jT
abbrev w_X12_set : List Cond := .code yX12_set cX12_set 5 (some .int) :: jT
abbrev w_X12_setFeud : List Cond := .code yX12_setFeud cX12_setFeud 4 none :: jT
abbrev w_X12_sheet : List Cond := .code yX12_sheet cX12_sheet 9 (some .int) :: jT
abbrev w_X12_shut : List Cond := .code yX12_shut cX12_shut 5 (some .int) :: jT
abbrev w_X12_sign : List Cond := .code yX12_sign cX12_sign 3 (some .int) :: jT
abbrev w_X12_stairs : List Cond := .code yX12_stairs cX12_stairs 5 (some .int) :: jT
abbrev w_X12_step : List Cond := .code yX12_step cX12_step 3 (some .int) :: jT
abbrev w_X12_sum : List Cond := .code yX12_sum cX12_sum 5 (some .int) :: jT
abbrev w_X12_take : List Cond := .code yX12_take cX12_take 1 (some .int) :: jT
abbrev w_X12_tell : List Cond := .code yX12_tell cX12_tell 3 none :: jT
abbrev w_X12_tellMore : List Cond := .code yX12_tellMore cX12_tellMore 4 (some .int) :: jT
abbrev w_X12_tellPart : List Cond := .code yX12_tellPart cX12_tellPart 11 none :: jT
abbrev w_X12_thing : List Cond := .code yX12_thing cX12_thing 4 (some .int) :: jT
abbrev w_X12_thrown : List Cond := .code yX12_thrown cX12_thrown 1 (some .int) :: jT
abbrev w_X12_toll : List Cond := .code yX12_toll cX12_toll 5 (some .int) :: jT
abbrev w_X12_tread : List Cond := .code yX12_tread cX12_tread 8 (some .int) :: jT
abbrev w_X12_trod : List Cond := .code yX12_trod cX12_trod 6 (some .int) :: jT
abbrev w_X12_undo : List Cond := .code yX12_undo cX12_undo 2 (some .int) :: jT
abbrev w_X12_vow : List Cond := .code yX12_vow cX12_vow 4 (some .int) :: jT
abbrev w_X12_ways : List Cond := .code yX12_ways cX12_ways 4 (some .long) :: jT
abbrev w_X12_wears : List Cond := .code yX12_wears cX12_wears 4 (some .int) :: jT
abbrev w_X12_who : List Cond := .code yX12_who cX12_who 5 (some .int) :: jT
abbrev w_X12_whole : List Cond := .code yX12_whole cX12_whole 6 (some .int) :: jT
abbrev w_X12_would : List Cond := .code yX12_would cX12_would 3 (some .int) :: jT
abbrev w_X1_goOn : List Cond := .code yX1_goOn cX1_goOn 4 none :: jT
abbrev w_X1_init : List Cond := .code yX1_init cX1_init 1 none :: jT
abbrev w_X1_invite : List Cond := .code yX1_invite cX1_invite 4 none :: jT
abbrev w_X1_longestWaiting : List Cond := .code yX1_longestWaiting cX1_longestWaiting 3 (some .int) :: jT
abbrev w_X1_passMinute : List Cond := .code yX1_passMinute cX1_passMinute 4 none :: jT
abbrev w_X1_prepare : List Cond := .code yX1_prepare cX1_prepare 3 none :: jT
abbrev w_X1_run : List Cond := .code yX1_run cX1_run 4 none :: jT
abbrev w_X2_getPilgrim : List Cond := .code yX2_getPilgrim cX2_getPilgrim 3 none :: jT
abbrev w_X2_getStairs : List Cond := .code yX2_getStairs cX2_getStairs 2 none :: jT
abbrev w_X2_init : List Cond := .code yX2_init cX2_init 1 none :: jT
abbrev w_X2_putPilgrim : List Cond := .code yX2_putPilgrim cX2_putPilgrim 3 none :: jT
abbrev w_X2_putStairs : List Cond := .code yX2_putStairs cX2_putStairs 2 none :: jT
abbrev w_X3_emit : List Cond := .code yX3_emit cX3_emit 2 none :: jT
abbrev w_X3_init : List Cond := .code yX3_init cX3_init 1 none :: jT
abbrev w_X3_isAhead : List Cond := .code yX3_isAhead cX3_isAhead 5 (some .boolean) :: jT
abbrev w_X3_isTold : List Cond := .code yX3_isTold cX3_isTold 1 (some .boolean) :: jT
abbrev w_X3_join : List Cond := .code yX3_join cX3_join 3 (some .int) :: jT
abbrev w_X3_look : List Cond := .code yX3_look cX3_look 2 (some .int) :: jT
abbrev w_X3_names : List Cond := .code yX3_names cX3_names 2 (some .boolean) :: jT
abbrev w_X3_priceFor : List Cond := .code yX3_priceFor cX3_priceFor 6 (some .int) :: jT
abbrev w_X3_read : List Cond := .code yX3_read cX3_read 3 (some .int) :: jT
abbrev w_X3_readClosing : List Cond := .code yX3_readClosing cX3_readClosing 2 none :: jT
abbrev w_X3_readNumber : List Cond := .code yX3_readNumber cX3_readNumber 4 none :: jT
abbrev w_X4_deal : List Cond := .code yX4_deal cX4_deal 4 none :: jT
abbrev w_X4_findMain : List Cond := .code yX4_findMain cX4_findMain 4 none :: jT
abbrev w_X4_findMains : List Cond := .code yX4_findMains cX4_findMains 2 none :: jT
abbrev w_X4_inherit : List Cond := .code yX4_inherit cX4_inherit 8 none :: jT
abbrev w_X4_init : List Cond := .code yX4_init cX4_init 1 none :: jT
abbrev w_X4_mainOf : List Cond := .code yX4_mainOf cX4_mainOf 2 (some .int) :: jT
abbrev w_X4_mainsInto : List Cond := .code yX4_mainsInto cX4_mainsInto 4 none :: jT
abbrev w_X4_move : List Cond := .code yX4_move cX4_move 5 none :: jT
abbrev w_X4_remember : List Cond := .code yX4_remember cX4_remember 2 none :: jT
abbrev w_X4_restore : List Cond := .code yX4_restore cX4_restore 2 none :: jT
abbrev w_X4_shareInto : List Cond := .code yX4_shareInto cX4_shareInto 4 none :: jT
abbrev w_X4_shareOf : List Cond := .code yX4_shareOf cX4_shareOf 3 (some .int) :: jT
abbrev w_X4_sumInto : List Cond := .code yX4_sumInto cX4_sumInto 3 none :: jT
abbrev w_X4_sumOf : List Cond := .code yX4_sumOf cX4_sumOf 4 (some .int) :: jT
abbrev w_X4_takeBack : List Cond := .code yX4_takeBack cX4_takeBack 2 (some .boolean) :: jT
abbrev w_X5_comesTo : List Cond := .code yX5_comesTo cX5_comesTo 2 (some .boolean) :: jT
abbrev w_X5_init : List Cond := .code yX5_init cX5_init 6 none :: jT
abbrev w_X5_startAnew : List Cond := .code yX5_startAnew cX5_startAnew 1 none :: jT
abbrev w_X5_vowsAgainst : List Cond := .code yX5_vowsAgainst cX5_vowsAgainst 2 (some .boolean) :: jT
abbrev w_X6_addOffers : List Cond := .code yX6_addOffers cX6_addOffers 6 none :: jT
abbrev w_X6_cheapest : List Cond := .code yX6_cheapest cX6_cheapest 1 (some .long) :: jT
abbrev w_X6_feed : List Cond := .code yX6_feed cX6_feed 8 none :: jT
abbrev w_X6_init : List Cond := .code yX6_init cX6_init 5 none :: jT
abbrev w_X6_keyOf : List Cond := .code yX6_keyOf cX6_keyOf 4 (some .long) :: jT
abbrev w_X6_lay : List Cond := .code yX6_lay cX6_lay 6 none :: jT
abbrev w_X6_leastEffortFrom : List Cond := .code yX6_leastEffortFrom cX6_leastEffortFrom 4 (some .int) :: jT
abbrev w_X6_leastEffortUp : List Cond := .code yX6_leastEffortUp cX6_leastEffortUp 4 (some .int) :: jT
abbrev w_X6_lower : List Cond := .code yX6_lower cX6_lower 3 none :: jT
abbrev w_X6_measure : List Cond := .code yX6_measure cX6_measure 6 none :: jT
abbrev w_X6_moveTo : List Cond := .code yX6_moveTo cX6_moveTo 2 (some .int) :: jT
abbrev w_X6_offerBy : List Cond := .code yX6_offerBy cX6_offerBy 15 none :: jT
abbrev w_X6_raiseOne : List Cond := .code yX6_raiseOne cX6_raiseOne 2 none :: jT
abbrev w_X6_raiseTo : List Cond := .code yX6_raiseTo cX6_raiseTo 3 none :: jT
abbrev w_X6_survey : List Cond := .code yX6_survey cX6_survey 2 none :: jT
abbrev w_X7_begin : List Cond := .code yX7_begin cX7_begin 4 none :: jT
abbrev w_X7_init : List Cond := .code yX7_init cX7_init 1 none :: jT
abbrev w_X7_keepCheapest : List Cond := .code yX7_keepCheapest cX7_keepCheapest 8 none :: jT
abbrev w_X7_keepEachCost : List Cond := .code yX7_keepEachCost cX7_keepEachCost 8 none :: jT
abbrev w_X7_keyAt : List Cond := .code yX7_keyAt cX7_keyAt 3 (some .long) :: jT
abbrev w_X7_leastJoined : List Cond := .code yX7_leastJoined cX7_leastJoined 15 (some .long) :: jT
abbrev w_X7_merge : List Cond := .code yX7_merge cX7_merge 5 none :: jT
abbrev w_X7_push : List Cond := .code yX7_push cX7_push 4 none :: jT
abbrev w_X7_pushSummed : List Cond := .code yX7_pushSummed cX7_pushSummed 5 none :: jT
abbrev w_X7_sizeAt : List Cond := .code yX7_sizeAt cX7_sizeAt 2 (some .int) :: jT
abbrev w_X7_start : List Cond := .code yX7_start cX7_start 2 none :: jT
abbrev w_X7_take : List Cond := .code yX7_take cX7_take 5 (some .long) :: jT
abbrev w_X8_build : List Cond := .code yX8_build cX8_build 2 none :: jT
abbrev w_X8_costOfMove : List Cond := .code yX8_costOfMove cX8_costOfMove 7 (some .int) :: jT
abbrev w_X8_effortOfMove : List Cond := .code yX8_effortOfMove cX8_effortOfMove 6 (some .int) :: jT
abbrev w_X8_has : List Cond := .code yX8_has cX8_has 2 (some .boolean) :: jT
abbrev w_X8_inFeud : List Cond := .code yX8_inFeud cX8_inFeud 3 (some .boolean) :: jT
abbrev w_X8_init : List Cond := .code yX8_init cX8_init 1 none :: jT
abbrev w_X8_mindsFeud : List Cond := .code yX8_mindsFeud cX8_mindsFeud 8 (some .boolean) :: jT
abbrev w_X8_priceOf : List Cond := .code yX8_priceOf cX8_priceOf 7 (some .int) :: jT
abbrev w_X8_pricesInto : List Cond := .code yX8_pricesInto cX8_pricesInto 11 none :: jT
abbrev w_X8_putLetters : List Cond := .code yX8_putLetters cX8_putLetters 5 none :: jT
abbrev w_X8_quarrel : List Cond := .code yX8_quarrel cX8_quarrel 4 none :: jT
abbrev w_X8_sumOfAsks : List Cond := .code yX8_sumOfAsks cX8_sumOfAsks 3 (some .int) :: jT
abbrev w_X8_sumOfFeuds : List Cond := .code yX8_sumOfFeuds cX8_sumOfFeuds 3 (some .int) :: jT
abbrev w_X9_fail : List Cond := .code yX9_fail cX9_fail 2 (some .boolean) :: jT
abbrev w_X9_init : List Cond := .code yX9_init cX9_init 1 none :: jT
abbrev w_X9_look : List Cond := .code yX9_look cX9_look 2 (some .int) :: jT
abbrev w_X9_put : List Cond := .code yX9_put cX9_put 6 none :: jT
abbrev w_X9_read : List Cond := .code yX9_read cX9_read 4 (some .int) :: jT
abbrev w_X9_readBreak : List Cond := .code yX9_readBreak cX9_readBreak 2 (some .boolean) :: jT
abbrev w_X9_readFamily : List Cond := .code yX9_readFamily cX9_readFamily 3 (some .int) :: jT
abbrev w_X9_readLine : List Cond := .code yX9_readLine cX9_readLine 9 (some .boolean) :: jT
abbrev w_X9_readMark : List Cond := .code yX9_readMark cX9_readMark 3 (some .boolean) :: jT
abbrev w_X9_readNumber : List Cond := .code yX9_readNumber cX9_readNumber 7 (some .int) :: jT
abbrev w_X9_readTimes : List Cond := .code yX9_readTimes cX9_readTimes 2 (some .int) :: jT
