set_option maxHeartbeats 4000000 in
set_option maxRecDepth 100000 in
theorem p_X10_init : CTOR 10 f_X10_init := by
  intro B Z I L U h0 Q hC hk hB hU hUZ hI hL hQ
  have s0 := ST_start hC hk hB hUZ hI hL
  unfold f_X10_init
  intro q1 nq1 Z2 eZ2 I3 eI3 L4 eL4
  intro Z5 eZ5
  have s6 := ST_arr 0 (k := 13) (m := 80) s0 nq1 (by decide) (by decide) (shA rfl)
  rw [← eZ2, ← eZ5, ← eI3, ← eL4] at s6
  intro I7 eI7
  have s8 := ST_int 1 s6 (v := 0) rfl
  rw [← eI7] at s8
  obtain ⟨e1, e2, e3⟩ := ST_end s8 hU (shJ (by decide)) (by decide) (shK (by decide))
  exact hQ _ _ _ e1 e2 e3
set_option maxHeartbeats 4000000 in
set_option maxRecDepth 100000 in
theorem p_X9_init : CTOR 9 f_X9_init := by
  intro B Z I L U h0 Q hC hk hB hU hUZ hI hL hQ
  have s0 := ST_start hC hk hB hUZ hI hL
  unfold f_X9_init
  intro q1 nq1 Z2 eZ2 I3 eI3 L4 eL4
  intro Z5 eZ5
  have s6 := ST_arr 0 (k := 14) (m := 24) s0 nq1 (by decide) (by decide) (shA rfl)
  rw [← eZ2, ← eZ5, ← eI3, ← eL4] at s6
  intro q7 nq7 Z8 eZ8 I9 eI9 L10 eL10
  intro Z11 eZ11
  have s12 := ST_arr 1 (k := 14) (m := 24) s6 nq7 (by decide) (by decide) (shA rfl)
  rw [← eZ8, ← eZ11, ← eI9, ← eL10] at s12
  intro q13 nq13 Z14 eZ14 I15 eI15 L16 eL16
  intro Z17 eZ17
  have s18 := ST_arr 2 (k := 14) (m := 24) s12 nq13 (by decide) (by decide) (shA rfl)
  rw [← eZ14, ← eZ17, ← eI15, ← eL16] at s18
  intro q19 nq19 Z20 eZ20 I21 eI21 L22 eL22
  intro Z23 eZ23
  have s24 := ST_arr 3 (k := 14) (m := 24) s18 nq19 (by decide) (by decide) (shA rfl)
  rw [← eZ20, ← eZ23, ← eI21, ← eL22] at s24
  intro q25 nq25 Z26 eZ26 I27 eI27 L28 eL28
  intro Z29 eZ29
  have s30 := ST_arr 4 (k := 14) (m := 24) s24 nq25 (by decide) (by decide) (shA rfl)
  rw [← eZ26, ← eZ29, ← eI27, ← eL28] at s30
  intro I31 eI31
  have s32 := ST_int 5 s30 (v := 0) rfl
  rw [← eI31] at s32
  intro I33 eI33
  have s34 := ST_int 6 s32 (v := 0) rfl
  rw [← eI33] at s34
  intro I35 eI35
  have s36 := ST_int 7 s34 (v := 0) rfl
  rw [← eI35] at s36
  intro I37 eI37
  have s38 := ST_int 8 s36 (v := -1) rfl
  rw [← eI37] at s38
  obtain ⟨e1, e2, e3⟩ := ST_end s38 hU (shJ (by decide)) (by decide) (shK (by decide))
  exact hQ _ _ _ e1 e2 e3
set_option maxHeartbeats 4000000 in
set_option maxRecDepth 100000 in
theorem p_X4_init : CTOR 4 f_X4_init := by
  intro B Z I L U h0 Q hC hk hB hU hUZ hI hL hQ
  have s0 := ST_start hC hk hB hUZ hI hL
  unfold f_X4_init
  intro q1 nq1 Z2 eZ2 I3 eI3 L4 eL4
  intro Z5 eZ5
  have s6 := ST_arr 0 (k := 14) (m := 192) s0 nq1 (by decide) (by decide) (shA rfl)
  rw [← eZ2, ← eZ5, ← eI3, ← eL4] at s6
  intro q7 nq7 Z8 eZ8 I9 eI9 L10 eL10
  intro Z11 eZ11
  have s12 := ST_arr 1 (k := 14) (m := 24) s6 nq7 (by decide) (by decide) (shA rfl)
  rw [← eZ8, ← eZ11, ← eI9, ← eL10] at s12
  intro q13 nq13 Z14 eZ14 I15 eI15 L16 eL16
  intro Z17 eZ17
  have s18 := ST_arr 2 (k := 14) (m := 1536) s12 nq13 (by decide) (by decide) (shA rfl)
  rw [← eZ14, ← eZ17, ← eI15, ← eL16] at s18
  intro I19 eI19
  have s20 := ST_int 3 s18 (v := 0) rfl
  rw [← eI19] at s20
  intro I21 eI21
  have s22 := ST_int 4 s20 (v := 0) rfl
  rw [← eI21] at s22
  obtain ⟨e1, e2, e3⟩ := ST_end s22 hU (shJ (by decide)) (by decide) (shK (by decide))
  exact hQ _ _ _ e1 e2 e3
set_option maxHeartbeats 4000000 in
set_option maxRecDepth 100000 in
theorem p_X3_init : CTOR 3 f_X3_init := by
  intro B Z I L U h0 Q hC hk hB hU hUZ hI hL hQ
  have s0 := ST_start hC hk hB hUZ hI hL
  unfold f_X3_init
  intro q1 nq1 Z2 eZ2 I3 eI3 L4 eL4
  intro Z5 eZ5
  have s6 := ST_arr 0 (k := 14) (m := 40) s0 nq1 (by decide) (by decide) (shA rfl)
  rw [← eZ2, ← eZ5, ← eI3, ← eL4] at s6
  intro q7 nq7 Z8 eZ8 I9 eI9 L10 eL10
  intro Z11 eZ11
  have s12 := ST_arr 1 (k := 14) (m := 40) s6 nq7 (by decide) (by decide) (shA rfl)
  rw [← eZ8, ← eZ11, ← eI9, ← eL10] at s12
  intro q13 nq13 Z14 eZ14 I15 eI15 L16 eL16
  intro Z17 eZ17
  have s18 := ST_arr 2 (k := 14) (m := 41) s12 nq13 (by decide) (by decide) (shA rfl)
  rw [← eZ14, ← eZ17, ← eI15, ← eL16] at s18
  intro I19 eI19
  have s20 := ST_int 3 s18 (v := 0) rfl
  rw [← eI19] at s20
  intro I21 eI21
  have s22 := ST_int 4 s20 (v := 0) rfl
  rw [← eI21] at s22
  intro I23 eI23
  have s24 := ST_int 5 s22 (v := 0) rfl
  rw [← eI23] at s24
  intro I25 eI25
  have s26 := ST_int 6 s24 (v := 0) rfl
  rw [← eI25] at s26
  intro I27 eI27
  have s28 := ST_int 7 s26 (v := 0) rfl
  rw [← eI27] at s28
  intro I29 eI29
  have s30 := ST_int 8 s28 (v := -1) rfl
  rw [← eI29] at s30
  obtain ⟨e1, e2, e3⟩ := ST_end s30 hU (shJ (by decide)) (by decide) (shK (by decide))
  exact hQ _ _ _ e1 e2 e3
set_option maxHeartbeats 4000000 in
set_option maxRecDepth 100000 in
theorem p_X8_init : CTOR 8 f_X8_init := by
  intro B Z I L U h0 Q hC hk hB hU hUZ hI hL hQ
  have s0 := ST_start hC hk hB hUZ hI hL
  unfold f_X8_init
  intro q1 nq1 Z2 eZ2 I3 eI3 L4 eL4
  intro Z5 eZ5
  have s6 := ST_arr 0 (k := 14) (m := 24) s0 nq1 (by decide) (by decide) (shA rfl)
  rw [← eZ2, ← eZ5, ← eI3, ← eL4] at s6
  intro q7 nq7 Z8 eZ8 I9 eI9 L10 eL10
  intro Z11 eZ11
  have s12 := ST_arr 1 (k := 14) (m := 24) s6 nq7 (by decide) (by decide) (shA rfl)
  rw [← eZ8, ← eZ11, ← eI9, ← eL10] at s12
  intro q13 nq13 Z14 eZ14 I15 eI15 L16 eL16
  intro Z17 eZ17
  have s18 := ST_arr 2 (k := 14) (m := 24) s12 nq13 (by decide) (by decide) (shA rfl)
  rw [← eZ14, ← eZ17, ← eI15, ← eL16] at s18
  intro q19 nq19 Z20 eZ20 I21 eI21 L22 eL22
  intro Z23 eZ23
  have s24 := ST_arr 3 (k := 14) (m := 24) s18 nq19 (by decide) (by decide) (shA rfl)
  rw [← eZ20, ← eZ23, ← eI21, ← eL22] at s24
  intro q25 nq25 Z26 eZ26 I27 eI27 L28 eL28
  refine ST_obj p_X4_init s24 nq25 eZ26 eI27 eL28 (fun Z29 I30 L31 s32 kq25 uq25 _ _ => ?_)
  intro Z33 eZ33
  have s34 := ST_ref 4 s32 uq25 (shO rfl kq25)
  rw [← eZ33] at s34
  intro q35 nq35 Z36 eZ36 I37 eI37 L38 eL38
  intro Z39 eZ39
  have s40 := ST_arr 5 (k := 14) (m := 8) s34 nq35 (by decide) (by decide) (shA rfl)
  rw [← eZ36, ← eZ39, ← eI37, ← eL38] at s40
  intro q41 nq41 Z42 eZ42 I43 eI43 L44 eL44
  refine ST_obj p_X3_init s40 nq41 eZ42 eI43 eL44 (fun Z45 I46 L47 s48 kq41 uq41 _ _ => ?_)
  intro Z49 eZ49
  have s50 := ST_ref 6 s48 uq41 (shO rfl kq41)
  rw [← eZ49] at s50
  intro q51 nq51 Z52 eZ52 I53 eI53 L54 eL54
  refine ST_obj p_X3_init s50 nq51 eZ52 eI53 eL54 (fun Z55 I56 L57 s58 kq51 uq51 _ _ => ?_)
  intro Z59 eZ59
  have s60 := ST_ref 7 s58 uq51 (shO rfl kq51)
  rw [← eZ59] at s60
  intro q61 nq61 Z62 eZ62 I63 eI63 L64 eL64
  intro Z65 eZ65
  have s66 := ST_arr 8 (k := 14) (m := 7) s60 nq61 (by decide) (by decide) (shA rfl)
  rw [← eZ62, ← eZ65, ← eI63, ← eL64] at s66
  intro I67 eI67
  have s68 := ST_int 9 s66 (v := 0) rfl
  rw [← eI67] at s68
  obtain ⟨e1, e2, e3⟩ := ST_end s68 hU (shJ (by decide)) (by decide) (shK (by decide))
  exact hQ _ _ _ e1 e2 e3
set_option maxHeartbeats 4000000 in
set_option maxRecDepth 100000 in
theorem p_X7_init : CTOR 7 f_X7_init := by
  intro B Z I L U h0 Q hC hk hB hU hUZ hI hL hQ
  have s0 := ST_start hC hk hB hUZ hI hL
  unfold f_X7_init
  intro q1 nq1 Z2 eZ2 I3 eI3 L4 eL4
  intro Z5 eZ5
  have s6 := ST_arr 0 (k := 15) (m := 64) s0 nq1 (by decide) (by decide) (shAn rfl)
  rw [← eZ2, ← eZ5, ← eI3, ← eL4] at s6
  intro q7 nq7 Z8 eZ8 I9 eI9 L10 eL10
  intro Z11 eZ11
  have s12 := ST_arr 1 (k := 14) (m := 25) s6 nq7 (by decide) (by decide) (shA rfl)
  rw [← eZ8, ← eZ11, ← eI9, ← eL10] at s12
  intro q13 nq13 Z14 eZ14 I15 eI15 L16 eL16
  intro Z17 eZ17
  have s18 := ST_arr 2 (k := 14) (m := 25) s12 nq13 (by decide) (by decide) (shA rfl)
  rw [← eZ14, ← eZ17, ← eI15, ← eL16] at s18
  intro I19 eI19
  have s20 := ST_int 3 s18 (v := 0) rfl
  rw [← eI19] at s20
  intro q21 nq21 Z22 eZ22 I23 eI23 L24 eL24
  intro Z25 eZ25
  have s26 := ST_arr 4 (k := 14) (m := 3) s20 nq21 (by decide) (by decide) (shA rfl)
  rw [← eZ22, ← eZ25, ← eI23, ← eL24] at s26
  intro q27 nq27 Z28 eZ28 I29 eI29 L30 eL30
  intro Z31 eZ31
  have s32 := ST_arr 5 (k := 14) (m := 3) s26 nq27 (by decide) (by decide) (shA rfl)
  rw [← eZ28, ← eZ31, ← eI29, ← eL30] at s32
  intro q33 nq33 Z34 eZ34 I35 eI35 L36 eL36
  intro Z37 eZ37
  have s38 := ST_arr 6 (k := 15) (m := 3) s32 nq33 (by decide) (by decide) (shA rfl)
  rw [← eZ34, ← eZ37, ← eI35, ← eL36] at s38
  intro q39 nq39 Z40 eZ40 I41 eI41 L42 eL42
  intro Z43 eZ43
  have s44 := ST_arr 7 (k := 15) (m := 3) s38 nq39 (by decide) (by decide) (shA rfl)
  rw [← eZ40, ← eZ43, ← eI41, ← eL42] at s44
  intro I45 eI45
  have s46 := ST_int 8 s44 (v := 0) rfl
  rw [← eI45] at s46
  intro I47 eI47
  have s48 := ST_int 9 s46 (v := 0) rfl
  rw [← eI47] at s48
  obtain ⟨e1, e2, e3⟩ := ST_end s48 hU (shJ (by decide)) (by decide) (shK (by decide))
  exact hQ _ _ _ e1 e2 e3
set_option maxHeartbeats 4000000 in
set_option maxRecDepth 100000 in
theorem p_X0_init : CTOR 0 f_X0_init := by
  intro B Z I L U h0 Q hC hk hB hU hUZ hI hL hQ
  have s0 := ST_start hC hk hB hUZ hI hL
  unfold f_X0_init
  intro q1 nq1 Z2 eZ2 I3 eI3 L4 eL4
  refine ST_obj p_X7_init s0 nq1 eZ2 eI3 eL4 (fun Z5 I6 L7 s8 kq1 uq1 _ _ => ?_)
  intro Z9 eZ9
  have s10 := ST_ref 0 s8 uq1 (shO rfl kq1)
  rw [← eZ9] at s10
  intro q11 nq11 Z12 eZ12 I13 eI13 L14 eL14
  intro Z15 eZ15
  have s16 := ST_arr 1 (k := 15) (m := 400) s10 nq11 (by decide) (by decide) (shA rfl)
  rw [← eZ12, ← eZ15, ← eI13, ← eL14] at s16
  intro L17 eL17
  have s18 := ST_long 2 s16
  rw [← eL17] at s18
  obtain ⟨e1, e2, e3⟩ := ST_end s18 hU (shJ (by decide)) (by decide) (shK (by decide))
  exact hQ _ _ _ e1 e2 e3
set_option maxHeartbeats 4000000 in
set_option maxRecDepth 100000 in
theorem p_X1_init : CTOR 1 f_X1_init := by
  intro B Z I L U h0 Q hC hk hB hU hUZ hI hL hQ
  have s0 := ST_start hC hk hB hUZ hI hL
  unfold f_X1_init
  intro q1 nq1 Z2 eZ2 I3 eI3 L4 eL4
  intro Z5 eZ5
  have s6 := ST_arr 0 (k := 16) (m := 6) s0 nq1 (by decide) (by decide) (shA rfl)
  rw [← eZ2, ← eZ5, ← eI3, ← eL4] at s6
  intro q7 nq7 Z8 eZ8 I9 eI9 L10 eL10
  intro Z11 eZ11
  have s12 := ST_arr 1 (k := 15) (m := 6) s6 nq7 (by decide) (by decide) (shA rfl)
  rw [← eZ8, ← eZ11, ← eI9, ← eL10] at s12
  intro q13 nq13 Z14 eZ14 I15 eI15 L16 eL16
  intro Z17 eZ17
  have s18 := ST_arr 2 (k := 14) (m := 6) s12 nq13 (by decide) (by decide) (shA rfl)
  rw [← eZ14, ← eZ17, ← eI15, ← eL16] at s18
  intro q19 nq19 Z20 eZ20 I21 eI21 L22 eL22
  intro Z23 eZ23
  have s24 := ST_arr 3 (k := 14) (m := 6) s18 nq19 (by decide) (by decide) (shA rfl)
  rw [← eZ20, ← eZ23, ← eI21, ← eL22] at s24
  intro q25 nq25 Z26 eZ26 I27 eI27 L28 eL28
  intro Z29 eZ29
  have s30 := ST_arr 4 (k := 14) (m := 24) s24 nq25 (by decide) (by decide) (shA rfl)
  rw [← eZ26, ← eZ29, ← eI27, ← eL28] at s30
  intro q31 nq31 Z32 eZ32 I33 eI33 L34 eL34
  intro Z35 eZ35
  have s36 := ST_arr 5 (k := 14) (m := 24) s30 nq31 (by decide) (by decide) (shA rfl)
  rw [← eZ32, ← eZ35, ← eI33, ← eL34] at s36
  intro I37 eI37
  have s38 := ST_int 6 s36 (v := 0) rfl
  rw [← eI37] at s38
  intro I39 eI39
  have s40 := ST_int 7 s38 (v := 0) rfl
  rw [← eI39] at s40
  intro I41 eI41
  have s42 := ST_int 8 s40 (v := 0) rfl
  rw [← eI41] at s42
  intro I43 eI43
  have s44 := ST_int 9 s42 (v := 0) rfl
  rw [← eI43] at s44
  obtain ⟨e1, e2, e3⟩ := ST_end s44 hU (shJ (by decide)) (by decide) (shK (by decide))
  exact hQ _ _ _ e1 e2 e3
set_option maxHeartbeats 4000000 in
set_option maxRecDepth 100000 in
theorem p_X2_init : CTOR 2 f_X2_init := by
  intro B Z I L U h0 Q hC hk hB hU hUZ hI hL hQ
  have s0 := ST_start hC hk hB hUZ hI hL
  unfold f_X2_init
  intro q1 nq1 Z2 eZ2 I3 eI3 L4 eL4
  intro Z5 eZ5
  have s6 := ST_arr 0 (k := 14) (m := 24) s0 nq1 (by decide) (by decide) (shA rfl)
  rw [← eZ2, ← eZ5, ← eI3, ← eL4] at s6
  intro q7 nq7 Z8 eZ8 I9 eI9 L10 eL10
  intro Z11 eZ11
  have s12 := ST_arr 1 (k := 14) (m := 24) s6 nq7 (by decide) (by decide) (shA rfl)
  rw [← eZ8, ← eZ11, ← eI9, ← eL10] at s12
  intro q13 nq13 Z14 eZ14 I15 eI15 L16 eL16
  intro Z17 eZ17
  have s18 := ST_arr 2 (k := 14) (m := 192) s12 nq13 (by decide) (by decide) (shA rfl)
  rw [← eZ14, ← eZ17, ← eI15, ← eL16] at s18
  intro q19 nq19 Z20 eZ20 I21 eI21 L22 eL22
  intro Z23 eZ23
  have s24 := ST_arr 3 (k := 14) (m := 8) s18 nq19 (by decide) (by decide) (shA rfl)
  rw [← eZ20, ← eZ23, ← eI21, ← eL22] at s24
  intro q25 nq25 Z26 eZ26 I27 eI27 L28 eL28
  intro Z29 eZ29
  have s30 := ST_arr 4 (k := 14) (m := 6) s24 nq25 (by decide) (by decide) (shA rfl)
  rw [← eZ26, ← eZ29, ← eI27, ← eL28] at s30
  intro q31 nq31 Z32 eZ32 I33 eI33 L34 eL34
  intro Z35 eZ35
  have s36 := ST_arr 5 (k := 14) (m := 6) s30 nq31 (by decide) (by decide) (shA rfl)
  rw [← eZ32, ← eZ35, ← eI33, ← eL34] at s36
  intro q37 nq37 Z38 eZ38 I39 eI39 L40 eL40
  intro Z41 eZ41
  have s42 := ST_arr 6 (k := 14) (m := 6) s36 nq37 (by decide) (by decide) (shA rfl)
  rw [← eZ38, ← eZ41, ← eI39, ← eL40] at s42
  intro I43 eI43
  have s44 := ST_int 7 s42 (v := 0) rfl
  rw [← eI43] at s44
  intro I45 eI45
  have s46 := ST_int 8 s44 (v := 0) rfl
  rw [← eI45] at s46
  obtain ⟨e1, e2, e3⟩ := ST_end s46 hU (shJ (by decide)) (by decide) (shK (by decide))
  exact hQ _ _ _ e1 e2 e3
set_option maxHeartbeats 4000000 in
set_option maxRecDepth 100000 in
theorem p_X11_init : CTOR 11 f_X11_init := by
  intro B Z I L U h0 Q hC hk hB hU hUZ hI hL hQ
  have s0 := ST_start hC hk hB hUZ hI hL
  unfold f_X11_init
  intro q1 nq1 Z2 eZ2 I3 eI3 L4 eL4
  refine ST_obj p_X10_init s0 nq1 eZ2 eI3 eL4 (fun Z5 I6 L7 s8 kq1 uq1 _ _ => ?_)
  intro Z9 eZ9
  have s10 := ST_ref 0 s8 uq1 (shO rfl kq1)
  rw [← eZ9] at s10
  intro q11 nq11 Z12 eZ12 I13 eI13 L14 eL14
  refine ST_obj p_X9_init s10 nq11 eZ12 eI13 eL14 (fun Z15 I16 L17 s18 kq11 uq11 _ _ => ?_)
  intro Z19 eZ19
  have s20 := ST_ref 1 s18 uq11 (shO rfl kq11)
  rw [← eZ19] at s20
  intro q21 nq21 Z22 eZ22 I23 eI23 L24 eL24
  refine ST_obj p_X8_init s20 nq21 eZ22 eI23 eL24 (fun Z25 I26 L27 s28 kq21 uq21 _ _ => ?_)
  intro Z29 eZ29
  have s30 := ST_ref 2 s28 uq21 (shO rfl kq21)
  rw [← eZ29] at s30
  intro q31 nq31 Z32 eZ32 I33 eI33 L34 eL34
  intro Z35 eZ35
  obtain ⟨g361, g362, g363, g364, g365, g366, g367, g368, g369, g3610⟩ := ST_nw (k := 18) (m := 6) s30 nq31
  have g36c := CI_done g361 g362 g364 (sh1_pnull s30 nq31) ⟨fun j => by rw [g367, jz_arr (by decide)], g368⟩
  have s36 := ST_ref 3 (ST_go s30 g36c g369 g3610) g365 (shL rfl g362 g363)
  rw [← eZ32, ← eZ35, ← eI33, ← eL34] at s36
  intro I37 eI37
  have s38 := ST_int 4 s36 (v := 0) rfl
  rw [← eI37] at s38
  intro q39 nq39 Z40 eZ40 I41 eI41 L42 eL42
  intro Z43 eZ43
  have s44 := ST_arr 5 (k := 14) (m := 8) s38 nq39 (by decide) (by decide) (shA rfl)
  rw [← eZ40, ← eZ43, ← eI41, ← eL42] at s44
  intro q45 nq45 Z46 eZ46 I47 eI47 L48 eL48
  intro Z49 eZ49
  have s50 := ST_arr 6 (k := 14) (m := 8) s44 nq45 (by decide) (by decide) (shA rfl)
  rw [← eZ46, ← eZ49, ← eI47, ← eL48] at s50
  intro q51 nq51 Z52 eZ52 I53 eI53 L54 eL54
  intro Z55 eZ55
  have s56 := ST_arr 7 (k := 14) (m := 8) s50 nq51 (by decide) (by decide) (shA rfl)
  rw [← eZ52, ← eZ55, ← eI53, ← eL54] at s56
  intro q57 nq57 Z58 eZ58 I59 eI59 L60 eL60
  rw [eZ58, eI59, eL60]
  obtain ⟨z1, z2, z3, z4, z5, z6, z7, z8, z9, z10⟩ := ST_nw (k := 17) (m := 2) s56 nq57
  have w0 := ST_start z1 z2 z4 z6 z7 z8
  intro q61 nq61 Z64 eZ64 I65 eI65 L66 eL66
  refine ST_obj p_X2_init w0 nq61 eZ64 eI65 eL66 (fun Z67 I68 L69 w1 kq61 uq61 xq61 mq61 => ?_)
  intro Z70 eZ70
  have w2 := ST_ref 0 (b := q61) w1 uq61 (fun k o e => jsh_no (by decide) e)
  rw [show jpR Z67 q57 0 (some q61) = Z70 from eZ70.symm] at w2
  have a0 : jr Z70 q57 0 = some q61 := by rw [eZ70]; exact (congrFun (va_up_self _ _ _) _).trans (va_up_self _ _ _)
  have b0 : jk Z70 q61 2 := by rw [eZ70]; exact kq61
  intro q62 nq62 Z71 eZ71 I72 eI72 L73 eL73
  refine ST_obj p_X2_init w2 nq62 eZ71 eI72 eL73 (fun Z74 I75 L76 w3 kq62 uq62 xq62 mq62 => ?_)
  intro Z77 eZ77
  have w4 := ST_ref 1 (b := q62) w3 uq62 (fun k o e => jsh_no (by decide) e)
  rw [show jpR Z74 q57 1 (some q62) = Z77 from eZ77.symm] at w4
  have a1 : jr Z77 q57 1 = some q62 := by rw [eZ77]; exact (congrFun (va_up_self _ _ _) _).trans (va_up_self _ _ _)
  have a0 : jr Z77 q57 0 = some q61 := by rw [eZ77]; exact ((congrFun (va_up_self _ _ _) _).trans (va_up_ne _ _ (by decide))).trans ((congrFun (mq62 q57 w2.2.2.2.1.1).1 0).trans a0)
  have b1 : jk Z77 q62 2 := by rw [eZ77]; exact kq62
  have b0 : jk Z77 q61 2 := by rw [eZ77]; exact (xq62 _ _ b0).1
  have lq : jlen Z77 q57 = 2 := (w4.2.1 _ _ z2).2.trans z3
  have cK := CI_done w4.1 (c := 17) w4.2.2.2.1 z4 ⟨fun j k o e => jsh_no (by decide) e, fun e => by omega, fun _ i hi => by
      rw [lq] at hi
      rcases (show i = 0 ∨ i = 1 by omega) with rfl | rfl
      · exact ⟨q61, a0, fun e => uq61 (List.mem_cons_of_mem _ e), b0⟩
      · exact ⟨q62, a1, fun e => uq62 (List.mem_cons_of_mem _ e), b1⟩, fun e => by omega⟩ ⟨fun j => by rw [w4.2.2.2.2.2.2.2.1 j List.not_mem_nil, jz_arr (by decide)], w4.2.2.2.2.2.2.2.2.2⟩
  have s63 := ST_go s56 cK (jext_trans z9 w4.2.1) (fun a ha => sm1_trans (z10 a ha) (w4.2.2.1 a (z9 a _ ⟨ha, rfl⟩).1.1 (fun e => nq57 (e ▸ ha))))
  intro Z78 eZ78
  have s79 := ST_ref 8 s63 z5 (shL rfl w4.2.2.2.1 lq)
  rw [← eZ78] at s79
  intro q80 nq80 Z81 eZ81 I82 eI82 L83 eL83
  refine ST_obj p_X0_init s79 nq80 eZ81 eI82 eL83 (fun Z84 I85 L86 s87 kq80 uq80 _ _ => ?_)
  intro Z88 eZ88
  have s89 := ST_ref 9 s87 uq80 (shO rfl kq80)
  rw [← eZ88] at s89
  intro q90 nq90 Z91 eZ91 I92 eI92 L93 eL93
  refine ST_obj p_X1_init s89 nq90 eZ91 eI92 eL93 (fun Z94 I95 L96 s97 kq90 uq90 _ _ => ?_)
  intro Z98 eZ98
  have s99 := ST_ref 10 s97 uq90 (shO rfl kq90)
  rw [← eZ98] at s99
  intro q100 nq100 Z101 eZ101 I102 eI102 L103 eL103
  intro Z104 eZ104
  have s105 := ST_arr 11 (k := 14) (m := 3) s99 nq100 (by decide) (by decide) (shA rfl)
  rw [← eZ101, ← eZ104, ← eI102, ← eL103] at s105
  intro q106 nq106 Z107 eZ107 I108 eI108 L109 eL109
  intro Z110 eZ110
  have s111 := ST_arr 12 (k := 14) (m := 3) s105 nq106 (by decide) (by decide) (shA rfl)
  rw [← eZ107, ← eZ110, ← eI108, ← eL109] at s111
  intro q112 nq112 Z113 eZ113 I114 eI114 L115 eL115
  intro Z116 eZ116
  have s117 := ST_arr 13 (k := 14) (m := 21) s111 nq112 (by decide) (by decide) (shA rfl)
  rw [← eZ113, ← eZ116, ← eI114, ← eL115] at s117
  intro q118 nq118 Z119 eZ119 I120 eI120 L121 eL121
  intro Z122 eZ122
  have s123 := ST_arr 14 (k := 14) (m := 21) s117 nq118 (by decide) (by decide) (shA rfl)
  rw [← eZ119, ← eZ122, ← eI120, ← eL121] at s123
  intro q124 nq124 Z125 eZ125 I126 eI126 L127 eL127
  intro Z128 eZ128
  have s129 := ST_arr 15 (k := 15) (m := 26) s123 nq124 (by decide) (by decide) (shA rfl)
  rw [← eZ125, ← eZ128, ← eI126, ← eL127] at s129
  intro I130 eI130
  have s131 := ST_int 16 s129 (v := 0) rfl
  rw [← eI130] at s131
  obtain ⟨e1, e2, e3⟩ := ST_end s131 hU (shJ (by decide)) (by decide) (shK (by decide))
  exact hQ _ _ _ e1 e2 e3
set_option maxHeartbeats 4000000 in
set_option maxRecDepth 100000 in
theorem p_X12_init : CTOR 12 f_X12_init := by
  intro B Z I L U h0 Q hC hk hB hU hUZ hI hL hQ
  have s0 := ST_start hC hk hB hUZ hI hL
  unfold f_X12_init
  intro q1 nq1 Z2 eZ2 I3 eI3 L4 eL4
  intro Z5 eZ5
  have s6 := ST_arr 1 (k := 14) (m := 24) s0 nq1 (by decide) (by decide) (shA rfl)
  rw [← eZ2, ← eZ5, ← eI3, ← eL4] at s6
  intro q7 nq7 Z8 eZ8 I9 eI9 L10 eL10
  intro Z11 eZ11
  have s12 := ST_arr 2 (k := 14) (m := 24) s6 nq7 (by decide) (by decide) (shA rfl)
  rw [← eZ8, ← eZ11, ← eI9, ← eL10] at s12
  intro q13 nq13 Z14 eZ14 I15 eI15 L16 eL16
  intro Z17 eZ17
  have s18 := ST_arr 3 (k := 14) (m := 24) s12 nq13 (by decide) (by decide) (shA rfl)
  rw [← eZ14, ← eZ17, ← eI15, ← eL16] at s18
  intro q19 nq19 Z20 eZ20 I21 eI21 L22 eL22
  intro Z23 eZ23
  have s24 := ST_arr 4 (k := 16) (m := 24) s18 nq19 (by decide) (by decide) (shA rfl)
  rw [← eZ20, ← eZ23, ← eI21, ← eL22] at s24
  intro q25 nq25 Z26 eZ26 I27 eI27 L28 eL28
  intro Z29 eZ29
  have s30 := ST_arr 5 (k := 14) (m := 192) s24 nq25 (by decide) (by decide) (shA rfl)
  rw [← eZ26, ← eZ29, ← eI27, ← eL28] at s30
  intro q31 nq31 Z32 eZ32 I33 eI33 L34 eL34
  intro Z35 eZ35
  have s36 := ST_arr 6 (k := 16) (m := 64) s30 nq31 (by decide) (by decide) (shA rfl)
  rw [← eZ32, ← eZ35, ← eI33, ← eL34] at s36
  intro q37 nq37 Z38 eZ38 I39 eI39 L40 eL40
  intro Z41 eZ41
  have s42 := ST_arr 9 (k := 14) (m := 6) s36 nq37 (by decide) (by decide) (shA rfl)
  rw [← eZ38, ← eZ41, ← eI39, ← eL40] at s42
  intro q43 nq43 Z44 eZ44 I45 eI45 L46 eL46
  intro Z47 eZ47
  have s48 := ST_arr 10 (k := 14) (m := 6) s42 nq43 (by decide) (by decide) (shA rfl)
  rw [← eZ44, ← eZ47, ← eI45, ← eL46] at s48
  intro q49 nq49 Z50 eZ50 I51 eI51 L52 eL52
  intro Z53 eZ53
  have s54 := ST_arr 11 (k := 14) (m := 6) s48 nq49 (by decide) (by decide) (shA rfl)
  rw [← eZ50, ← eZ53, ← eI51, ← eL52] at s54
  intro q55 nq55 Z56 eZ56 I57 eI57 L58 eL58
  intro Z59 eZ59
  have s60 := ST_arr 12 (k := 14) (m := 6) s54 nq55 (by decide) (by decide) (shA rfl)
  rw [← eZ56, ← eZ59, ← eI57, ← eL58] at s60
  intro q61 nq61 Z62 eZ62 I63 eI63 L64 eL64
  intro Z65 eZ65
  have s66 := ST_arr 13 (k := 14) (m := 6) s60 nq61 (by decide) (by decide) (shA rfl)
  rw [← eZ62, ← eZ65, ← eI63, ← eL64] at s66
  intro q67 nq67 Z68 eZ68 I69 eI69 L70 eL70
  intro Z71 eZ71
  have s72 := ST_arr 14 (k := 14) (m := 6) s66 nq67 (by decide) (by decide) (shA rfl)
  rw [← eZ68, ← eZ71, ← eI69, ← eL70] at s72
  intro q73 nq73 Z74 eZ74 I75 eI75 L76 eL76
  intro Z77 eZ77
  have s78 := ST_arr 15 (k := 14) (m := 6) s72 nq73 (by decide) (by decide) (shA rfl)
  rw [← eZ74, ← eZ77, ← eI75, ← eL76] at s78
  intro q79 nq79 Z80 eZ80 I81 eI81 L82 eL82
  intro Z83 eZ83
  have s84 := ST_arr 16 (k := 14) (m := 6) s78 nq79 (by decide) (by decide) (shA rfl)
  rw [← eZ80, ← eZ83, ← eI81, ← eL82] at s84
  intro q85 nq85 Z86 eZ86 I87 eI87 L88 eL88
  intro Z89 eZ89
  have s90 := ST_arr 17 (k := 14) (m := 8) s84 nq85 (by decide) (by decide) (shA rfl)
  rw [← eZ86, ← eZ89, ← eI87, ← eL88] at s90
  intro q91 nq91 Z92 eZ92 I93 eI93 L94 eL94
  intro Z95 eZ95
  have s96 := ST_arr 18 (k := 13) (m := 80) s90 nq91 (by decide) (by decide) (shA rfl)
  rw [← eZ92, ← eZ95, ← eI93, ← eL94] at s96
  intro q97 nq97 Z98 eZ98 I99 eI99 L100 eL100
  intro Z101 eZ101
  have s102 := ST_arr 20 (k := 15) (m := 40) s96 nq97 (by decide) (by decide) (shA rfl)
  rw [← eZ98, ← eZ101, ← eI99, ← eL100] at s102
  intro q103 nq103 Z104 eZ104 I105 eI105 L106 eL106
  intro Z107 eZ107
  have s108 := ST_arr 28 (k := 14) (m := 120) s102 nq103 (by decide) (by decide) (shA rfl)
  rw [← eZ104, ← eZ107, ← eI105, ← eL106] at s108
  intro q109 q110 q111 nq109 nq110 nq111 Z112 eZ112 I113 eI113 L114 eL114
  intro Z115 eZ115
  have s116 := ST_mna 29 s108 nq109 nq110 nq111 rfl
  rw [← eZ112, ← eZ115, ← eI113, ← eL114] at s116
  intro q117 nq117 Z118 eZ118 I119 eI119 L120 eL120
  intro Z121 eZ121
  have s122 := ST_arr 30 (k := 14) (m := 2) s116 nq117 (by decide) (by decide) (shA rfl)
  rw [← eZ118, ← eZ121, ← eI119, ← eL120] at s122
  intro I123 eI123
  have s124 := ST_int 31 s122 (v := -1) rfl
  rw [← eI123] at s124
  intro q125 nq125 Z126 eZ126 I127 eI127 L128 eL128
  intro Z129 eZ129
  have s130 := ST_arr 35 (k := 14) (m := 8) s124 nq125 (by decide) (by decide) (shA rfl)
  rw [← eZ126, ← eZ129, ← eI127, ← eL128] at s130
  intro q131 nq131 Z132 eZ132 I133 eI133 L134 eL134
  intro Z135 eZ135
  have s136 := ST_arr 36 (k := 15) (m := 8) s130 nq131 (by decide) (by decide) (shA rfl)
  rw [← eZ132, ← eZ135, ← eI133, ← eL134] at s136
  intro q137 nq137 Z138 eZ138 I139 eI139 L140 eL140
  intro Z141 eZ141
  have s142 := ST_arr 37 (k := 14) (m := 75) s136 nq137 (by decide) (by decide) (shA rfl)
  rw [← eZ138, ← eZ141, ← eI139, ← eL140] at s142
  intro q143 nq143 Z144 eZ144 I145 eI145 L146 eL146
  intro Z147 eZ147
  have s148 := ST_arr 38 (k := 14) (m := 75) s142 nq143 (by decide) (by decide) (shA rfl)
  rw [← eZ144, ← eZ147, ← eI145, ← eL146] at s148
  intro I149 eI149
  have s150 := ST_int 39 s148 (v := -1) rfl
  rw [← eI149] at s150
  intro q151 nq151 Z152 eZ152 I153 eI153 L154 eL154
  intro Z155 eZ155
  have s156 := ST_arr 40 (k := 14) (m := 25000) s150 nq151 (by decide) (by decide) (shA rfl)
  rw [← eZ152, ← eZ155, ← eI153, ← eL154] at s156
  intro q157 nq157 Z158 eZ158 I159 eI159 L160 eL160
  intro Z161 eZ161
  have s162 := ST_arr 44 (k := 14) (m := 24) s156 nq157 (by decide) (by decide) (shA rfl)
  rw [← eZ158, ← eZ161, ← eI159, ← eL160] at s162
  intro q163 nq163 Z164 eZ164 I165 eI165 L166 eL166
  intro Z167 eZ167
  have s168 := ST_arr 45 (k := 14) (m := 484000) s162 nq163 (by decide) (by decide) (shA rfl)
  rw [← eZ164, ← eZ167, ← eI165, ← eL166] at s168
  intro q169 nq169 Z170 eZ170 I171 eI171 L172 eL172
  intro Z173 eZ173
  have s174 := ST_arr 53 (k := 14) (m := 1536) s168 nq169 (by decide) (by decide) (shA rfl)
  rw [← eZ170, ← eZ173, ← eI171, ← eL172] at s174
  intro q175 nq175 Z176 eZ176 I177 eI177 L178 eL178
  intro Z179 eZ179
  have s180 := ST_arr 54 (k := 14) (m := 192) s174 nq175 (by decide) (by decide) (shA rfl)
  rw [← eZ176, ← eZ179, ← eI177, ← eL178] at s180
  intro q181 nq181 Z182 eZ182 I183 eI183 L184 eL184
  intro Z185 eZ185
  have s186 := ST_arr 55 (k := 14) (m := 144) s180 nq181 (by decide) (by decide) (shA rfl)
  rw [← eZ182, ← eZ185, ← eI183, ← eL184] at s186
  intro q187 nq187 Z188 eZ188 I189 eI189 L190 eL190
  intro Z191 eZ191
  have s192 := ST_arr 56 (k := 14) (m := 6) s186 nq187 (by decide) (by decide) (shA rfl)
  rw [← eZ188, ← eZ191, ← eI189, ← eL190] at s192
  intro q193 nq193 Z194 eZ194 I195 eI195 L196 eL196
  intro Z197 eZ197
  have s198 := ST_arr 57 (k := 14) (m := 6) s192 nq193 (by decide) (by decide) (shA rfl)
  rw [← eZ194, ← eZ197, ← eI195, ← eL196] at s198
  intro q199 nq199 Z200 eZ200 I201 eI201 L202 eL202
  intro Z203 eZ203
  have s204 := ST_arr 58 (k := 14) (m := 6) s198 nq199 (by decide) (by decide) (shA rfl)
  rw [← eZ200, ← eZ203, ← eI201, ← eL202] at s204
  intro q205 nq205 Z206 eZ206 I207 eI207 L208 eL208
  intro Z209 eZ209
  have s210 := ST_arr 59 (k := 14) (m := 24) s204 nq205 (by decide) (by decide) (shA rfl)
  rw [← eZ206, ← eZ209, ← eI207, ← eL208] at s210
  intro q211 nq211 Z212 eZ212 I213 eI213 L214 eL214
  intro Z215 eZ215
  have s216 := ST_arr 61 (k := 14) (m := 6) s210 nq211 (by decide) (by decide) (shA rfl)
  rw [← eZ212, ← eZ215, ← eI213, ← eL214] at s216
  intro q217 nq217 Z218 eZ218 I219 eI219 L220 eL220
  intro Z221 eZ221
  have s222 := ST_arr 62 (k := 14) (m := 532) s216 nq217 (by decide) (by decide) (shA rfl)
  rw [← eZ218, ← eZ221, ← eI219, ← eL220] at s222
  intro q223 nq223 Z224 eZ224 I225 eI225 L226 eL226
  intro Z227 eZ227
  have s228 := ST_arr 63 (k := 16) (m := 2) s222 nq223 (by decide) (by decide) (shA rfl)
  rw [← eZ224, ← eZ227, ← eI225, ← eL226] at s228
  intro q229 nq229 Z230 eZ230 I231 eI231 L232 eL232
  intro Z233 eZ233
  have s234 := ST_arr 64 (k := 14) (m := 2) s228 nq229 (by decide) (by decide) (shA rfl)
  rw [← eZ230, ← eZ233, ← eI231, ← eL232] at s234
  intro q235 nq235 Z236 eZ236 I237 eI237 L238 eL238
  intro Z239 eZ239
  have s240 := ST_arr 65 (k := 14) (m := 2) s234 nq235 (by decide) (by decide) (shA rfl)
  rw [← eZ236, ← eZ239, ← eI237, ← eL238] at s240
  obtain ⟨e1, e2, e3⟩ := ST_end s240 hU (shJ (by decide)) (by decide) (shK (by decide))
  exact hQ _ _ _ e1 e2 e3
