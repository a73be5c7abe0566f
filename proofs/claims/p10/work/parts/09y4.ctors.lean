theorem jcsV : jcs 0 0 = 3 ∧ jcs 1 0 = 10 ∧ jcs 2 0 = 9 ∧ jcs 3 0 = 9 ∧ jcs 4 0 = 5 ∧ jcs 5 0 = 9 ∧ jcs 6 0 = 16 ∧ jcs 7 0 = 10 ∧ jcs 8 0 = 10 ∧ jcs 9 0 = 9 ∧ jcs 10 0 = 2 ∧ jcs 11 0 = 17 ∧ jcs 12 0 = 67 := ⟨rfl, rfl, rfl, rfl, rfl, rfl, rfl, rfl, rfl, rfl, rfl, rfl, rfl⟩
set_option maxHeartbeats 4000000 in
set_option maxRecDepth 100000 in
theorem cw_X10_init : CTW 10 f_X10_init 1 80 0 0 := by
  intro Zs Is Z I L U h0 x y z Q hC hk hU hn hI hQ
  have s0 : SW Zs Is Z I U h0 10 [] Z I x y z := SW_start hC hk hU hn
  unfold f_X10_init
  intro q1 nq1 Z2 eZ2 I3 eI3 L4 eL4
  intro Z5 eZ5
  have s6 := SW_arr 0 13 80 s0 nq1 (hs := shM rfl)
  rw [← eZ2, ← eZ5, ← eI3] at s6
  intro I7 eI7
  have s8 := SW_int 1 s6 (v := (0)) (ok := (by first | exact okF0 _ _ | trivial | exact ⟨by decide, by decide⟩ | exact hl))
  rw [← eI7] at s8
  obtain ⟨e1, e2⟩ := SW_end s8 (by decide) (shJ (by decide))
  exact hQ _ _ _ (e1.cast (by omega) (by have jv := jcsV; have j17 : jcs 17 2 = 2 := rfl; have j18 : jcs 18 6 = 6 := rfl; omega) (by omega)) s8.2.2.2.1 e2 (fun e => by cases e) s8.2.1 s8.2.2.1
set_option maxHeartbeats 4000000 in
set_option maxRecDepth 100000 in
theorem cw_X9_init : CTW 9 f_X9_init 5 120 0 0 := by
  intro Zs Is Z I L U h0 x y z Q hC hk hU hn hI hQ
  have s0 : SW Zs Is Z I U h0 9 [] Z I x y z := SW_start hC hk hU hn
  unfold f_X9_init
  intro q1 nq1 Z2 eZ2 I3 eI3 L4 eL4
  intro Z5 eZ5
  have s6 := SW_arr 0 14 24 s0 nq1 (hs := shM rfl)
  rw [← eZ2, ← eZ5, ← eI3] at s6
  intro q7 nq7 Z8 eZ8 I9 eI9 L10 eL10
  intro Z11 eZ11
  have s12 := SW_arr 1 14 24 s6 nq7 (hs := shM rfl)
  rw [← eZ8, ← eZ11, ← eI9] at s12
  intro q13 nq13 Z14 eZ14 I15 eI15 L16 eL16
  intro Z17 eZ17
  have s18 := SW_arr 2 14 24 s12 nq13 (hs := shM rfl)
  rw [← eZ14, ← eZ17, ← eI15] at s18
  intro q19 nq19 Z20 eZ20 I21 eI21 L22 eL22
  intro Z23 eZ23
  have s24 := SW_arr 3 14 24 s18 nq19 (hs := shM rfl)
  rw [← eZ20, ← eZ23, ← eI21] at s24
  intro q25 nq25 Z26 eZ26 I27 eI27 L28 eL28
  intro Z29 eZ29
  have s30 := SW_arr 4 14 24 s24 nq25 (hs := shM rfl)
  rw [← eZ26, ← eZ29, ← eI27] at s30
  intro I31 eI31
  have s32 := SW_int 5 s30 (v := (0)) (ok := (by first | exact okF0 _ _ | trivial | exact ⟨by decide, by decide⟩ | exact hl))
  rw [← eI31] at s32
  intro I33 eI33
  have s34 := SW_int 6 s32 (v := (0)) (ok := (by first | exact okF0 _ _ | trivial | exact ⟨by decide, by decide⟩ | exact hl))
  rw [← eI33] at s34
  intro I35 eI35
  have s36 := SW_int 7 s34 (v := (0)) (ok := (by first | exact okF0 _ _ | trivial | exact ⟨by decide, by decide⟩ | exact hl))
  rw [← eI35] at s36
  intro I37 eI37
  have s38 := SW_int 8 s36 (v := (-1)) (ok := (by first | exact okF0 _ _ | trivial | exact ⟨by decide, by decide⟩ | exact hl))
  rw [← eI37] at s38
  obtain ⟨e1, e2⟩ := SW_end s38 (by decide) (shJ (by decide))
  exact hQ _ _ _ (e1.cast (by omega) (by have jv := jcsV; have j17 : jcs 17 2 = 2 := rfl; have j18 : jcs 18 6 = 6 := rfl; omega) (by omega)) s38.2.2.2.1 e2 (fun e => by cases e) s38.2.1 s38.2.2.1
set_option maxHeartbeats 4000000 in
set_option maxRecDepth 100000 in
theorem cw_X4_init : CTW 4 f_X4_init 3 1752 0 0 := by
  intro Zs Is Z I L U h0 x y z Q hC hk hU hn hI hQ
  have s0 : SW Zs Is Z I U h0 4 [] Z I x y z := SW_start hC hk hU hn
  unfold f_X4_init
  intro q1 nq1 Z2 eZ2 I3 eI3 L4 eL4
  intro Z5 eZ5
  have s6 := SW_arr 0 14 192 s0 nq1 (hs := shM rfl)
  rw [← eZ2, ← eZ5, ← eI3] at s6
  intro q7 nq7 Z8 eZ8 I9 eI9 L10 eL10
  intro Z11 eZ11
  have s12 := SW_arr 1 14 24 s6 nq7 (hs := shM rfl)
  rw [← eZ8, ← eZ11, ← eI9] at s12
  intro q13 nq13 Z14 eZ14 I15 eI15 L16 eL16
  intro Z17 eZ17
  have s18 := SW_arr 2 14 1536 s12 nq13 (hs := shM rfl)
  rw [← eZ14, ← eZ17, ← eI15] at s18
  intro I19 eI19
  have s20 := SW_int 3 s18 (v := (0)) (ok := (by first | exact okF0 _ _ | trivial | exact ⟨by decide, by decide⟩ | exact hl))
  rw [← eI19] at s20
  intro I21 eI21
  have s22 := SW_int 4 s20 (v := (0)) (ok := (by first | exact okF0 _ _ | trivial | exact ⟨by decide, by decide⟩ | exact hl))
  rw [← eI21] at s22
  obtain ⟨e1, e2⟩ := SW_end s22 (by decide) (shJ (by decide))
  exact hQ _ _ _ (e1.cast (by omega) (by have jv := jcsV; have j17 : jcs 17 2 = 2 := rfl; have j18 : jcs 18 6 = 6 := rfl; omega) (by omega)) s22.2.2.2.1 e2 (fun e => by cases e) s22.2.1 s22.2.2.1
set_option maxHeartbeats 4000000 in
set_option maxRecDepth 100000 in
theorem cw_X3_init : CTW 3 f_X3_init 3 121 0 0 := by
  intro Zs Is Z I L U h0 x y z Q hC hk hU hn hI hQ
  have s0 : SW Zs Is Z I U h0 3 [] Z I x y z := SW_start hC hk hU hn
  unfold f_X3_init
  intro q1 nq1 Z2 eZ2 I3 eI3 L4 eL4
  intro Z5 eZ5
  have s6 := SW_arr 0 14 40 s0 nq1 (hs := shM rfl)
  rw [← eZ2, ← eZ5, ← eI3] at s6
  intro q7 nq7 Z8 eZ8 I9 eI9 L10 eL10
  intro Z11 eZ11
  have s12 := SW_arr 1 14 40 s6 nq7 (hs := shM rfl)
  rw [← eZ8, ← eZ11, ← eI9] at s12
  intro q13 nq13 Z14 eZ14 I15 eI15 L16 eL16
  intro Z17 eZ17
  have s18 := SW_arr 2 14 41 s12 nq13 (hs := shM rfl)
  rw [← eZ14, ← eZ17, ← eI15] at s18
  intro I19 eI19
  have s20 := SW_int 3 s18 (v := (0)) (ok := (by first | exact okF0 _ _ | trivial | exact ⟨by decide, by decide⟩ | exact hl))
  rw [← eI19] at s20
  intro I21 eI21
  have s22 := SW_int 4 s20 (v := (0)) (ok := (by first | exact okF0 _ _ | trivial | exact ⟨by decide, by decide⟩ | exact hl))
  rw [← eI21] at s22
  intro I23 eI23
  have s24 := SW_int 5 s22 (v := (0)) (ok := (by first | exact okF0 _ _ | trivial | exact ⟨by decide, by decide⟩ | exact hl))
  rw [← eI23] at s24
  intro I25 eI25
  have s26 := SW_int 6 s24 (v := (0)) (ok := (by first | exact okF0 _ _ | trivial | exact ⟨by decide, by decide⟩ | exact hl))
  rw [← eI25] at s26
  intro I27 eI27
  have s28 := SW_int 7 s26 (v := (0)) (ok := (by first | exact okF0 _ _ | trivial | exact ⟨by decide, by decide⟩ | exact hl))
  rw [← eI27] at s28
  intro I29 eI29
  have s30 := SW_int 8 s28 (v := (-1)) (ok := (by first | exact okF0 _ _ | trivial | exact ⟨by decide, by decide⟩ | exact hl))
  rw [← eI29] at s30
  obtain ⟨e1, e2⟩ := SW_end s30 (by decide) (shJ (by decide))
  exact hQ _ _ _ (e1.cast (by omega) (by have jv := jcsV; have j17 : jcs 17 2 = 2 := rfl; have j18 : jcs 18 6 = 6 := rfl; omega) (by omega)) s30.2.2.2.1 e2 (fun e => by cases e) s30.2.1 s30.2.2.1
set_option maxHeartbeats 4000000 in
set_option maxRecDepth 100000 in
theorem cw_X8_init : CTW 8 f_X8_init 18 2128 0 0 := by
  intro Zs Is Z I L U h0 x y z Q hC hk hU hn hI hQ
  have s0 : SW Zs Is Z I U h0 8 [] Z I x y z := SW_start hC hk hU hn
  unfold f_X8_init
  intro q1 nq1 Z2 eZ2 I3 eI3 L4 eL4
  intro Z5 eZ5
  have s6 := SW_arr 0 14 24 s0 nq1 (hs := shM rfl)
  rw [← eZ2, ← eZ5, ← eI3] at s6
  intro q7 nq7 Z8 eZ8 I9 eI9 L10 eL10
  intro Z11 eZ11
  have s12 := SW_arr 1 14 24 s6 nq7 (hs := shM rfl)
  rw [← eZ8, ← eZ11, ← eI9] at s12
  intro q13 nq13 Z14 eZ14 I15 eI15 L16 eL16
  intro Z17 eZ17
  have s18 := SW_arr 2 14 24 s12 nq13 (hs := shM rfl)
  rw [← eZ14, ← eZ17, ← eI15] at s18
  intro q19 nq19 Z20 eZ20 I21 eI21 L22 eL22
  intro Z23 eZ23
  have s24 := SW_arr 3 14 24 s18 nq19 (hs := shM rfl)
  rw [← eZ20, ← eZ23, ← eI21] at s24
  intro q25 nq25 Z26 eZ26 I27 eI27 L28 eL28
  refine SW_obj z (cw_X4_init Zs) s24 nq25 eZ26 eI27 rfl (fun Z29 I30 L31 s32 kq25 uq25 hq25 lq25 _ _ => ?_)
  intro Z33 eZ33
  have s34 := SW_put 4 s32 kq25 uq25 hq25 rfl (hs := shMo rfl)
  rw [← eZ33] at s34
  intro q35 nq35 Z36 eZ36 I37 eI37 L38 eL38
  intro Z39 eZ39
  have s40 := SW_arr 5 14 8 s34 nq35 (hs := shM rfl)
  rw [← eZ36, ← eZ39, ← eI37] at s40
  intro q41 nq41 Z42 eZ42 I43 eI43 L44 eL44
  refine SW_obj (z + 0) (cw_X3_init Zs) s40 nq41 eZ42 eI43 rfl (fun Z45 I46 L47 s48 kq41 uq41 hq41 lq41 _ _ => ?_)
  intro Z49 eZ49
  have s50 := SW_put 6 s48 kq41 uq41 hq41 rfl (hs := shMo rfl)
  rw [← eZ49] at s50
  intro q51 nq51 Z52 eZ52 I53 eI53 L54 eL54
  refine SW_obj ((z + 0) + 0) (cw_X3_init Zs) s50 nq51 eZ52 eI53 rfl (fun Z55 I56 L57 s58 kq51 uq51 hq51 lq51 _ _ => ?_)
  intro Z59 eZ59
  have s60 := SW_put 7 s58 kq51 uq51 hq51 rfl (hs := shMo rfl)
  rw [← eZ59] at s60
  intro q61 nq61 Z62 eZ62 I63 eI63 L64 eL64
  intro Z65 eZ65
  have s66 := SW_arr 8 14 7 s60 nq61 (hs := shM rfl)
  rw [← eZ62, ← eZ65, ← eI63] at s66
  intro I67 eI67
  have s68 := SW_int 9 s66 (v := (0)) (ok := (by first | exact okF0 _ _ | trivial | exact ⟨by decide, by decide⟩ | exact hl))
  rw [← eI67] at s68
  obtain ⟨e1, e2⟩ := SW_end s68 (by decide) (shJ (by decide))
  exact hQ _ _ _ (e1.cast (by omega) (by have jv := jcsV; have j17 : jcs 17 2 = 2 := rfl; have j18 : jcs 18 6 = 6 := rfl; omega) (by omega)) s68.2.2.2.1 e2 (fun e => by cases e) s68.2.1 s68.2.2.1
set_option maxHeartbeats 4000000 in
set_option maxRecDepth 100000 in
theorem cw_X0_init : CTW 0 f_X0_init 9 536 0 16383 := by
  intro Zs Is Z I L U h0 x y z Q hC hk hU hn hI hQ
  have s0 : SW Zs Is Z I U h0 0 [] Z I x y z := SW_start hC hk hU hn
  unfold f_X0_init
  intro q1 nq1 Z2 eZ2 I3 eI3 L4 eL4
  refine SW_obj (z + 2047) (cw_X7_init Zs) s0 nq1 eZ2 eI3 rfl (fun Z5 I6 L7 s8 kq1 uq1 hq1 lq1 _ _ => ?_)
  intro Z9 eZ9
  have s10 := SW_put00 s8 kq1 uq1 hq1 (lq1 rfl) (fun e => nq1 (s0.1.1 _ _ ⟨e, rfl⟩).1.1) (by decide)
  rw [← eZ9] at s10
  intro q11 nq11 Z12 eZ12 I13 eI13 L14 eL14
  intro Z15 eZ15
  have s16 := SW_arr 1 15 400 s10 nq11 (hs := shM rfl)
  rw [← eZ12, ← eZ15, ← eI13] at s16
  intro L17 eL17
  obtain ⟨e1, e2⟩ := SW_end s16 (by decide) (shJ (by decide))
  exact hQ _ _ _ (e1.cast (by omega) (by have jv := jcsV; have j17 : jcs 17 2 = 2 := rfl; have j18 : jcs 18 6 = 6 := rfl; omega) (by omega)) s16.2.2.2.1 e2 (fun e => by cases e) s16.2.1 s16.2.2.1
set_option maxHeartbeats 4000000 in
set_option maxRecDepth 100000 in
theorem cw_X1_init : CTW 1 f_X1_init 6 72 0 0 := by
  intro Zs Is Z I L U h0 x y z Q hC hk hU hn hI hQ
  have s0 : SW Zs Is Z I U h0 1 [] Z I x y z := SW_start hC hk hU hn
  unfold f_X1_init
  intro q1 nq1 Z2 eZ2 I3 eI3 L4 eL4
  intro Z5 eZ5
  have s6 := SW_arr 0 16 6 s0 nq1 (hs := shM rfl)
  rw [← eZ2, ← eZ5, ← eI3] at s6
  intro q7 nq7 Z8 eZ8 I9 eI9 L10 eL10
  intro Z11 eZ11
  have s12 := SW_arr 1 15 6 s6 nq7 (hs := shM rfl)
  rw [← eZ8, ← eZ11, ← eI9] at s12
  intro q13 nq13 Z14 eZ14 I15 eI15 L16 eL16
  intro Z17 eZ17
  have s18 := SW_arr 2 14 6 s12 nq13 (hs := shM rfl)
  rw [← eZ14, ← eZ17, ← eI15] at s18
  intro q19 nq19 Z20 eZ20 I21 eI21 L22 eL22
  intro Z23 eZ23
  have s24 := SW_arr 3 14 6 s18 nq19 (hs := shM rfl)
  rw [← eZ20, ← eZ23, ← eI21] at s24
  intro q25 nq25 Z26 eZ26 I27 eI27 L28 eL28
  intro Z29 eZ29
  have s30 := SW_arr 4 14 24 s24 nq25 (hs := shM rfl)
  rw [← eZ26, ← eZ29, ← eI27] at s30
  intro q31 nq31 Z32 eZ32 I33 eI33 L34 eL34
  intro Z35 eZ35
  have s36 := SW_arr 5 14 24 s30 nq31 (hs := shM rfl)
  rw [← eZ32, ← eZ35, ← eI33] at s36
  intro I37 eI37
  have s38 := SW_int 6 s36 (v := (0)) (ok := (by first | exact okF0 _ _ | trivial | exact ⟨by decide, by decide⟩ | exact hl))
  rw [← eI37] at s38
  intro I39 eI39
  have s40 := SW_int 7 s38 (v := (0)) (ok := (by first | exact okF0 _ _ | trivial | exact ⟨by decide, by decide⟩ | exact hl))
  rw [← eI39] at s40
  intro I41 eI41
  have s42 := SW_int 8 s40 (v := (0)) (ok := (by first | exact okF0 _ _ | trivial | exact ⟨by decide, by decide⟩ | exact hl))
  rw [← eI41] at s42
  intro I43 eI43
  have s44 := SW_int 9 s42 (v := (0)) (ok := (by first | exact okF0 _ _ | trivial | exact ⟨by decide, by decide⟩ | exact hl))
  rw [← eI43] at s44
  obtain ⟨e1, e2⟩ := SW_end s44 (by decide) (shJ (by decide))
  exact hQ _ _ _ (e1.cast (by omega) (by have jv := jcsV; have j17 : jcs 17 2 = 2 := rfl; have j18 : jcs 18 6 = 6 := rfl; omega) (by omega)) s44.2.2.2.1 e2 (fun e => by cases e) s44.2.1 s44.2.2.1
set_option maxHeartbeats 4000000 in
set_option maxRecDepth 100000 in
theorem cw_X2_init : CTW 2 f_X2_init 7 266 0 0 := by
  intro Zs Is Z I L U h0 x y z Q hC hk hU hn hI hQ
  have s0 : SW Zs Is Z I U h0 2 [] Z I x y z := SW_start hC hk hU hn
  unfold f_X2_init
  intro q1 nq1 Z2 eZ2 I3 eI3 L4 eL4
  intro Z5 eZ5
  have s6 := SW_arr 0 14 24 s0 nq1 (hs := shM rfl)
  rw [← eZ2, ← eZ5, ← eI3] at s6
  intro q7 nq7 Z8 eZ8 I9 eI9 L10 eL10
  intro Z11 eZ11
  have s12 := SW_arr 1 14 24 s6 nq7 (hs := shM rfl)
  rw [← eZ8, ← eZ11, ← eI9] at s12
  intro q13 nq13 Z14 eZ14 I15 eI15 L16 eL16
  intro Z17 eZ17
  have s18 := SW_arr 2 14 192 s12 nq13 (hs := shM rfl)
  rw [← eZ14, ← eZ17, ← eI15] at s18
  intro q19 nq19 Z20 eZ20 I21 eI21 L22 eL22
  intro Z23 eZ23
  have s24 := SW_arr 3 14 8 s18 nq19 (hs := shM rfl)
  rw [← eZ20, ← eZ23, ← eI21] at s24
  intro q25 nq25 Z26 eZ26 I27 eI27 L28 eL28
  intro Z29 eZ29
  have s30 := SW_arr 4 14 6 s24 nq25 (hs := shM rfl)
  rw [← eZ26, ← eZ29, ← eI27] at s30
  intro q31 nq31 Z32 eZ32 I33 eI33 L34 eL34
  intro Z35 eZ35
  have s36 := SW_arr 5 14 6 s30 nq31 (hs := shM rfl)
  rw [← eZ32, ← eZ35, ← eI33] at s36
  intro q37 nq37 Z38 eZ38 I39 eI39 L40 eL40
  intro Z41 eZ41
  have s42 := SW_arr 6 14 6 s36 nq37 (hs := shM rfl)
  rw [← eZ38, ← eZ41, ← eI39] at s42
  intro I43 eI43
  have s44 := SW_int 7 s42 (v := (0)) (ok := (by first | exact okF0 _ _ | trivial | exact ⟨by decide, by decide⟩ | exact hl))
  rw [← eI43] at s44
  intro I45 eI45
  have s46 := SW_int 8 s44 (v := (0)) (ok := (by first | exact okF0 _ _ | trivial | exact ⟨by decide, by decide⟩ | exact hl))
  rw [← eI45] at s46
  obtain ⟨e1, e2⟩ := SW_end s46 (by decide) (shJ (by decide))
  exact hQ _ _ _ (e1.cast (by omega) (by have jv := jcsV; have j17 : jcs 17 2 = 2 := rfl; have j18 : jcs 18 6 = 6 := rfl; omega) (by omega)) s46.2.2.2.1 e2 (fun e => by cases e) s46.2.1 s46.2.2.1
set_option maxHeartbeats 4000000 in
set_option maxRecDepth 100000 in
theorem cw_X11_init : CTW 11 f_X11_init 70 3626 0 16383 := by
  intro Zs Is Z I L U h0 x y z Q hC hk hU hn hI hQ
  have s0 : SW Zs Is Z I U h0 11 [] Z I x y z := SW_start hC hk hU hn
  unfold f_X11_init
  intro q1 nq1 Z2 eZ2 I3 eI3 L4 eL4
  refine SW_obj z (cw_X10_init Zs) s0 nq1 eZ2 eI3 rfl (fun Z5 I6 L7 s8 kq1 uq1 hq1 lq1 _ _ => ?_)
  intro Z9 eZ9
  have s10 := SW_put 0 s8 kq1 uq1 hq1 rfl (hs := shMo rfl)
  rw [← eZ9] at s10
  intro q11 nq11 Z12 eZ12 I13 eI13 L14 eL14
  refine SW_obj (z + 0) (cw_X9_init Zs) s10 nq11 eZ12 eI13 rfl (fun Z15 I16 L17 s18 kq11 uq11 hq11 lq11 _ _ => ?_)
  intro Z19 eZ19
  have s20 := SW_put 1 s18 kq11 uq11 hq11 rfl (hs := shMo rfl)
  rw [← eZ19] at s20
  intro q21 nq21 Z22 eZ22 I23 eI23 L24 eL24
  refine SW_obj ((z + 0) + 0) (cw_X8_init Zs) s20 nq21 eZ22 eI23 rfl (fun Z25 I26 L27 s28 kq21 uq21 hq21 lq21 _ _ => ?_)
  intro Z29 eZ29
  have s30 := SW_put 2 s28 kq21 uq21 hq21 rfl (hs := shMo rfl)
  rw [← eZ29] at s30
  intro q31 nq31 Z32 eZ32 I33 eI33 L34 eL34
  intro Z35 eZ35
  obtain ⟨g371, g372, g373⟩ := SW_new 18 6 s30 nq31 ⟨fun _ _ _ e => jsh_no (by decide) e, (fun _ i b e => by rw [jr_new] at e; cases e), (fun e => by cases e), (fun e => by cases e)⟩ (by decide)
  have s36 := SW_put 3 g371 jk_nw g372 g373 rfl (hs := shMl rfl (jlen_nw (k := 18)))
  rw [← eZ32, ← eZ35, ← eI33] at s36
  intro I38 eI38
  have s39 := SW_int 4 s36 (v := (0)) (ok := (by first | exact okF0 _ _ | trivial | exact ⟨by decide, by decide⟩ | exact hl))
  rw [← eI38] at s39
  intro q40 nq40 Z41 eZ41 I42 eI42 L43 eL43
  intro Z44 eZ44
  have s45 := SW_arr 5 14 8 s39 nq40 (hs := shM rfl)
  rw [← eZ41, ← eZ44, ← eI42] at s45
  intro q46 nq46 Z47 eZ47 I48 eI48 L49 eL49
  intro Z50 eZ50
  have s51 := SW_arr 6 14 8 s45 nq46 (hs := shM rfl)
  rw [← eZ47, ← eZ50, ← eI48] at s51
  intro q52 nq52 Z53 eZ53 I54 eI54 L55 eL55
  intro Z56 eZ56
  have s57 := SW_arr 7 14 8 s51 nq52 (hs := shM rfl)
  rw [← eZ53, ← eZ56, ← eI54] at s57
  intro q58 nq58 Z59 eZ59 I60 eI60 L61 eL61
  have cq := (CW_nw 17 2 s57.1 nq58).cast rfl rfl (show _ = (((z + 0) + 0) + 0) from rfl)
  rw [← eZ59, ← eI60] at cq
  have uq : q58 ∉ h0 :: U := fun e => nq58 (s57.1.2.2.2.2.1 q58 e).1
  have kq : jk Z59 q58 17 := by rw [eZ59]; exact jk_nw
  have w0 := SW_start cq kq uq (fun j => by rw [eZ59]; exact jr_new)
  intro q62 nq62 Z63 eZ63 I64 eI64 L65 eL65
  refine SW_obj (((z + 0) + 0) + 0) (cw_X2_init Zs) w0 nq62 eZ63 eI64 rfl (fun Z66 I67 L68 w1 kq62 uq62 hq62 _ xq62 oq62 => ?_)
  intro Z69 eZ69
  have eZ69 : Z69 = jpR Z66 q58 0 (some q62) := eZ69
  have w2 := SW_put 0 w1 kq62 uq62 hq62 rfl (hs := fun k o e => jsh_no (by decide) e)
  rw [← eZ69] at w2
  have a0 : jr Z69 q58 0 = some q62 := by rw [eZ69]; exact jrR_at
  have b0 : jk Z69 q62 2 := by rw [eZ69]; exact kq62
  intro q70 nq70 Z71 eZ71 I72 eI72 L73 eL73
  refine SW_obj (((z + 0) + 0) + 0) (cw_X2_init Zs) w2 nq70 eZ71 eI72 rfl (fun Z74 I75 L76 w3 kq70 uq70 hq70 _ xq70 oq70 => ?_)
  intro Z77 eZ77
  have eZ77 : Z77 = jpR Z74 q58 1 (some q70) := eZ77
  have w4 := SW_put 1 w3 kq70 uq70 hq70 rfl (hs := fun k o e => jsh_no (by decide) e)
  rw [← eZ77] at w4
  have a1 : jr Z77 q58 1 = some q70 := by rw [eZ77]; exact jrR_at
  have b1 : jk Z77 q70 2 := by rw [eZ77]; exact kq70
  have a0 : jr Z77 q58 0 = some q62 := by rw [eZ77, jrR_off (by decide)]; exact (congrFun (oq70 q58 w2.2.2.2.1.1).1 0).trans a0
  have b0 : jk Z77 q62 2 := by rw [eZ77]; exact (xq70 _ _ b0).1
  have lq : jlen Z77 q58 = 2 := (w4.2.1 _ _ kq).2.trans (by rw [eZ59]; exact jlen_nw (k := 17))
  have hnq := (w4.1.2.2.2.2.1 q58 List.mem_cons_self).2.2
  have cK := CW_done w4.1 w4.2.2.2.1 ⟨fun _ _ _ e => jsh_no (by decide) e, (fun e => by cases e), fun _ i hi => by
      rw [lq] at hi
      rcases (show i = 0 ∨ i = 1 by omega) with rfl | rfl
      · exact ⟨q62, a0, fun e => uq62 (List.mem_cons_of_mem _ e), b0⟩
      · exact ⟨q70, a1, fun e => uq70 (List.mem_cons_of_mem _ e), b1⟩, (fun e => by cases e)⟩
  have xq : jext Z56 Z59 := by rw [eZ59]; exact jext_nw nq58
  have s78 := SW_go s57 cK (jext_trans xq w4.2.1) (fun u hu => by
      have hne : u ≠ q58 := fun e => nq58 (e ▸ hu)
      obtain ⟨o1, o2⟩ := w4.2.2.1 u (xq u _ ⟨hu, rfl⟩).1.1 hne
      exact ⟨o1.trans (by rw [eZ59]; exact va_up_ne _ _ hne), o2.trans (by rw [eI60]; exact va_up_ne _ _ hne)⟩)
  intro Z79 eZ79
  have s80 := SW_put 8 s78 (k := 17) w4.2.2.2.1 uq hnq rfl (hs := shMl rfl lq)
  rw [← eZ79] at s80
  intro q81 nq81 Z82 eZ82 I83 eI83 L84 eL84
  refine SW_obj (((z + 0) + 0) + 0) (cw_X0_init Zs) s80 nq81 eZ82 eI83 rfl (fun Z85 I86 L87 s88 kq81 uq81 hq81 lq81 _ _ => ?_)
  intro Z89 eZ89
  have s90 := SW_put 9 s88 kq81 uq81 hq81 rfl (hs := shMo rfl)
  rw [← eZ89] at s90
  intro q91 nq91 Z92 eZ92 I93 eI93 L94 eL94
  refine SW_obj ((((z + 0) + 0) + 0) + 16383) (cw_X1_init Zs) s90 nq91 eZ92 eI93 rfl (fun Z95 I96 L97 s98 kq91 uq91 hq91 lq91 _ _ => ?_)
  intro Z99 eZ99
  have s100 := SW_put 10 s98 kq91 uq91 hq91 rfl (hs := shMo rfl)
  rw [← eZ99] at s100
  intro q101 nq101 Z102 eZ102 I103 eI103 L104 eL104
  intro Z105 eZ105
  have s106 := SW_arr 11 14 3 s100 nq101 (hs := shM rfl)
  rw [← eZ102, ← eZ105, ← eI103] at s106
  intro q107 nq107 Z108 eZ108 I109 eI109 L110 eL110
  intro Z111 eZ111
  have s112 := SW_arr 12 14 3 s106 nq107 (hs := shM rfl)
  rw [← eZ108, ← eZ111, ← eI109] at s112
  intro q113 nq113 Z114 eZ114 I115 eI115 L116 eL116
  intro Z117 eZ117
  have s118 := SW_arr 13 14 21 s112 nq113 (hs := shM rfl)
  rw [← eZ114, ← eZ117, ← eI115] at s118
  intro q119 nq119 Z120 eZ120 I121 eI121 L122 eL122
  intro Z123 eZ123
  have s124 := SW_arr 14 14 21 s118 nq119 (hs := shM rfl)
  rw [← eZ120, ← eZ123, ← eI121] at s124
  intro q125 nq125 Z126 eZ126 I127 eI127 L128 eL128
  intro Z129 eZ129
  have s130 := SW_arr 15 15 26 s124 nq125 (hs := shM rfl)
  rw [← eZ126, ← eZ129, ← eI127] at s130
  intro I131 eI131
  have s132 := SW_int 16 s130 (v := (0)) (ok := (by first | exact okF0 _ _ | trivial | exact ⟨by decide, by decide⟩ | exact hl))
  rw [← eI131] at s132
  obtain ⟨e1, e2⟩ := SW_end s132 (by decide) (shJ (by decide))
  exact hQ _ _ _ (e1.cast (by omega) (by have jv := jcsV; have j17 : jcs 17 2 = 2 := rfl; have j18 : jcs 18 6 = 6 := rfl; omega) (by omega)) s132.2.2.2.1 e2 (fun e => by cases e) s132.2.1 s132.2.2.1
set_option maxHeartbeats 4000000 in
set_option maxRecDepth 100000 in
theorem cw_X6_init {Zs : jZ} {v1 : Nat} (v2 v3 v4 : Int32) (kv1 : jk Zs v1 8) (hl : 0 ≤ v4.toInt ∧ v4.toInt ≤ 3) : CTWs Zs 6 (fun h0 Z I L Q => f_X6_init h0 v1 v2 v3 v4 Z I L Q) 24 560 0 4094 := by
  intro Is Z I L U h0 x y z Q hC hk hU hn hI hQ
  show f_X6_init h0 v1 v2 v3 v4 Z I L Q
  have s0 : SW Zs Is Z I U h0 6 [] Z I x y z := SW_start hC hk hU hn
  unfold f_X6_init
  intro q1 nq1 Z2 eZ2 I3 eI3 L4 eL4
  intro Z5 eZ5
  have s6 := SW_arr 4 14 75 s0 nq1 (hs := shM rfl)
  rw [← eZ2, ← eZ5, ← eI3] at s6
  intro q7 nq7 Z8 eZ8 I9 eI9 L10 eL10
  intro Z11 eZ11
  have s12 := SW_arr 5 14 75 s6 nq7 (hs := shM rfl)
  rw [← eZ8, ← eZ11, ← eI9] at s12
  intro q13 nq13 Z14 eZ14 I15 eI15 L16 eL16
  intro Z17 eZ17
  have s18 := SW_arr 6 16 25 s12 nq13 (hs := shM rfl)
  rw [← eZ14, ← eZ17, ← eI15] at s18
  intro q19 nq19 Z20 eZ20 I21 eI21 L22 eL22
  intro Z23 eZ23
  have s24 := SW_arr 7 14 25 s18 nq19 (hs := shM rfl)
  rw [← eZ20, ← eZ23, ← eI21] at s24
  intro q25 nq25 Z26 eZ26 I27 eI27 L28 eL28
  intro Z29 eZ29
  have s30 := SW_arr 8 14 25 s24 nq25 (hs := shM rfl)
  rw [← eZ26, ← eZ29, ← eI27] at s30
  intro q31 nq31 Z32 eZ32 I33 eI33 L34 eL34
  refine SW_obj (z + 2047) (cw_X7_init Zs) s30 nq31 eZ32 eI33 rfl (fun Z35 I36 L37 s38 kq31 uq31 hq31 lq31 _ _ => ?_)
  intro Z39 eZ39
  have s40 := SW_put 9 s38 kq31 uq31 hq31 rfl (hs := shMo rfl)
  rw [← eZ39] at s40
  intro q41 nq41 Z42 eZ42 I43 eI43 L44 eL44
  refine SW_obj (((z + 2047) + 0) + 2047) (cw_X7_init Zs) s40 nq41 eZ42 eI43 rfl (fun Z45 I46 L47 s48 kq41 uq41 hq41 lq41 _ _ => ?_)
  intro Z49 eZ49
  have s50 := SW_put 10 s48 kq41 uq41 hq41 rfl (hs := shMo rfl)
  rw [← eZ49] at s50
  intro q51 nq51 Z52 eZ52 I53 eI53 L54 eL54
  intro Z55 eZ55
  have s56 := SW_arr 11 15 21 s50 nq51 (hs := shM rfl)
  rw [← eZ52, ← eZ55, ← eI53] at s56
  intro q57 nq57 Z58 eZ58 I59 eI59 L60 eL60
  intro Z61 eZ61
  have s62 := SW_arr 12 14 21 s56 nq57 (hs := shM rfl)
  rw [← eZ58, ← eZ61, ← eI59] at s62
  intro q63 nq63 Z64 eZ64 I65 eI65 L66 eL66
  intro Z67 eZ67
  have s68 := SW_arr 13 14 21 s62 nq63 (hs := shM rfl)
  rw [← eZ64, ← eZ67, ← eI65] at s68
  intro I69 eI69
  have s70 := SW_int 14 s68 (v := (0)) (ok := (by first | exact okF0 _ _ | trivial | exact ⟨by decide, by decide⟩ | exact hl))
  rw [← eI69] at s70
  intro I71 eI71
  have s72 := SW_int 15 s70 (v := (0)) (ok := (by first | exact okF0 _ _ | trivial | exact ⟨by decide, by decide⟩ | exact hl))
  rw [← eI71] at s72
  intro Z73 eZ73
  have kb := (s72.1.1 _ _ kv1).1
  have s74 := SW_ref 0 s72 (z' := ((((z + 2047) + 0) + 2047) + 0)) (by decide) kb.1 (fun e => (s72.1.2.2.2.2.1 _ e).2.1 kv1.1) (Or.inr rfl) (fun e => by rw [kb.2] at e; cases e) (fun e => by cases e) (by rw [potc_put s72.2.2.2.1 (by omega) (by omega)]; exact s72.1.2.2.2.2.2.1.2.2) (fun r _ => capN_put s72.2.2.2.1 (by omega)) (fun k o e => by cases e; exact ⟨kb, fun m hm => by cases hm⟩)
  rw [← eZ73] at s74
  intro I75 eI75
  have s76 := SW_int 1 s74 (v := v2) (ok := (by first | exact okF0 _ _ | trivial | exact ⟨by decide, by decide⟩ | exact hl))
  rw [← eI75] at s76
  intro I77 eI77
  have s78 := SW_int 2 s76 (v := v3) (ok := (by first | exact okF0 _ _ | trivial | exact ⟨by decide, by decide⟩ | exact hl))
  rw [← eI77] at s78
  intro I79 eI79
  have s80 := SW_int 3 s78 (v := v4) (ok := (by first | exact okF0 _ _ | trivial | exact ⟨by decide, by decide⟩ | exact hl))
  rw [← eI79] at s80
  obtain ⟨e1, e2⟩ := SW_end s80 (by decide) (shJ (by decide))
  exact hQ _ _ _ (e1.cast (by omega) (by have jv := jcsV; have j17 : jcs 17 2 = 2 := rfl; have j18 : jcs 18 6 = 6 := rfl; omega) (by omega)) s80.2.2.2.1 e2 (fun e => by cases e) s80.2.1 s80.2.2.1
set_option maxHeartbeats 4000000 in
set_option maxRecDepth 100000 in
theorem cw_X5_init {Zs : jZ} {v1 : Nat} (v2 v3 v4 v5 : Int32) (kv1 : jk Zs v1 8) (hl : 0 ≤ v4.toInt ∧ v4.toInt ≤ 3) : CTWs Zs 5 (fun h0 Z I L Q => f_X5_init h0 v1 v2 v3 v4 v5 Z I L Q) 25 576 0 4094 := by
  intro Is Z I L U h0 x y z Q hC hk hU hn hI hQ
  show f_X5_init h0 v1 v2 v3 v4 v5 Z I L Q
  have s0 : SW Zs Is Z I U h0 5 [] Z I x y z := SW_start hC hk hU hn
  unfold f_X5_init
  intro I1 eI1
  have s2 := SW_int 4 s0 (v := (0)) (ok := (by first | exact okF0 _ _ | trivial | exact ⟨by decide, by decide⟩ | exact hl))
  rw [← eI1] at s2
  intro I3 eI3
  have s4 := SW_int 5 s2 (v := (-1)) (ok := (by first | exact okF0 _ _ | trivial | exact ⟨by decide, by decide⟩ | exact hl))
  rw [← eI3] at s4
  intro I5 eI5
  have s6 := SW_int 0 s4 (v := v2) (ok := (by first | exact okF0 _ _ | trivial | exact ⟨by decide, by decide⟩ | exact hl))
  rw [← eI5] at s6
  intro I7 eI7
  have s8 := SW_int 1 s6 (v := v3) (ok := (by first | exact okF0 _ _ | trivial | exact ⟨by decide, by decide⟩ | exact hl))
  rw [← eI7] at s8
  intro I9 eI9
  have s10 := SW_int 2 s8 (v := v4) (ok := (by first | exact okF0 _ _ | trivial | exact ⟨by decide, by decide⟩ | exact hl))
  rw [← eI9] at s10
  intro I11 eI11
  have s12 := SW_int 3 s10 (v := v5) (ok := (by first | exact okF0 _ _ | trivial | exact ⟨by decide, by decide⟩ | exact hl))
  rw [← eI11] at s12
  intro I13 eI13
  have s14 := SW_int 6 s12 (v := v2) (ok := (by first | exact okF0 _ _ | trivial | exact ⟨by decide, by decide⟩ | exact hl))
  rw [← eI13] at s14
  intro I15 eI15
  have s16 := SW_int 7 s14 (v := v3) (ok := (by first | exact okF0 _ _ | trivial | exact ⟨by decide, by decide⟩ | exact hl))
  rw [← eI15] at s16
  intro q17 nq17 Z18 eZ18 I19 eI19 L20 eL20
  refine SW_obj z (cw_X6_init v2 v3 v4 kv1 hl) s16 nq17 eZ18 eI19 rfl (fun Z21 I22 L23 s24 kq17 uq17 hq17 lq17 _ _ => ?_)
  intro Z25 eZ25
  have s26 := SW_put 8 s24 kq17 uq17 hq17 rfl (hs := shMo rfl)
  rw [← eZ25] at s26
  obtain ⟨e1, e2⟩ := SW_end s26 (by decide) (shJ (by decide))
  exact hQ _ _ _ (e1.cast (by omega) (by have jv := jcsV; have j17 : jcs 17 2 = 2 := rfl; have j18 : jcs 18 6 = 6 := rfl; omega) (by omega)) s26.2.2.2.1 e2 (fun e => by cases e) s26.2.1 s26.2.2.1
set_option maxHeartbeats 4000000 in
set_option maxRecDepth 100000 in
theorem cw_X12_init : CTW 12 f_X12_init 41 512380 0 0 := by
  intro Zs Is Z I L U h0 x y z Q hC hk hU hn hI hQ
  have s0 : SW Zs Is Z I U h0 12 [] Z I x y z := SW_start hC hk hU hn
  unfold f_X12_init
  intro q1 nq1 Z2 eZ2 I3 eI3 L4 eL4
  intro Z5 eZ5
  have s6 := SW_arr 1 14 24 s0 nq1 (hs := shM rfl)
  rw [← eZ2, ← eZ5, ← eI3] at s6
  intro q7 nq7 Z8 eZ8 I9 eI9 L10 eL10
  intro Z11 eZ11
  have s12 := SW_arr 2 14 24 s6 nq7 (hs := shM rfl)
  rw [← eZ8, ← eZ11, ← eI9] at s12
  intro q13 nq13 Z14 eZ14 I15 eI15 L16 eL16
  intro Z17 eZ17
  have s18 := SW_arr 3 14 24 s12 nq13 (hs := shM rfl)
  rw [← eZ14, ← eZ17, ← eI15] at s18
  intro q19 nq19 Z20 eZ20 I21 eI21 L22 eL22
  intro Z23 eZ23
  have s24 := SW_arr 4 16 24 s18 nq19 (hs := shM rfl)
  rw [← eZ20, ← eZ23, ← eI21] at s24
  intro q25 nq25 Z26 eZ26 I27 eI27 L28 eL28
  intro Z29 eZ29
  have s30 := SW_arr 5 14 192 s24 nq25 (hs := shM rfl)
  rw [← eZ26, ← eZ29, ← eI27] at s30
  intro q31 nq31 Z32 eZ32 I33 eI33 L34 eL34
  intro Z35 eZ35
  have s36 := SW_arr 6 16 64 s30 nq31 (hs := shM rfl)
  rw [← eZ32, ← eZ35, ← eI33] at s36
  intro q37 nq37 Z38 eZ38 I39 eI39 L40 eL40
  intro Z41 eZ41
  have s42 := SW_arr 9 14 6 s36 nq37 (hs := shM rfl)
  rw [← eZ38, ← eZ41, ← eI39] at s42
  intro q43 nq43 Z44 eZ44 I45 eI45 L46 eL46
  intro Z47 eZ47
  have s48 := SW_arr 10 14 6 s42 nq43 (hs := shM rfl)
  rw [← eZ44, ← eZ47, ← eI45] at s48
  intro q49 nq49 Z50 eZ50 I51 eI51 L52 eL52
  intro Z53 eZ53
  have s54 := SW_arr 11 14 6 s48 nq49 (hs := shM rfl)
  rw [← eZ50, ← eZ53, ← eI51] at s54
  intro q55 nq55 Z56 eZ56 I57 eI57 L58 eL58
  intro Z59 eZ59
  have s60 := SW_arr 12 14 6 s54 nq55 (hs := shM rfl)
  rw [← eZ56, ← eZ59, ← eI57] at s60
  intro q61 nq61 Z62 eZ62 I63 eI63 L64 eL64
  intro Z65 eZ65
  have s66 := SW_arr 13 14 6 s60 nq61 (hs := shM rfl)
  rw [← eZ62, ← eZ65, ← eI63] at s66
  intro q67 nq67 Z68 eZ68 I69 eI69 L70 eL70
  intro Z71 eZ71
  have s72 := SW_arr 14 14 6 s66 nq67 (hs := shM rfl)
  rw [← eZ68, ← eZ71, ← eI69] at s72
  intro q73 nq73 Z74 eZ74 I75 eI75 L76 eL76
  intro Z77 eZ77
  have s78 := SW_arr 15 14 6 s72 nq73 (hs := shM rfl)
  rw [← eZ74, ← eZ77, ← eI75] at s78
  intro q79 nq79 Z80 eZ80 I81 eI81 L82 eL82
  intro Z83 eZ83
  have s84 := SW_arr 16 14 6 s78 nq79 (hs := shM rfl)
  rw [← eZ80, ← eZ83, ← eI81] at s84
  intro q85 nq85 Z86 eZ86 I87 eI87 L88 eL88
  intro Z89 eZ89
  have s90 := SW_arr 17 14 8 s84 nq85 (hs := shM rfl)
  rw [← eZ86, ← eZ89, ← eI87] at s90
  intro q91 nq91 Z92 eZ92 I93 eI93 L94 eL94
  intro Z95 eZ95
  have s96 := SW_arr 18 13 80 s90 nq91 (hs := shM rfl)
  rw [← eZ92, ← eZ95, ← eI93] at s96
  intro q97 nq97 Z98 eZ98 I99 eI99 L100 eL100
  intro Z101 eZ101
  have s102 := SW_arr 20 15 40 s96 nq97 (hs := shM rfl)
  rw [← eZ98, ← eZ101, ← eI99] at s102
  intro q103 nq103 Z104 eZ104 I105 eI105 L106 eL106
  intro Z107 eZ107
  have s108 := SW_arr 28 14 120 s102 nq103 (hs := shM rfl)
  rw [← eZ104, ← eZ107, ← eI105] at s108
  intro q109 q110 q111 nq109 nq110 nq111 Z112 eZ112 I113 eI113 L114 eL114
  intro Z115 eZ115
  have s116 := SW_mna 29 s108 nq109 nq110 nq111 rfl
  rw [← eZ112, ← eZ115, ← eI113] at s116
  intro q117 nq117 Z118 eZ118 I119 eI119 L120 eL120
  intro Z121 eZ121
  have s122 := SW_arr 30 14 2 s116 nq117 (hs := shM rfl)
  rw [← eZ118, ← eZ121, ← eI119] at s122
  intro I123 eI123
  have s124 := SW_int 31 s122 (v := (-1)) (ok := (by first | exact okF0 _ _ | trivial | exact ⟨by decide, by decide⟩ | exact hl))
  rw [← eI123] at s124
  intro q125 nq125 Z126 eZ126 I127 eI127 L128 eL128
  intro Z129 eZ129
  have s130 := SW_arr 35 14 8 s124 nq125 (hs := shM rfl)
  rw [← eZ126, ← eZ129, ← eI127] at s130
  intro q131 nq131 Z132 eZ132 I133 eI133 L134 eL134
  intro Z135 eZ135
  have s136 := SW_arr 36 15 8 s130 nq131 (hs := shM rfl)
  rw [← eZ132, ← eZ135, ← eI133] at s136
  intro q137 nq137 Z138 eZ138 I139 eI139 L140 eL140
  intro Z141 eZ141
  have s142 := SW_arr 37 14 75 s136 nq137 (hs := shM rfl)
  rw [← eZ138, ← eZ141, ← eI139] at s142
  intro q143 nq143 Z144 eZ144 I145 eI145 L146 eL146
  intro Z147 eZ147
  have s148 := SW_arr 38 14 75 s142 nq143 (hs := shM rfl)
  rw [← eZ144, ← eZ147, ← eI145] at s148
  intro I149 eI149
  have s150 := SW_int 39 s148 (v := (-1)) (ok := (by first | exact okF0 _ _ | trivial | exact ⟨by decide, by decide⟩ | exact hl))
  rw [← eI149] at s150
  intro q151 nq151 Z152 eZ152 I153 eI153 L154 eL154
  intro Z155 eZ155
  have s156 := SW_arr 40 14 25000 s150 nq151 (hs := shM rfl)
  rw [← eZ152, ← eZ155, ← eI153] at s156
  intro q157 nq157 Z158 eZ158 I159 eI159 L160 eL160
  intro Z161 eZ161
  have s162 := SW_arr 44 14 24 s156 nq157 (hs := shM rfl)
  rw [← eZ158, ← eZ161, ← eI159] at s162
  intro q163 nq163 Z164 eZ164 I165 eI165 L166 eL166
  intro Z167 eZ167
  have s168 := SW_arr 45 14 484000 s162 nq163 (hs := shM rfl)
  rw [← eZ164, ← eZ167, ← eI165] at s168
  intro q169 nq169 Z170 eZ170 I171 eI171 L172 eL172
  intro Z173 eZ173
  have s174 := SW_arr 53 14 1536 s168 nq169 (hs := shM rfl)
  rw [← eZ170, ← eZ173, ← eI171] at s174
  intro q175 nq175 Z176 eZ176 I177 eI177 L178 eL178
  intro Z179 eZ179
  have s180 := SW_arr 54 14 192 s174 nq175 (hs := shM rfl)
  rw [← eZ176, ← eZ179, ← eI177] at s180
  intro q181 nq181 Z182 eZ182 I183 eI183 L184 eL184
  intro Z185 eZ185
  have s186 := SW_arr 55 14 144 s180 nq181 (hs := shM rfl)
  rw [← eZ182, ← eZ185, ← eI183] at s186
  intro q187 nq187 Z188 eZ188 I189 eI189 L190 eL190
  intro Z191 eZ191
  have s192 := SW_arr 56 14 6 s186 nq187 (hs := shM rfl)
  rw [← eZ188, ← eZ191, ← eI189] at s192
  intro q193 nq193 Z194 eZ194 I195 eI195 L196 eL196
  intro Z197 eZ197
  have s198 := SW_arr 57 14 6 s192 nq193 (hs := shM rfl)
  rw [← eZ194, ← eZ197, ← eI195] at s198
  intro q199 nq199 Z200 eZ200 I201 eI201 L202 eL202
  intro Z203 eZ203
  have s204 := SW_arr 58 14 6 s198 nq199 (hs := shM rfl)
  rw [← eZ200, ← eZ203, ← eI201] at s204
  intro q205 nq205 Z206 eZ206 I207 eI207 L208 eL208
  intro Z209 eZ209
  have s210 := SW_arr 59 14 24 s204 nq205 (hs := shM rfl)
  rw [← eZ206, ← eZ209, ← eI207] at s210
  intro q211 nq211 Z212 eZ212 I213 eI213 L214 eL214
  intro Z215 eZ215
  have s216 := SW_arr 61 14 6 s210 nq211 (hs := shM rfl)
  rw [← eZ212, ← eZ215, ← eI213] at s216
  intro q217 nq217 Z218 eZ218 I219 eI219 L220 eL220
  intro Z221 eZ221
  have s222 := SW_arr 62 14 532 s216 nq217 (hs := shM rfl)
  rw [← eZ218, ← eZ221, ← eI219] at s222
  intro q223 nq223 Z224 eZ224 I225 eI225 L226 eL226
  intro Z227 eZ227
  have s228 := SW_arr 63 16 2 s222 nq223 (hs := shM rfl)
  rw [← eZ224, ← eZ227, ← eI225] at s228
  intro q229 nq229 Z230 eZ230 I231 eI231 L232 eL232
  intro Z233 eZ233
  have s234 := SW_arr 64 14 2 s228 nq229 (hs := shM rfl)
  rw [← eZ230, ← eZ233, ← eI231] at s234
  intro q235 nq235 Z236 eZ236 I237 eI237 L238 eL238
  intro Z239 eZ239
  have s240 := SW_arr 65 14 2 s234 nq235 (hs := shM rfl)
  rw [← eZ236, ← eZ239, ← eI237] at s240
  obtain ⟨e1, e2⟩ := SW_end s240 (by decide) (shJ (by decide))
  exact hQ _ _ _ (e1.cast (by omega) (by have jv := jcsV; have j17 : jcs 17 2 = 2 := rfl; have j18 : jcs 18 6 = 6 := rfl; omega) (by omega)) s240.2.2.2.1 e2 (fun e => by cases e) s240.2.1 s240.2.2.1
