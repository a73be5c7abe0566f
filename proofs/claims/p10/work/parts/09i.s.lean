def Ws_X12_stairs : List (Nat × Nat) := [(12, 0), (12, 1), (12, 2), (12, 3), (12, 4), (12, 5), (12, 7), (12, 14), (12, 15), (12, 16), (12, 17), (12, 19), (12, 22), (12, 24), (12, 25), (12, 26), (12, 27), (12, 28), (12, 52)]
set_option maxHeartbeats 4000000 in
set_option maxRecDepth 100000 in
theorem l_X12_stairs_L301 {B : Nat × Nat} {T : Nat} {Z0 : jZ} {I0 : jI} {Q : Int32 → jZ → jI → jL → Prop} (w0 : WD Z0 I0) (v0 : Nat) (kv0 : jk Z0 v0 12) (v1 : Int32) (hQ : ∀ (r : Int32) (Z' : jZ) (I' : jI) (L' : jL), WD Z' I' → BUD B Z' T → FR Ws_X12_stairs Z0 I0 Z' I' → CP Z0 Z' → Q r Z' I' L') : ∀ (n : Nat) (v3 : Int32) (Z : jZ) (I : jI) (L : jL), WD Z I → BUD B Z T → FR Ws_X12_stairs Z0 I0 Z I → CP Z0 Z →   (0 ≤ v3.toInt ∧ v3.toInt ≤ 6) → 6 - v3.toInt < (n : Int) → f_X12_stairs_L301 B  Q n v0 v1 v3 Z I L := by
  intro n
  induction n with
  | zero =>
    intro v3 Z I L w_I bd_Z q_I cp_Z   li  me
    exfalso
    omega
  | succ n ih =>
    intro v3 Z I L w_I bd_Z q_I cp_Z   li  me
    unfold f_X12_stairs_L301
    have rv3 := i_rng v3
    have rv1 := i_rng v1
    have kv0_0 := kv0
    have kv0 := (q_I.1 _ _ kv0).1
    have xq_I := q_I.1
    have t2 : 0 ≤ (I v0 8).toInt ∧ (I v0 8).toInt ≤ 6 := w_I.fld 12 8 kv0 (by decide)
    refine ⟨fun c3 => ?_, fun c3 => ?_⟩
    · skip
      first | (have t4 : (I v0 8).toInt ≤ v3.toInt := (i_le rfl rfl).mp c3) | (have t4 : (I v0 8).toInt ≤ v3.toInt := (i_le rfl rfl).mp c3) | skip
      exact hQ v1 Z I L w_I bd_Z q_I cp_Z 
    · skip
      first | (have t5 : ¬ ((I v0 8).toInt ≤ v3.toInt) := (not_congr (i_le rfl rfl)).mp c3) | (have t5 : ¬ ((I v0 8).toInt ≤ v3.toInt) := (not_congr (i_le rfl rfl)).mp c3) | skip
      intro b6 eb6
      obtain ⟨x7, ex7, kb6, lb6⟩ := sh_f w_I.1 kv0 (j := 14) (k := 14) (m := 6) rfl
      cases eb6.symm.trans ex7
      have o8 : vp_in v3 6 := vi_of rfl (by omega) (by omega)
      refine ⟨o8, ?_⟩
      intro I9 eI9
      have t10 : (-1 : Int32).toInt = -1 := rfl
      have w_I9 : WD Z I9 := by rw [eI9]; exact WD_putA w_I 12 14 kv0 eb6 kb6 rfl rfl (by decide) (by constructor <;> omega)
      have f_I9 : FR [(12, 14)] Z I Z I9 := by rw [eI9]; exact FR_upA w_I.2.1 kv0 eb6 kb6 rfl rfl List.mem_cons_self
      have q_I9 : FR Ws_X12_stairs Z0 I0 Z I9 := q_I.trans w0.1 w0.2.1 (f_I9.mono (by decide))
      have u11 : (I9 v0 8).toInt = (I v0 8).toInt := by rw [f_I9.2.2.1 v0 12 8 kv0 (by decide) (by decide)]
      intro b12 eb12
      obtain ⟨x13, ex13, kb12, lb12⟩ := sh_f w_I9.1 kv0 (j := 15) (k := 14) (m := 6) rfl
      cases eb12.symm.trans ex13
      intro b14 eb14
      obtain ⟨x15, ex15, kb14, lb14⟩ := sh_f w_I9.1 kv0 (j := 9) (k := 14) (m := 6) rfl
      cases eb14.symm.trans ex15
      have o16 : vp_in v3 6 := vi_of rfl (by omega) (by omega)
      refine ⟨o16, ?_⟩
      have t17 : 0 ≤ (I9 b14 v3.toNatClampNeg).toInt ∧ (I9 b14 v3.toNatClampNeg).toInt ≤ 120 := w_I9.arr 12 9 kv0 eb14 kb14 rfl rfl _
      have o18 : vp_in v3 6 := vi_of rfl (by omega) (by omega)
      refine ⟨o18, ?_⟩
      intro I19 eI19
      have w_I19 : WD Z I19 := by rw [eI19]; exact WD_putA w_I9 12 15 kv0 eb12 kb12 rfl rfl (by decide) trivial
      have f_I19 : FR [(12, 15)] Z I9 Z I19 := by rw [eI19]; exact FR_upA w_I9.2.1 kv0 eb12 kb12 rfl rfl List.mem_cons_self
      have q_I19 : FR Ws_X12_stairs Z0 I0 Z I19 := q_I9.trans w0.1 w0.2.1 (f_I19.mono (by decide))
      have u20 : (I19 v0 8).toInt = (I9 v0 8).toInt := by rw [f_I19.2.2.1 v0 12 8 kv0 (by decide) (by decide)]
      intro b21 eb21
      obtain ⟨x22, ex22, kb21, lb21⟩ := sh_f w_I19.1 kv0 (j := 16) (k := 14) (m := 6) rfl
      cases eb21.symm.trans ex22
      intro b23 eb23
      obtain ⟨x24, ex24, kb23, lb23⟩ := sh_f w_I19.1 kv0 (j := 10) (k := 14) (m := 6) rfl
      cases eb23.symm.trans ex24
      have o25 : vp_in v3 6 := vi_of rfl (by omega) (by omega)
      refine ⟨o25, ?_⟩
      have t26 : 0 ≤ (I19 b23 v3.toNatClampNeg).toInt ∧ (I19 b23 v3.toNatClampNeg).toInt ≤ 999 := w_I19.arr 12 10 kv0 eb23 kb23 rfl rfl _
      have o27 : vp_in v3 6 := vi_of rfl (by omega) (by omega)
      refine ⟨o27, ?_⟩
      intro I28 eI28
      have w_I28 : WD Z I28 := by rw [eI28]; exact WD_putA w_I19 12 16 kv0 eb21 kb21 rfl rfl (by decide) trivial
      have f_I28 : FR [(12, 16)] Z I19 Z I28 := by rw [eI28]; exact FR_upA w_I19.2.1 kv0 eb21 kb21 rfl rfl List.mem_cons_self
      have q_I28 : FR Ws_X12_stairs Z0 I0 Z I28 := q_I19.trans w0.1 w0.2.1 (f_I28.mono (by decide))
      have u29 : (I28 v0 8).toInt = (I19 v0 8).toInt := by rw [f_I28.2.2.1 v0 12 8 kv0 (by decide) (by decide)]
      intro x30 ex30
      have rx30 := i_rng x30
      first | (have tx30 : x30.toInt = v3.toInt + (1) := by (rw [ex30]; exact (i_add rfl (show (1 : Int32).toInt = 1 from rfl) (by omega) (by omega)))) | skip
      exact ih x30 Z I28 L w_I28 bd_Z q_I28 cp_Z   (by omega)  (by omega)
set_option maxHeartbeats 4000000 in
set_option maxRecDepth 100000 in
theorem l_X12_stairs_L280 {B : Nat × Nat} {T : Nat} {Z0 : jZ} {I0 : jI} {Q : Int32 → jZ → jI → jL → Prop} (w0 : WD Z0 I0) (v0 : Nat) (kv0 : jk Z0 v0 12) (v1 : Int32) (hQ : ∀ (r : Int32) (Z' : jZ) (I' : jI) (L' : jL), WD Z' I' → BUD B Z' T → FR Ws_X12_stairs Z0 I0 Z' I' → CP Z0 Z' → Q r Z' I' L') : ∀ (n : Nat) (v3 : Int32) (Z : jZ) (I : jI) (L : jL), WD Z I → BUD B Z T → FR Ws_X12_stairs Z0 I0 Z I → CP Z0 Z →   (0 ≤ v3.toInt ∧ v3.toInt ≤ 8) → 8 - v3.toInt < (n : Int) → f_X12_stairs_L280 B  Q n v0 v1 v3 Z I L := by
  intro n
  induction n with
  | zero =>
    intro v3 Z I L w_I bd_Z q_I cp_Z   li  me
    exfalso
    omega
  | succ n ih =>
    intro v3 Z I L w_I bd_Z q_I cp_Z   li  me
    unfold f_X12_stairs_L280
    have rv3 := i_rng v3
    have rv1 := i_rng v1
    have kv0_0 := kv0
    have kv0 := (q_I.1 _ _ kv0).1
    have xq_I := q_I.1
    refine ⟨fun c31 => ?_, fun c31 => ?_⟩
    · skip
      first | (have t32 : (8) ≤ v3.toInt := (i_le (show (8 : Int32).toInt = 8 from rfl) rfl).mp c31) | (have t32 : (8 : Int32).toInt ≤ v3.toInt := (i_le rfl rfl).mp c31) | skip
      have t33 : (0 : Int32).toInt = 0 := rfl
      exact ⟨(6 - (0 : Int32).toInt).toNat + 1, l_X12_stairs_L301 w0 v0 kv0_0 v1  hQ   _ (0 : Int32) Z I L w_I bd_Z q_I cp_Z   (by omega)  (by omega)⟩
    · skip
      first | (have t34 : ¬ ((8) ≤ v3.toInt) := (not_congr (i_le (show (8 : Int32).toInt = 8 from rfl) rfl)).mp c31) | (have t34 : ¬ ((8 : Int32).toInt ≤ v3.toInt) := (not_congr (i_le rfl rfl)).mp c31) | skip
      intro b35 eb35
      obtain ⟨x36, ex36, kb35, lb35⟩ := sh_f w_I.1 kv0 (j := 17) (k := 14) (m := 8) rfl
      cases eb35.symm.trans ex36
      have o37 : vp_in v3 8 := vi_of rfl (by omega) (by omega)
      refine ⟨o37, ?_⟩
      intro I38 eI38
      have t39 : (0 : Int32).toInt = 0 := rfl
      have w_I38 : WD Z I38 := by rw [eI38]; exact WD_putA w_I 12 17 kv0 eb35 kb35 rfl rfl (by decide) trivial
      have f_I38 : FR [(12, 17)] Z I Z I38 := by rw [eI38]; exact FR_upA w_I.2.1 kv0 eb35 kb35 rfl rfl List.mem_cons_self
      have q_I38 : FR Ws_X12_stairs Z0 I0 Z I38 := q_I.trans w0.1 w0.2.1 (f_I38.mono (by decide))
      intro x40 ex40
      have rx40 := i_rng x40
      first | (have tx40 : x40.toInt = v3.toInt + (1) := by (rw [ex40]; exact (i_add rfl (show (1 : Int32).toInt = 1 from rfl) (by omega) (by omega)))) | skip
      exact ih x40 Z I38 L w_I38 bd_Z q_I38 cp_Z   (by omega)  (by omega)
set_option maxHeartbeats 4000000 in
set_option maxRecDepth 100000 in
theorem l_X12_stairs_L185 {B : Nat × Nat} {T : Nat} {Z0 : jZ} {I0 : jI} {Q : Int32 → jZ → jI → jL → Prop} (w0 : WD Z0 I0) (v0 : Nat) (kv0 : jk Z0 v0 12) (v1 : Int32) (v3 : Int32) (hQ : ∀ (r : Int32) (Z' : jZ) (I' : jI) (L' : jL), WD Z' I' → BUD B Z' T → FR Ws_X12_stairs Z0 I0 Z' I' → CP Z0 Z' → Q r Z' I' L') {K131 : Nat → Int32 → Int32 → jZ → jI → jL → Prop} {N131 : Int} (hK131 : ∀ (v3 : Int32) (Z : jZ) (I : jI) (L : jL), WD Z I → BUD B Z T → FR Ws_X12_stairs Z0 I0 Z I → CP Z0 Z →   (0 ≤ v3.toInt ∧ v3.toInt ≤ 24 ∧ v1.toInt ≤ 24) → 24 - v3.toInt < N131 → K131 v0 v1 v3 Z I L) : ∀ (n : Nat) (v4 : Int32) (Z : jZ) (I : jI) (L : jL), WD Z I → BUD B Z T → FR Ws_X12_stairs Z0 I0 Z I → CP Z0 Z →   (0 ≤ v3.toInt ∧ v3.toInt ≤ 23 ∧ v1.toInt ≤ 24 ∧ 0 ≤ v4.toInt ∧ v4.toInt ≤ 8) → 24 - v3.toInt ≤ N131 → 8 - v4.toInt < (n : Int) → f_X12_stairs_L185 B K131 Q n v0 v1 v3 v4 Z I L := by
  intro n
  induction n with
  | zero =>
    intro v4 Z I L w_I bd_Z q_I cp_Z   li hm131 me
    exfalso
    omega
  | succ n ih =>
    intro v4 Z I L w_I bd_Z q_I cp_Z   li hm131 me
    unfold f_X12_stairs_L185
    have rv4 := i_rng v4
    have rv1 := i_rng v1
    have rv3 := i_rng v3
    have kv0_0 := kv0
    have kv0 := (q_I.1 _ _ kv0).1
    have xq_I := q_I.1
    refine ⟨fun c41 => ?_, fun c41 => ?_⟩
    · skip
      first | (have t42 : (8) ≤ v4.toInt := (i_le (show (8 : Int32).toInt = 8 from rfl) rfl).mp c41) | (have t42 : (8 : Int32).toInt ≤ v4.toInt := (i_le rfl rfl).mp c41) | skip
      intro b43 eb43
      obtain ⟨x44, ex44, kb43, lb43⟩ := sh_f w_I.1 kv0 (j := 4) (k := 16) (m := 24) rfl
      cases eb43.symm.trans ex44
      intro b45 eb45
      obtain ⟨x46, ex46, kb45, lb45⟩ := sh_f w_I.1 kv0 (j := 28) (k := 14) (m := 120) rfl
      cases eb45.symm.trans ex46
      have o47 : vp_in (((5 : Int32) * v3) + (4 : Int32)) 120 := vi_of (i_add (i_mul (show (5 : Int32).toInt = 5 from rfl) rfl (by omega) (by omega)) (show (4 : Int32).toInt = 4 from rfl) (by omega) (by omega)) (by omega) (by omega)
      refine ⟨o47, ?_⟩
      have t49 := i_nat (x := (((5 : Int32) * v3) + (4 : Int32))) (i_add (i_mul (show (5 : Int32).toInt = 5 from rfl) rfl (by omega) (by omega)) (show (4 : Int32).toInt = 4 from rfl) (by omega) (by omega)) (by omega)
      have h48 : ((((5 : Int32) * v3) + (4 : Int32)).toNatClampNeg % 5 = 0 → 0 ≤ (I b45 (((5 : Int32) * v3) + (4 : Int32)).toNatClampNeg).toInt ∧ (I b45 (((5 : Int32) * v3) + (4 : Int32)).toNatClampNeg).toInt ≤ 30) ∧ ((((5 : Int32) * v3) + (4 : Int32)).toNatClampNeg % 5 = 1 → 0 ≤ (I b45 (((5 : Int32) * v3) + (4 : Int32)).toNatClampNeg).toInt ∧ (I b45 (((5 : Int32) * v3) + (4 : Int32)).toNatClampNeg).toInt ≤ 9) ∧ ((((5 : Int32) * v3) + (4 : Int32)).toNatClampNeg % 5 = 2 → 0 ≤ (I b45 (((5 : Int32) * v3) + (4 : Int32)).toNatClampNeg).toInt ∧ (I b45 (((5 : Int32) * v3) + (4 : Int32)).toNatClampNeg).toInt ≤ 20) := w_I.arr 12 28 kv0 eb45 kb45 rfl rfl _
      first | (have h481 := h48.1 (by omega)) | (have h481 := h48.2.1 (by omega)) | (have h481 := h48.2.2 (by omega)) | skip
      clear h48
      refine ⟨fun c50 => ?_, fun c50 => ?_⟩
      · skip
        first | (have t51 : ¬ ((I b45 (((5 : Int32) * v3) + (4 : Int32)).toNatClampNeg).toInt = (1)) := (not_congr (i_eq rfl (show (1 : Int32).toInt = 1 from rfl))).mp c50) | (have t51 : ¬ ((I b45 (((5 : Int32) * v3) + (4 : Int32)).toNatClampNeg).toInt = (1 : Int32).toInt) := (not_congr (i_eq rfl rfl)).mp c50) | skip
        unfold f_X12_stairs_b256
        have o52 : vp_in v3 (jlen Z b43) := vi_of rfl (by omega) (by omega)
        refine ⟨o52, ?_⟩
        intro I53 eI53
        have t54 : (0 : Int32).toInt = 0 := rfl
        have w_I53 : WD Z I53 := by rw [eI53]; exact WD_putA w_I 12 4 kv0 eb43 kb43 rfl rfl (by decide) trivial
        have f_I53 : FR [(12, 4)] Z I Z I53 := by rw [eI53]; exact FR_upA w_I.2.1 kv0 eb43 kb43 rfl rfl List.mem_cons_self
        have q_I53 : FR Ws_X12_stairs Z0 I0 Z I53 := q_I.trans w0.1 w0.2.1 (f_I53.mono (by decide))
        intro x55 ex55
        have rx55 := i_rng x55
        first | (have tx55 : x55.toInt = v3.toInt + (1) := by (rw [ex55]; exact (i_add rfl (show (1 : Int32).toInt = 1 from rfl) (by omega) (by omega)))) | skip
        exact hK131 x55 Z I53 L w_I53 bd_Z q_I53 cp_Z   (by omega)  (by omega)
      · skip
        first | (have t56 : (I b45 (((5 : Int32) * v3) + (4 : Int32)).toNatClampNeg).toInt = (1) := (i_eq rfl (show (1 : Int32).toInt = 1 from rfl)).mp c50) | (have t56 : (I b45 (((5 : Int32) * v3) + (4 : Int32)).toNatClampNeg).toInt = (1 : Int32).toInt := (i_eq rfl rfl).mp c50) | skip
        unfold f_X12_stairs_b256
        have o57 : vp_in v3 (jlen Z b43) := vi_of rfl (by omega) (by omega)
        refine ⟨o57, ?_⟩
        intro I58 eI58
        have t59 : (1 : Int32).toInt = 1 := rfl
        have w_I58 : WD Z I58 := by rw [eI58]; exact WD_putA w_I 12 4 kv0 eb43 kb43 rfl rfl (by decide) trivial
        have f_I58 : FR [(12, 4)] Z I Z I58 := by rw [eI58]; exact FR_upA w_I.2.1 kv0 eb43 kb43 rfl rfl List.mem_cons_self
        have q_I58 : FR Ws_X12_stairs Z0 I0 Z I58 := q_I.trans w0.1 w0.2.1 (f_I58.mono (by decide))
        intro x60 ex60
        have rx60 := i_rng x60
        first | (have tx60 : x60.toInt = v3.toInt + (1) := by (rw [ex60]; exact (i_add rfl (show (1 : Int32).toInt = 1 from rfl) (by omega) (by omega)))) | skip
        exact hK131 x60 Z I58 L w_I58 bd_Z q_I58 cp_Z   (by omega)  (by omega)
    · skip
      first | (have t61 : ¬ ((8) ≤ v4.toInt) := (not_congr (i_le (show (8 : Int32).toInt = 8 from rfl) rfl)).mp c41) | (have t61 : ¬ ((8 : Int32).toInt ≤ v4.toInt) := (not_congr (i_le rfl rfl)).mp c41) | skip
      intro b62 eb62
      obtain ⟨x63, ex63, kb62, lb62⟩ := sh_f w_I.1 kv0 (j := 5) (k := 14) (m := 192) rfl
      cases eb62.symm.trans ex63
      intro b64 eb64
      obtain ⟨x65, ex65, kb64, lb64⟩ := sh_f w_I.1 kv0 (j := 28) (k := 14) (m := 120) rfl
      cases eb64.symm.trans ex65
      have o66 : vp_in (((5 : Int32) * v3) + (3 : Int32)) 120 := vi_of (i_add (i_mul (show (5 : Int32).toInt = 5 from rfl) rfl (by omega) (by omega)) (show (3 : Int32).toInt = 3 from rfl) (by omega) (by omega)) (by omega) (by omega)
      refine ⟨o66, ?_⟩
      have t68 := i_nat (x := (((5 : Int32) * v3) + (3 : Int32))) (i_add (i_mul (show (5 : Int32).toInt = 5 from rfl) rfl (by omega) (by omega)) (show (3 : Int32).toInt = 3 from rfl) (by omega) (by omega)) (by omega)
      have h67 : ((((5 : Int32) * v3) + (3 : Int32)).toNatClampNeg % 5 = 0 → 0 ≤ (I b64 (((5 : Int32) * v3) + (3 : Int32)).toNatClampNeg).toInt ∧ (I b64 (((5 : Int32) * v3) + (3 : Int32)).toNatClampNeg).toInt ≤ 30) ∧ ((((5 : Int32) * v3) + (3 : Int32)).toNatClampNeg % 5 = 1 → 0 ≤ (I b64 (((5 : Int32) * v3) + (3 : Int32)).toNatClampNeg).toInt ∧ (I b64 (((5 : Int32) * v3) + (3 : Int32)).toNatClampNeg).toInt ≤ 9) ∧ ((((5 : Int32) * v3) + (3 : Int32)).toNatClampNeg % 5 = 2 → 0 ≤ (I b64 (((5 : Int32) * v3) + (3 : Int32)).toNatClampNeg).toInt ∧ (I b64 (((5 : Int32) * v3) + (3 : Int32)).toNatClampNeg).toInt ≤ 20) := w_I.arr 12 28 kv0 eb64 kb64 rfl rfl _
      first | (have h671 := h67.1 (by omega)) | (have h671 := h67.2.1 (by omega)) | (have h671 := h67.2.2 (by omega)) | skip
      clear h67
      refine ⟨fun c69 => ?_, fun c69 => ?_⟩
      · skip
        first | (have t70 : ¬ (v4.toInt = (I b64 (((5 : Int32) * v3) + (3 : Int32)).toNatClampNeg).toInt) := (not_congr (i_eq rfl rfl)).mp c69) | (have t70 : ¬ (v4.toInt = (I b64 (((5 : Int32) * v3) + (3 : Int32)).toNatClampNeg).toInt) := (not_congr (i_eq rfl rfl)).mp c69) | skip
        unfold f_X12_stairs_b225
        have o71 : vp_in (((8 : Int32) * v3) + v4) (jlen Z b62) := vi_of (i_add (i_mul (show (8 : Int32).toInt = 8 from rfl) rfl (by omega) (by omega)) rfl (by omega) (by omega)) (by omega) (by omega)
        refine ⟨o71, ?_⟩
        intro I72 eI72
        have t73 : (0 : Int32).toInt = 0 := rfl
        have w_I72 : WD Z I72 := by rw [eI72]; exact WD_putA w_I 12 5 kv0 eb62 kb62 rfl rfl (by decide) trivial
        have f_I72 : FR [(12, 5)] Z I Z I72 := by rw [eI72]; exact FR_upA w_I.2.1 kv0 eb62 kb62 rfl rfl List.mem_cons_self
        have q_I72 : FR Ws_X12_stairs Z0 I0 Z I72 := q_I.trans w0.1 w0.2.1 (f_I72.mono (by decide))
        intro x74 ex74
        have rx74 := i_rng x74
        first | (have tx74 : x74.toInt = v4.toInt + (1) := by (rw [ex74]; exact (i_add rfl (show (1 : Int32).toInt = 1 from rfl) (by omega) (by omega)))) | skip
        exact ih x74 Z I72 L w_I72 bd_Z q_I72 cp_Z   (by omega) (by omega) (by omega)
      · skip
        first | (have t75 : v4.toInt = (I b64 (((5 : Int32) * v3) + (3 : Int32)).toNatClampNeg).toInt := (i_eq rfl rfl).mp c69) | (have t75 : v4.toInt = (I b64 (((5 : Int32) * v3) + (3 : Int32)).toNatClampNeg).toInt := (i_eq rfl rfl).mp c69) | skip
        unfold f_X12_stairs_b225
        have o76 : vp_in (((8 : Int32) * v3) + v4) (jlen Z b62) := vi_of (i_add (i_mul (show (8 : Int32).toInt = 8 from rfl) rfl (by omega) (by omega)) rfl (by omega) (by omega)) (by omega) (by omega)
        refine ⟨o76, ?_⟩
        intro I77 eI77
        have t78 : (720 : Int32).toInt = 720 := rfl
        have w_I77 : WD Z I77 := by rw [eI77]; exact WD_putA w_I 12 5 kv0 eb62 kb62 rfl rfl (by decide) trivial
        have f_I77 : FR [(12, 5)] Z I Z I77 := by rw [eI77]; exact FR_upA w_I.2.1 kv0 eb62 kb62 rfl rfl List.mem_cons_self
        have q_I77 : FR Ws_X12_stairs Z0 I0 Z I77 := q_I.trans w0.1 w0.2.1 (f_I77.mono (by decide))
        intro x79 ex79
        have rx79 := i_rng x79
        first | (have tx79 : x79.toInt = v4.toInt + (1) := by (rw [ex79]; exact (i_add rfl (show (1 : Int32).toInt = 1 from rfl) (by omega) (by omega)))) | skip
        exact ih x79 Z I77 L w_I77 bd_Z q_I77 cp_Z   (by omega) (by omega) (by omega)
set_option maxHeartbeats 4000000 in
set_option maxRecDepth 100000 in
theorem l_X12_stairs_L131 {B : Nat × Nat} {T : Nat} {Z0 : jZ} {I0 : jI} {Q : Int32 → jZ → jI → jL → Prop} (w0 : WD Z0 I0) (v0 : Nat) (kv0 : jk Z0 v0 12) (v1 : Int32) (hQ : ∀ (r : Int32) (Z' : jZ) (I' : jI) (L' : jL), WD Z' I' → BUD B Z' T → FR Ws_X12_stairs Z0 I0 Z' I' → CP Z0 Z' → Q r Z' I' L') : ∀ (n : Nat) (v3 : Int32) (Z : jZ) (I : jI) (L : jL), WD Z I → BUD B Z T → FR Ws_X12_stairs Z0 I0 Z I → CP Z0 Z →   (0 ≤ v3.toInt ∧ v3.toInt ≤ 24 ∧ v1.toInt ≤ 24) → 24 - v3.toInt < (n : Int) → f_X12_stairs_L131 B  Q n v0 v1 v3 Z I L := by
  intro n
  induction n with
  | zero =>
    intro v3 Z I L w_I bd_Z q_I cp_Z   li  me
    exfalso
    omega
  | succ n ih =>
    intro v3 Z I L w_I bd_Z q_I cp_Z   li  me
    unfold f_X12_stairs_L131
    have rv3 := i_rng v3
    have rv1 := i_rng v1
    have kv0_0 := kv0
    have kv0 := (q_I.1 _ _ kv0).1
    have xq_I := q_I.1
    refine ⟨fun c80 => ?_, fun c80 => ?_⟩
    · skip
      first | (have t81 : v1.toInt ≤ v3.toInt := (i_le rfl rfl).mp c80) | (have t81 : v1.toInt ≤ v3.toInt := (i_le rfl rfl).mp c80) | skip
      intro I82 eI82
      try (have t83 : ((I v0 7) + (1 : Int32)).toInt = ((I v0 7).toInt + (1)) := (i_add rfl (show (1 : Int32).toInt = 1 from rfl) (by omega) (by omega)))
      have w_I82 : WD Z I82 := by rw [eI82]; exact WD_putF w_I 12 7 kv0 (by decide) (by decide) trivial
      have f_I82 : FR [(12, 7)] Z I Z I82 := by rw [eI82]; exact FR_putF kv0 (by decide) List.mem_cons_self
      have q_I82 : FR Ws_X12_stairs Z0 I0 Z I82 := q_I.trans w0.1 w0.2.1 (f_I82.mono (by decide))
      first | (have u84 : (I82 v0 7).toInt = ((I v0 7).toInt + (1)) := by (rw [eI82, show jpI I v0 7 ((I v0 7) + (1 : Int32)) v0 7 = ((I v0 7) + (1 : Int32)) from jpI_at] <;> exact (i_add rfl (show (1 : Int32).toInt = 1 from rfl) (by omega) (by omega)))) | skip
      intro I85 eI85
      have t86 : (0 : Int32).toInt = 0 := rfl
      have w_I85 : WD Z I85 := by rw [eI85]; exact WD_putF w_I82 12 52 kv0 (by decide) (by decide) (by constructor <;> omega)
      have f_I85 : FR [(12, 52)] Z I82 Z I85 := by rw [eI85]; exact FR_putF kv0 (by decide) List.mem_cons_self
      have q_I85 : FR Ws_X12_stairs Z0 I0 Z I85 := q_I82.trans w0.1 w0.2.1 (f_I85.mono (by decide))
      have u87 : (I85 v0 7).toInt = (I82 v0 7).toInt := by rw [f_I85.2.2.1 v0 12 7 kv0 (by decide) (by decide)]
      first | (have u88 : (I85 v0 52).toInt = (0) := by (rw [eI85, show jpI I82 v0 52 (0 : Int32) v0 52 = (0 : Int32) from jpI_at] <;> exact (show (0 : Int32).toInt = 0 from rfl))) | skip
      have t89 : (0 : Int32).toInt = 0 := rfl
      exact ⟨(8 - (0 : Int32).toInt).toNat + 1, l_X12_stairs_L280 w0 v0 kv0_0 v1  hQ   _ (0 : Int32) Z I85 L w_I85 bd_Z q_I85 cp_Z   (by omega)  (by omega)⟩
    · skip
      first | (have t90 : ¬ (v1.toInt ≤ v3.toInt) := (not_congr (i_le rfl rfl)).mp c80) | (have t90 : ¬ (v1.toInt ≤ v3.toInt) := (not_congr (i_le rfl rfl)).mp c80) | skip
      intro b91 eb91
      obtain ⟨x92, ex92, kb91, lb91⟩ := sh_f w_I.1 kv0 (j := 1) (k := 14) (m := 24) rfl
      cases eb91.symm.trans ex92
      intro b93 eb93
      obtain ⟨x94, ex94, kb93, lb93⟩ := sh_f w_I.1 kv0 (j := 28) (k := 14) (m := 120) rfl
      cases eb93.symm.trans ex94
      have o95 : vp_in ((5 : Int32) * v3) 120 := vi_of (i_mul (show (5 : Int32).toInt = 5 from rfl) rfl (by omega) (by omega)) (by omega) (by omega)
      refine ⟨o95, ?_⟩
      have t97 := i_nat (x := ((5 : Int32) * v3)) (i_mul (show (5 : Int32).toInt = 5 from rfl) rfl (by omega) (by omega)) (by omega)
      have h96 : (((5 : Int32) * v3).toNatClampNeg % 5 = 0 → 0 ≤ (I b93 ((5 : Int32) * v3).toNatClampNeg).toInt ∧ (I b93 ((5 : Int32) * v3).toNatClampNeg).toInt ≤ 30) ∧ (((5 : Int32) * v3).toNatClampNeg % 5 = 1 → 0 ≤ (I b93 ((5 : Int32) * v3).toNatClampNeg).toInt ∧ (I b93 ((5 : Int32) * v3).toNatClampNeg).toInt ≤ 9) ∧ (((5 : Int32) * v3).toNatClampNeg % 5 = 2 → 0 ≤ (I b93 ((5 : Int32) * v3).toNatClampNeg).toInt ∧ (I b93 ((5 : Int32) * v3).toNatClampNeg).toInt ≤ 20) := w_I.arr 12 28 kv0 eb93 kb93 rfl rfl _
      first | (have h961 := h96.1 (by omega)) | (have h961 := h96.2.1 (by omega)) | (have h961 := h96.2.2 (by omega)) | skip
      clear h96
      have o98 : vp_in v3 24 := vi_of rfl (by omega) (by omega)
      refine ⟨o98, ?_⟩
      intro I99 eI99
      have w_I99 : WD Z I99 := by rw [eI99]; exact WD_putA w_I 12 1 kv0 eb91 kb91 rfl rfl (by decide) (by constructor <;> omega)
      have f_I99 : FR [(12, 1)] Z I Z I99 := by rw [eI99]; exact FR_upA w_I.2.1 kv0 eb91 kb91 rfl rfl List.mem_cons_self
      have q_I99 : FR Ws_X12_stairs Z0 I0 Z I99 := q_I.trans w0.1 w0.2.1 (f_I99.mono (by decide))
      intro b100 eb100
      obtain ⟨x101, ex101, kb100, lb100⟩ := sh_f w_I99.1 kv0 (j := 2) (k := 14) (m := 24) rfl
      cases eb100.symm.trans ex101
      intro b102 eb102
      obtain rfl : b93 = b102 := Option.some.inj (eb93.symm.trans eb102)
      have o103 : vp_in (((5 : Int32) * v3) + (1 : Int32)) 120 := vi_of (i_add (i_mul (show (5 : Int32).toInt = 5 from rfl) rfl (by omega) (by omega)) (show (1 : Int32).toInt = 1 from rfl) (by omega) (by omega)) (by omega) (by omega)
      refine ⟨o103, ?_⟩
      have t105 := i_nat (x := (((5 : Int32) * v3) + (1 : Int32))) (i_add (i_mul (show (5 : Int32).toInt = 5 from rfl) rfl (by omega) (by omega)) (show (1 : Int32).toInt = 1 from rfl) (by omega) (by omega)) (by omega)
      have h104 : ((((5 : Int32) * v3) + (1 : Int32)).toNatClampNeg % 5 = 0 → 0 ≤ (I99 b93 (((5 : Int32) * v3) + (1 : Int32)).toNatClampNeg).toInt ∧ (I99 b93 (((5 : Int32) * v3) + (1 : Int32)).toNatClampNeg).toInt ≤ 30) ∧ ((((5 : Int32) * v3) + (1 : Int32)).toNatClampNeg % 5 = 1 → 0 ≤ (I99 b93 (((5 : Int32) * v3) + (1 : Int32)).toNatClampNeg).toInt ∧ (I99 b93 (((5 : Int32) * v3) + (1 : Int32)).toNatClampNeg).toInt ≤ 9) ∧ ((((5 : Int32) * v3) + (1 : Int32)).toNatClampNeg % 5 = 2 → 0 ≤ (I99 b93 (((5 : Int32) * v3) + (1 : Int32)).toNatClampNeg).toInt ∧ (I99 b93 (((5 : Int32) * v3) + (1 : Int32)).toNatClampNeg).toInt ≤ 20) := w_I99.arr 12 28 kv0 eb93 kb93 rfl rfl _
      first | (have h1041 := h104.1 (by omega)) | (have h1041 := h104.2.1 (by omega)) | (have h1041 := h104.2.2 (by omega)) | skip
      clear h104
      have o106 : vp_in v3 24 := vi_of rfl (by omega) (by omega)
      refine ⟨o106, ?_⟩
      intro I107 eI107
      have w_I107 : WD Z I107 := by rw [eI107]; exact WD_putA w_I99 12 2 kv0 eb100 kb100 rfl rfl (by decide) (by constructor <;> omega)
      have f_I107 : FR [(12, 2)] Z I99 Z I107 := by rw [eI107]; exact FR_upA w_I99.2.1 kv0 eb100 kb100 rfl rfl List.mem_cons_self
      have q_I107 : FR Ws_X12_stairs Z0 I0 Z I107 := q_I99.trans w0.1 w0.2.1 (f_I107.mono (by decide))
      intro b108 eb108
      obtain ⟨x109, ex109, kb108, lb108⟩ := sh_f w_I107.1 kv0 (j := 3) (k := 14) (m := 24) rfl
      cases eb108.symm.trans ex109
      intro b110 eb110
      obtain rfl : b93 = b110 := Option.some.inj (eb93.symm.trans eb110)
      have o111 : vp_in (((5 : Int32) * v3) + (2 : Int32)) 120 := vi_of (i_add (i_mul (show (5 : Int32).toInt = 5 from rfl) rfl (by omega) (by omega)) (show (2 : Int32).toInt = 2 from rfl) (by omega) (by omega)) (by omega) (by omega)
      refine ⟨o111, ?_⟩
      have t113 := i_nat (x := (((5 : Int32) * v3) + (2 : Int32))) (i_add (i_mul (show (5 : Int32).toInt = 5 from rfl) rfl (by omega) (by omega)) (show (2 : Int32).toInt = 2 from rfl) (by omega) (by omega)) (by omega)
      have h112 : ((((5 : Int32) * v3) + (2 : Int32)).toNatClampNeg % 5 = 0 → 0 ≤ (I107 b93 (((5 : Int32) * v3) + (2 : Int32)).toNatClampNeg).toInt ∧ (I107 b93 (((5 : Int32) * v3) + (2 : Int32)).toNatClampNeg).toInt ≤ 30) ∧ ((((5 : Int32) * v3) + (2 : Int32)).toNatClampNeg % 5 = 1 → 0 ≤ (I107 b93 (((5 : Int32) * v3) + (2 : Int32)).toNatClampNeg).toInt ∧ (I107 b93 (((5 : Int32) * v3) + (2 : Int32)).toNatClampNeg).toInt ≤ 9) ∧ ((((5 : Int32) * v3) + (2 : Int32)).toNatClampNeg % 5 = 2 → 0 ≤ (I107 b93 (((5 : Int32) * v3) + (2 : Int32)).toNatClampNeg).toInt ∧ (I107 b93 (((5 : Int32) * v3) + (2 : Int32)).toNatClampNeg).toInt ≤ 20) := w_I107.arr 12 28 kv0 eb93 kb93 rfl rfl _
      first | (have h1121 := h112.1 (by omega)) | (have h1121 := h112.2.1 (by omega)) | (have h1121 := h112.2.2 (by omega)) | skip
      clear h112
      have o114 : vp_in v3 24 := vi_of rfl (by omega) (by omega)
      refine ⟨o114, ?_⟩
      intro I115 eI115
      have w_I115 : WD Z I115 := by rw [eI115]; exact WD_putA w_I107 12 3 kv0 eb108 kb108 rfl rfl (by decide) (by constructor <;> omega)
      have f_I115 : FR [(12, 3)] Z I107 Z I115 := by rw [eI115]; exact FR_upA w_I107.2.1 kv0 eb108 kb108 rfl rfl List.mem_cons_self
      have q_I115 : FR Ws_X12_stairs Z0 I0 Z I115 := q_I107.trans w0.1 w0.2.1 (f_I115.mono (by decide))
      have t116 : (0 : Int32).toInt = 0 := rfl
      exact ⟨(8 - (0 : Int32).toInt).toNat + 1, l_X12_stairs_L185 w0 v0 kv0_0 v1 v3  hQ ih  _ (0 : Int32) Z I115 L w_I115 bd_Z q_I115 cp_Z   (by omega) (by omega) (by omega)⟩
set_option maxHeartbeats 4000000 in
set_option maxRecDepth 100000 in
theorem l_X12_stairs_L39 {B : Nat × Nat} {T : Nat} {Z0 : jZ} {I0 : jI} {Q : Int32 → jZ → jI → jL → Prop} (w0 : WD Z0 I0) (v0 : Nat) (kv0 : jk Z0 v0 12) (hQ : ∀ (r : Int32) (Z' : jZ) (I' : jI) (L' : jL), WD Z' I' → BUD B Z' T → FR Ws_X12_stairs Z0 I0 Z' I' → CP Z0 Z' → Q r Z' I' L') (uR : Nat) : ∀ (n : Nat) (v1 : Int32) (v2 : Int32) (Z : jZ) (I : jI) (L : jL), WD Z I → BUD B Z T → FR Ws_X12_stairs Z0 I0 Z I → CP Z0 Z →  jr Z v0 23 = some uR → jk Z uR 13 → (0 ≤ (I v0 26).toInt ∧ (I v0 26).toInt ≤ (I v0 24).toInt ∧ (I v0 26).toInt ≤ (I v0 25).toInt ∧ (I v0 24).toInt ≤ (jlen Z uR : Int) ∧ jlen Z uR ≤ 80 ∧ 0 ≤ v1.toInt ∧ v1.toInt ≤ 24) → (if (I v0 27).toInt = -1 then 2 * (25 - v1.toInt) + 1 else 0) < (n : Int) → f_X12_stairs_L39 B  Q n v0 v1 v2 Z I L := by
  intro n
  induction n with
  | zero =>
    intro v1 v2 Z I L w_I bd_Z q_I cp_Z  huR kuR li  me
    exfalso
    omega
  | succ n ih =>
    intro v1 v2 Z I L w_I bd_Z q_I cp_Z  huR kuR li  me
    unfold f_X12_stairs_L39
    have rv1 := i_rng v1
    have rv2 := i_rng v2
    have kv0_0 := kv0
    have kv0 := (q_I.1 _ _ kv0).1
    have xq_I := q_I.1
    refine ⟨fun c117 => ?_, fun c117 => ?_⟩
    · skip
      first | (have t118 : v2.toInt = (0) := (i_eq rfl (show (0 : Int32).toInt = 0 from rfl)).mp c117) | (have t118 : v2.toInt = (0 : Int32).toInt := (i_eq rfl rfl).mp c117) | skip
      unfold f_X12_stairs_b83
      refine ⟨fun c119 => ?_, fun c119 => ?_⟩
      · skip
        first | (have t120 : (I v0 24).toInt ≤ (I v0 26).toInt := (i_le rfl rfl).mp c119) | (have t120 : (I v0 24).toInt ≤ (I v0 26).toInt := (i_le rfl rfl).mp c119) | skip
        unfold f_X12_stairs_b102
        refine s_X12_fine w_I v0 kv0   (fun r121 p122 => ?_)
        have rr121 := i_rng r121
        refine ⟨fun c123 => ?_, fun c123 => ?_⟩
        · skip
          first | (have t124 : ¬ (r121.toInt = (0)) := (not_congr (i_eq rfl (show (0 : Int32).toInt = 0 from rfl))).mp c123) | (have t124 : ¬ (r121.toInt = (0 : Int32).toInt) := (not_congr (i_eq rfl rfl)).mp c123) | skip
          refine ⟨fun c125 => ?_, fun c125 => ?_⟩
          · skip
            first | (have t126 : (2) ≤ v1.toInt := (i_le (show (2 : Int32).toInt = 2 from rfl) rfl).mp c125) | (have t126 : (2 : Int32).toInt ≤ v1.toInt := (i_le rfl rfl).mp c125) | skip
            intro I127 eI127
            have w_I127 : WD Z I127 := by rw [eI127]; exact WD_putF w_I 12 0 kv0 (by decide) (by decide) (by constructor <;> omega)
            have f_I127 : FR [(12, 0)] Z I Z I127 := by rw [eI127]; exact FR_putF kv0 (by decide) List.mem_cons_self
            have q_I127 : FR Ws_X12_stairs Z0 I0 Z I127 := q_I.trans w0.1 w0.2.1 (f_I127.mono (by decide))
            have u128 : (I127 v0 24).toInt = (I v0 24).toInt := by rw [f_I127.2.2.1 v0 12 24 kv0 (by decide) (by decide)]
            have u129 : (I127 v0 25).toInt = (I v0 25).toInt := by rw [f_I127.2.2.1 v0 12 25 kv0 (by decide) (by decide)]
            have u130 : (I127 v0 26).toInt = (I v0 26).toInt := by rw [f_I127.2.2.1 v0 12 26 kv0 (by decide) (by decide)]
            have u131 : (I127 v0 27).toInt = (I v0 27).toInt := by rw [f_I127.2.2.1 v0 12 27 kv0 (by decide) (by decide)]
            first | (have u132 : (I127 v0 0).toInt = v1.toInt := by (rw [eI127, show jpI I v0 0 v1 v0 0 = v1 from jpI_at] <;> exact rfl)) | skip
            have t133 : (0 : Int32).toInt = 0 := rfl
            exact ⟨(24 - (0 : Int32).toInt).toNat + 1, l_X12_stairs_L131 w0 v0 kv0_0 v1  hQ   _ (0 : Int32) Z I127 L w_I127 bd_Z q_I127 cp_Z   (by omega)  (by omega)⟩
          · skip
            first | (have t134 : ¬ ((2) ≤ v1.toInt) := (not_congr (i_le (show (2 : Int32).toInt = 2 from rfl) rfl)).mp c125) | (have t134 : ¬ ((2 : Int32).toInt ≤ v1.toInt) := (not_congr (i_le rfl rfl)).mp c125) | skip
            have t135 : (-100 : Int32).toInt = -100 := rfl
            exact hQ (-100 : Int32) Z I L w_I bd_Z q_I cp_Z 
        · skip
          first | (have t136 : r121.toInt = (0) := (i_eq rfl (show (0 : Int32).toInt = 0 from rfl)).mp c123) | (have t136 : r121.toInt = (0 : Int32).toInt := (i_eq rfl rfl).mp c123) | skip
          try (have t137 : ((-1 : Int32) - (I v0 27)).toInt = ((-1) - (I v0 27).toInt) := (i_sub (show (-1 : Int32).toInt = -1 from rfl) rfl (by omega) (by omega)))
          exact hQ ((-1 : Int32) - (I v0 27)) Z I L w_I bd_Z q_I cp_Z 
      · skip
        first | (have t138 : ¬ ((I v0 24).toInt ≤ (I v0 26).toInt) := (not_congr (i_le rfl rfl)).mp c119) | (have t138 : ¬ ((I v0 24).toInt ≤ (I v0 26).toInt) := (not_congr (i_le rfl rfl)).mp c119) | skip
        refine s_X12_fault w_I v0 (I v0 26) kv0   (fun  I140 L141 w_I140 f_I140 p139 => ?_)
        have q_I140 : FR Ws_X12_stairs Z0 I0 Z I140 := q_I.trans w0.1 w0.2.1 (f_I140.mono (by decide))
        have u142 : (I140 v0 24).toInt = (I v0 24).toInt := by rw [f_I140.2.2.1 v0 12 24 kv0 (by decide) (by decide)]
        have u143 : (I140 v0 25).toInt = (I v0 25).toInt := by rw [f_I140.2.2.1 v0 12 25 kv0 (by decide) (by decide)]
        have u144 : (I140 v0 26).toInt = (I v0 26).toInt := by rw [f_I140.2.2.1 v0 12 26 kv0 (by decide) (by decide)]
        unfold f_X12_stairs_b102
        refine s_X12_fine w_I140 v0 kv0   (fun r145 p146 => ?_)
        have rr145 := i_rng r145
        refine ⟨fun c147 => ?_, fun c147 => ?_⟩
        · skip
          first | (have t148 : ¬ (r145.toInt = (0)) := (not_congr (i_eq rfl (show (0 : Int32).toInt = 0 from rfl))).mp c147) | (have t148 : ¬ (r145.toInt = (0 : Int32).toInt) := (not_congr (i_eq rfl rfl)).mp c147) | skip
          refine ⟨fun c149 => ?_, fun c149 => ?_⟩
          · skip
            first | (have t150 : (2) ≤ v1.toInt := (i_le (show (2 : Int32).toInt = 2 from rfl) rfl).mp c149) | (have t150 : (2 : Int32).toInt ≤ v1.toInt := (i_le rfl rfl).mp c149) | skip
            intro I151 eI151
            have w_I151 : WD Z I151 := by rw [eI151]; exact WD_putF w_I140 12 0 kv0 (by decide) (by decide) (by constructor <;> omega)
            have f_I151 : FR [(12, 0)] Z I140 Z I151 := by rw [eI151]; exact FR_putF kv0 (by decide) List.mem_cons_self
            have q_I151 : FR Ws_X12_stairs Z0 I0 Z I151 := q_I140.trans w0.1 w0.2.1 (f_I151.mono (by decide))
            have u152 : (I151 v0 24).toInt = (I140 v0 24).toInt := by rw [f_I151.2.2.1 v0 12 24 kv0 (by decide) (by decide)]
            have u153 : (I151 v0 25).toInt = (I140 v0 25).toInt := by rw [f_I151.2.2.1 v0 12 25 kv0 (by decide) (by decide)]
            have u154 : (I151 v0 26).toInt = (I140 v0 26).toInt := by rw [f_I151.2.2.1 v0 12 26 kv0 (by decide) (by decide)]
            have u155 : (I151 v0 27).toInt = (I140 v0 27).toInt := by rw [f_I151.2.2.1 v0 12 27 kv0 (by decide) (by decide)]
            first | (have u156 : (I151 v0 0).toInt = v1.toInt := by (rw [eI151, show jpI I140 v0 0 v1 v0 0 = v1 from jpI_at] <;> exact rfl)) | skip
            have t157 : (0 : Int32).toInt = 0 := rfl
            exact ⟨(24 - (0 : Int32).toInt).toNat + 1, l_X12_stairs_L131 w0 v0 kv0_0 v1  hQ   _ (0 : Int32) Z I151 L141 w_I151 bd_Z q_I151 cp_Z   (by omega)  (by omega)⟩
          · skip
            first | (have t158 : ¬ ((2) ≤ v1.toInt) := (not_congr (i_le (show (2 : Int32).toInt = 2 from rfl) rfl)).mp c149) | (have t158 : ¬ ((2 : Int32).toInt ≤ v1.toInt) := (not_congr (i_le rfl rfl)).mp c149) | skip
            have t159 : (-100 : Int32).toInt = -100 := rfl
            exact hQ (-100 : Int32) Z I140 L141 w_I140 bd_Z q_I140 cp_Z 
        · skip
          first | (have t160 : r145.toInt = (0) := (i_eq rfl (show (0 : Int32).toInt = 0 from rfl)).mp c147) | (have t160 : r145.toInt = (0 : Int32).toInt := (i_eq rfl rfl).mp c147) | skip
          try (have t161 : ((-1 : Int32) - (I140 v0 27)).toInt = ((-1) - (I140 v0 27).toInt) := (i_sub (show (-1 : Int32).toInt = -1 from rfl) rfl (by omega) (by omega)))
          exact hQ ((-1 : Int32) - (I140 v0 27)) Z I140 L141 w_I140 bd_Z q_I140 cp_Z 
    · skip
      first | (have t162 : ¬ (v2.toInt = (0)) := (not_congr (i_eq rfl (show (0 : Int32).toInt = 0 from rfl))).mp c117) | (have t162 : ¬ (v2.toInt = (0 : Int32).toInt) := (not_congr (i_eq rfl rfl)).mp c117) | skip
      refine s_X12_fine w_I v0 kv0   (fun r163 p164 => ?_)
      have rr163 := i_rng r163
      refine ⟨fun c165 => ?_, fun c165 => ?_⟩
      · skip
        first | (have t166 : r163.toInt = (0) := (i_eq rfl (show (0 : Int32).toInt = 0 from rfl)).mp c165) | (have t166 : r163.toInt = (0 : Int32).toInt := (i_eq rfl rfl).mp c165) | skip
        unfold f_X12_stairs_b83
        refine ⟨fun c167 => ?_, fun c167 => ?_⟩
        · skip
          first | (have t168 : (I v0 24).toInt ≤ (I v0 26).toInt := (i_le rfl rfl).mp c167) | (have t168 : (I v0 24).toInt ≤ (I v0 26).toInt := (i_le rfl rfl).mp c167) | skip
          unfold f_X12_stairs_b102
          refine s_X12_fine w_I v0 kv0   (fun r169 p170 => ?_)
          have rr169 := i_rng r169
          refine ⟨fun c171 => ?_, fun c171 => ?_⟩
          · skip
            first | (have t172 : ¬ (r169.toInt = (0)) := (not_congr (i_eq rfl (show (0 : Int32).toInt = 0 from rfl))).mp c171) | (have t172 : ¬ (r169.toInt = (0 : Int32).toInt) := (not_congr (i_eq rfl rfl)).mp c171) | skip
            refine ⟨fun c173 => ?_, fun c173 => ?_⟩
            · skip
              first | (have t174 : (2) ≤ v1.toInt := (i_le (show (2 : Int32).toInt = 2 from rfl) rfl).mp c173) | (have t174 : (2 : Int32).toInt ≤ v1.toInt := (i_le rfl rfl).mp c173) | skip
              intro I175 eI175
              have w_I175 : WD Z I175 := by rw [eI175]; exact WD_putF w_I 12 0 kv0 (by decide) (by decide) (by constructor <;> omega)
              have f_I175 : FR [(12, 0)] Z I Z I175 := by rw [eI175]; exact FR_putF kv0 (by decide) List.mem_cons_self
              have q_I175 : FR Ws_X12_stairs Z0 I0 Z I175 := q_I.trans w0.1 w0.2.1 (f_I175.mono (by decide))
              have u176 : (I175 v0 24).toInt = (I v0 24).toInt := by rw [f_I175.2.2.1 v0 12 24 kv0 (by decide) (by decide)]
              have u177 : (I175 v0 25).toInt = (I v0 25).toInt := by rw [f_I175.2.2.1 v0 12 25 kv0 (by decide) (by decide)]
              have u178 : (I175 v0 26).toInt = (I v0 26).toInt := by rw [f_I175.2.2.1 v0 12 26 kv0 (by decide) (by decide)]
              have u179 : (I175 v0 27).toInt = (I v0 27).toInt := by rw [f_I175.2.2.1 v0 12 27 kv0 (by decide) (by decide)]
              first | (have u180 : (I175 v0 0).toInt = v1.toInt := by (rw [eI175, show jpI I v0 0 v1 v0 0 = v1 from jpI_at] <;> exact rfl)) | skip
              have t181 : (0 : Int32).toInt = 0 := rfl
              exact ⟨(24 - (0 : Int32).toInt).toNat + 1, l_X12_stairs_L131 w0 v0 kv0_0 v1  hQ   _ (0 : Int32) Z I175 L w_I175 bd_Z q_I175 cp_Z   (by omega)  (by omega)⟩
            · skip
              first | (have t182 : ¬ ((2) ≤ v1.toInt) := (not_congr (i_le (show (2 : Int32).toInt = 2 from rfl) rfl)).mp c173) | (have t182 : ¬ ((2 : Int32).toInt ≤ v1.toInt) := (not_congr (i_le rfl rfl)).mp c173) | skip
              have t183 : (-100 : Int32).toInt = -100 := rfl
              exact hQ (-100 : Int32) Z I L w_I bd_Z q_I cp_Z 
          · skip
            first | (have t184 : r169.toInt = (0) := (i_eq rfl (show (0 : Int32).toInt = 0 from rfl)).mp c171) | (have t184 : r169.toInt = (0 : Int32).toInt := (i_eq rfl rfl).mp c171) | skip
            try (have t185 : ((-1 : Int32) - (I v0 27)).toInt = ((-1) - (I v0 27).toInt) := (i_sub (show (-1 : Int32).toInt = -1 from rfl) rfl (by omega) (by omega)))
            exact hQ ((-1 : Int32) - (I v0 27)) Z I L w_I bd_Z q_I cp_Z 
        · skip
          first | (have t186 : ¬ ((I v0 24).toInt ≤ (I v0 26).toInt) := (not_congr (i_le rfl rfl)).mp c167) | (have t186 : ¬ ((I v0 24).toInt ≤ (I v0 26).toInt) := (not_congr (i_le rfl rfl)).mp c167) | skip
          refine s_X12_fault w_I v0 (I v0 26) kv0   (fun  I188 L189 w_I188 f_I188 p187 => ?_)
          have q_I188 : FR Ws_X12_stairs Z0 I0 Z I188 := q_I.trans w0.1 w0.2.1 (f_I188.mono (by decide))
          have u190 : (I188 v0 24).toInt = (I v0 24).toInt := by rw [f_I188.2.2.1 v0 12 24 kv0 (by decide) (by decide)]
          have u191 : (I188 v0 25).toInt = (I v0 25).toInt := by rw [f_I188.2.2.1 v0 12 25 kv0 (by decide) (by decide)]
          have u192 : (I188 v0 26).toInt = (I v0 26).toInt := by rw [f_I188.2.2.1 v0 12 26 kv0 (by decide) (by decide)]
          unfold f_X12_stairs_b102
          refine s_X12_fine w_I188 v0 kv0   (fun r193 p194 => ?_)
          have rr193 := i_rng r193
          refine ⟨fun c195 => ?_, fun c195 => ?_⟩
          · skip
            first | (have t196 : ¬ (r193.toInt = (0)) := (not_congr (i_eq rfl (show (0 : Int32).toInt = 0 from rfl))).mp c195) | (have t196 : ¬ (r193.toInt = (0 : Int32).toInt) := (not_congr (i_eq rfl rfl)).mp c195) | skip
            refine ⟨fun c197 => ?_, fun c197 => ?_⟩
            · skip
              first | (have t198 : (2) ≤ v1.toInt := (i_le (show (2 : Int32).toInt = 2 from rfl) rfl).mp c197) | (have t198 : (2 : Int32).toInt ≤ v1.toInt := (i_le rfl rfl).mp c197) | skip
              intro I199 eI199
              have w_I199 : WD Z I199 := by rw [eI199]; exact WD_putF w_I188 12 0 kv0 (by decide) (by decide) (by constructor <;> omega)
              have f_I199 : FR [(12, 0)] Z I188 Z I199 := by rw [eI199]; exact FR_putF kv0 (by decide) List.mem_cons_self
              have q_I199 : FR Ws_X12_stairs Z0 I0 Z I199 := q_I188.trans w0.1 w0.2.1 (f_I199.mono (by decide))
              have u200 : (I199 v0 24).toInt = (I188 v0 24).toInt := by rw [f_I199.2.2.1 v0 12 24 kv0 (by decide) (by decide)]
              have u201 : (I199 v0 25).toInt = (I188 v0 25).toInt := by rw [f_I199.2.2.1 v0 12 25 kv0 (by decide) (by decide)]
              have u202 : (I199 v0 26).toInt = (I188 v0 26).toInt := by rw [f_I199.2.2.1 v0 12 26 kv0 (by decide) (by decide)]
              have u203 : (I199 v0 27).toInt = (I188 v0 27).toInt := by rw [f_I199.2.2.1 v0 12 27 kv0 (by decide) (by decide)]
              first | (have u204 : (I199 v0 0).toInt = v1.toInt := by (rw [eI199, show jpI I188 v0 0 v1 v0 0 = v1 from jpI_at] <;> exact rfl)) | skip
              have t205 : (0 : Int32).toInt = 0 := rfl
              exact ⟨(24 - (0 : Int32).toInt).toNat + 1, l_X12_stairs_L131 w0 v0 kv0_0 v1  hQ   _ (0 : Int32) Z I199 L189 w_I199 bd_Z q_I199 cp_Z   (by omega)  (by omega)⟩
            · skip
              first | (have t206 : ¬ ((2) ≤ v1.toInt) := (not_congr (i_le (show (2 : Int32).toInt = 2 from rfl) rfl)).mp c197) | (have t206 : ¬ ((2 : Int32).toInt ≤ v1.toInt) := (not_congr (i_le rfl rfl)).mp c197) | skip
              have t207 : (-100 : Int32).toInt = -100 := rfl
              exact hQ (-100 : Int32) Z I188 L189 w_I188 bd_Z q_I188 cp_Z 
          · skip
            first | (have t208 : r193.toInt = (0) := (i_eq rfl (show (0 : Int32).toInt = 0 from rfl)).mp c195) | (have t208 : r193.toInt = (0 : Int32).toInt := (i_eq rfl rfl).mp c195) | skip
            try (have t209 : ((-1 : Int32) - (I188 v0 27)).toInt = ((-1) - (I188 v0 27).toInt) := (i_sub (show (-1 : Int32).toInt = -1 from rfl) rfl (by omega) (by omega)))
            exact hQ ((-1 : Int32) - (I188 v0 27)) Z I188 L189 w_I188 bd_Z q_I188 cp_Z 
      · skip
        first | (have t210 : ¬ (r163.toInt = (0)) := (not_congr (i_eq rfl (show (0 : Int32).toInt = 0 from rfl))).mp c165) | (have t210 : ¬ (r163.toInt = (0 : Int32).toInt) := (not_congr (i_eq rfl rfl)).mp c165) | skip
        refine ⟨fun c211 => ?_, fun c211 => ?_⟩
        · skip
          first | (have t212 : ¬ (v1.toInt = (24)) := (not_congr (i_eq rfl (show (24 : Int32).toInt = 24 from rfl))).mp c211) | (have t212 : ¬ (v1.toInt = (24 : Int32).toInt) := (not_congr (i_eq rfl rfl)).mp c211) | skip
          refine s_X12_readLine w_I v0 v1 kv0 uR huR kuR (by omega) (by omega) (fun r213 I215 L216 w_I215 f_I215 p214 => ?_)
          have q_I215 : FR Ws_X12_stairs Z0 I0 Z I215 := q_I.trans w0.1 w0.2.1 (f_I215.mono (by decide))
          have u217 : (I215 v0 24).toInt = (I v0 24).toInt := by rw [f_I215.2.2.1 v0 12 24 kv0 (by decide) (by decide)]
          have u218 : (I215 v0 25).toInt = (I v0 25).toInt := by rw [f_I215.2.2.1 v0 12 25 kv0 (by decide) (by decide)]
          have rr213 := i_rng r213
          have t219 : (59 : Int32).toInt = 59 := rfl
          refine s_X12_passes w_I215 v0 (59 : Int32) kv0 uR huR kuR (by omega) (by omega) (fun r220 I222 L223 w_I222 f_I222 p221 => ?_)
          have q_I222 : FR Ws_X12_stairs Z0 I0 Z I222 := q_I215.trans w0.1 w0.2.1 (f_I222.mono (by decide))
          have u224 : (I222 v0 24).toInt = (I215 v0 24).toInt := by rw [f_I222.2.2.1 v0 12 24 kv0 (by decide) (by decide)]
          have u225 : (I222 v0 25).toInt = (I215 v0 25).toInt := by rw [f_I222.2.2.1 v0 12 25 kv0 (by decide) (by decide)]
          have u226 : (I222 v0 27).toInt = (I215 v0 27).toInt := by rw [f_I222.2.2.1 v0 12 27 kv0 (by decide) (by decide)]
          have rr220 := i_rng r220
          exact ih r213 r220 Z I222 L223 w_I222 bd_Z q_I222 cp_Z  huR kuR (by omega)  (by omega)
        · skip
          first | (have t227 : v1.toInt = (24) := (i_eq rfl (show (24 : Int32).toInt = 24 from rfl)).mp c211) | (have t227 : v1.toInt = (24 : Int32).toInt := (i_eq rfl rfl).mp c211) | skip
          refine s_X12_fault w_I v0 (I v0 26) kv0   (fun  I229 L230 w_I229 f_I229 p228 => ?_)
          have q_I229 : FR Ws_X12_stairs Z0 I0 Z I229 := q_I.trans w0.1 w0.2.1 (f_I229.mono (by decide))
          have u231 : (I229 v0 24).toInt = (I v0 24).toInt := by rw [f_I229.2.2.1 v0 12 24 kv0 (by decide) (by decide)]
          have u232 : (I229 v0 25).toInt = (I v0 25).toInt := by rw [f_I229.2.2.1 v0 12 25 kv0 (by decide) (by decide)]
          have u233 : (I229 v0 26).toInt = (I v0 26).toInt := by rw [f_I229.2.2.1 v0 12 26 kv0 (by decide) (by decide)]
          unfold f_X12_stairs_b83
          refine ⟨fun c234 => ?_, fun c234 => ?_⟩
          · skip
            first | (have t235 : (I229 v0 24).toInt ≤ (I229 v0 26).toInt := (i_le rfl rfl).mp c234) | (have t235 : (I229 v0 24).toInt ≤ (I229 v0 26).toInt := (i_le rfl rfl).mp c234) | skip
            unfold f_X12_stairs_b102
            refine s_X12_fine w_I229 v0 kv0   (fun r236 p237 => ?_)
            have rr236 := i_rng r236
            refine ⟨fun c238 => ?_, fun c238 => ?_⟩
            · skip
              first | (have t239 : ¬ (r236.toInt = (0)) := (not_congr (i_eq rfl (show (0 : Int32).toInt = 0 from rfl))).mp c238) | (have t239 : ¬ (r236.toInt = (0 : Int32).toInt) := (not_congr (i_eq rfl rfl)).mp c238) | skip
              refine ⟨fun c240 => ?_, fun c240 => ?_⟩
              · skip
                first | (have t241 : (2) ≤ v1.toInt := (i_le (show (2 : Int32).toInt = 2 from rfl) rfl).mp c240) | (have t241 : (2 : Int32).toInt ≤ v1.toInt := (i_le rfl rfl).mp c240) | skip
                intro I242 eI242
                have w_I242 : WD Z I242 := by rw [eI242]; exact WD_putF w_I229 12 0 kv0 (by decide) (by decide) (by constructor <;> omega)
                have f_I242 : FR [(12, 0)] Z I229 Z I242 := by rw [eI242]; exact FR_putF kv0 (by decide) List.mem_cons_self
                have q_I242 : FR Ws_X12_stairs Z0 I0 Z I242 := q_I229.trans w0.1 w0.2.1 (f_I242.mono (by decide))
                have u243 : (I242 v0 24).toInt = (I229 v0 24).toInt := by rw [f_I242.2.2.1 v0 12 24 kv0 (by decide) (by decide)]
                have u244 : (I242 v0 25).toInt = (I229 v0 25).toInt := by rw [f_I242.2.2.1 v0 12 25 kv0 (by decide) (by decide)]
                have u245 : (I242 v0 26).toInt = (I229 v0 26).toInt := by rw [f_I242.2.2.1 v0 12 26 kv0 (by decide) (by decide)]
                have u246 : (I242 v0 27).toInt = (I229 v0 27).toInt := by rw [f_I242.2.2.1 v0 12 27 kv0 (by decide) (by decide)]
                first | (have u247 : (I242 v0 0).toInt = v1.toInt := by (rw [eI242, show jpI I229 v0 0 v1 v0 0 = v1 from jpI_at] <;> exact rfl)) | skip
                have t248 : (0 : Int32).toInt = 0 := rfl
                exact ⟨(24 - (0 : Int32).toInt).toNat + 1, l_X12_stairs_L131 w0 v0 kv0_0 v1  hQ   _ (0 : Int32) Z I242 L230 w_I242 bd_Z q_I242 cp_Z   (by omega)  (by omega)⟩
              · skip
                first | (have t249 : ¬ ((2) ≤ v1.toInt) := (not_congr (i_le (show (2 : Int32).toInt = 2 from rfl) rfl)).mp c240) | (have t249 : ¬ ((2 : Int32).toInt ≤ v1.toInt) := (not_congr (i_le rfl rfl)).mp c240) | skip
                have t250 : (-100 : Int32).toInt = -100 := rfl
                exact hQ (-100 : Int32) Z I229 L230 w_I229 bd_Z q_I229 cp_Z 
            · skip
              first | (have t251 : r236.toInt = (0) := (i_eq rfl (show (0 : Int32).toInt = 0 from rfl)).mp c238) | (have t251 : r236.toInt = (0 : Int32).toInt := (i_eq rfl rfl).mp c238) | skip
              try (have t252 : ((-1 : Int32) - (I229 v0 27)).toInt = ((-1) - (I229 v0 27).toInt) := (i_sub (show (-1 : Int32).toInt = -1 from rfl) rfl (by omega) (by omega)))
              exact hQ ((-1 : Int32) - (I229 v0 27)) Z I229 L230 w_I229 bd_Z q_I229 cp_Z 
          · skip
            first | (have t253 : ¬ ((I229 v0 24).toInt ≤ (I229 v0 26).toInt) := (not_congr (i_le rfl rfl)).mp c234) | (have t253 : ¬ ((I229 v0 24).toInt ≤ (I229 v0 26).toInt) := (not_congr (i_le rfl rfl)).mp c234) | skip
            refine s_X12_fault w_I229 v0 (I229 v0 26) kv0   (fun  I255 L256 w_I255 f_I255 p254 => ?_)
            have q_I255 : FR Ws_X12_stairs Z0 I0 Z I255 := q_I229.trans w0.1 w0.2.1 (f_I255.mono (by decide))
            have u257 : (I255 v0 24).toInt = (I229 v0 24).toInt := by rw [f_I255.2.2.1 v0 12 24 kv0 (by decide) (by decide)]
            have u258 : (I255 v0 25).toInt = (I229 v0 25).toInt := by rw [f_I255.2.2.1 v0 12 25 kv0 (by decide) (by decide)]
            have u259 : (I255 v0 26).toInt = (I229 v0 26).toInt := by rw [f_I255.2.2.1 v0 12 26 kv0 (by decide) (by decide)]
            unfold f_X12_stairs_b102
            refine s_X12_fine w_I255 v0 kv0   (fun r260 p261 => ?_)
            have rr260 := i_rng r260
            refine ⟨fun c262 => ?_, fun c262 => ?_⟩
            · skip
              first | (have t263 : ¬ (r260.toInt = (0)) := (not_congr (i_eq rfl (show (0 : Int32).toInt = 0 from rfl))).mp c262) | (have t263 : ¬ (r260.toInt = (0 : Int32).toInt) := (not_congr (i_eq rfl rfl)).mp c262) | skip
              refine ⟨fun c264 => ?_, fun c264 => ?_⟩
              · skip
                first | (have t265 : (2) ≤ v1.toInt := (i_le (show (2 : Int32).toInt = 2 from rfl) rfl).mp c264) | (have t265 : (2 : Int32).toInt ≤ v1.toInt := (i_le rfl rfl).mp c264) | skip
                intro I266 eI266
                have w_I266 : WD Z I266 := by rw [eI266]; exact WD_putF w_I255 12 0 kv0 (by decide) (by decide) (by constructor <;> omega)
                have f_I266 : FR [(12, 0)] Z I255 Z I266 := by rw [eI266]; exact FR_putF kv0 (by decide) List.mem_cons_self
                have q_I266 : FR Ws_X12_stairs Z0 I0 Z I266 := q_I255.trans w0.1 w0.2.1 (f_I266.mono (by decide))
                have u267 : (I266 v0 24).toInt = (I255 v0 24).toInt := by rw [f_I266.2.2.1 v0 12 24 kv0 (by decide) (by decide)]
                have u268 : (I266 v0 25).toInt = (I255 v0 25).toInt := by rw [f_I266.2.2.1 v0 12 25 kv0 (by decide) (by decide)]
                have u269 : (I266 v0 26).toInt = (I255 v0 26).toInt := by rw [f_I266.2.2.1 v0 12 26 kv0 (by decide) (by decide)]
                have u270 : (I266 v0 27).toInt = (I255 v0 27).toInt := by rw [f_I266.2.2.1 v0 12 27 kv0 (by decide) (by decide)]
                first | (have u271 : (I266 v0 0).toInt = v1.toInt := by (rw [eI266, show jpI I255 v0 0 v1 v0 0 = v1 from jpI_at] <;> exact rfl)) | skip
                have t272 : (0 : Int32).toInt = 0 := rfl
                exact ⟨(24 - (0 : Int32).toInt).toNat + 1, l_X12_stairs_L131 w0 v0 kv0_0 v1  hQ   _ (0 : Int32) Z I266 L256 w_I266 bd_Z q_I266 cp_Z   (by omega)  (by omega)⟩
              · skip
                first | (have t273 : ¬ ((2) ≤ v1.toInt) := (not_congr (i_le (show (2 : Int32).toInt = 2 from rfl) rfl)).mp c264) | (have t273 : ¬ ((2 : Int32).toInt ≤ v1.toInt) := (not_congr (i_le rfl rfl)).mp c264) | skip
                have t274 : (-100 : Int32).toInt = -100 := rfl
                exact hQ (-100 : Int32) Z I255 L256 w_I255 bd_Z q_I255 cp_Z 
            · skip
              first | (have t275 : r260.toInt = (0) := (i_eq rfl (show (0 : Int32).toInt = 0 from rfl)).mp c262) | (have t275 : r260.toInt = (0 : Int32).toInt := (i_eq rfl rfl).mp c262) | skip
              try (have t276 : ((-1 : Int32) - (I255 v0 27)).toInt = ((-1) - (I255 v0 27).toInt) := (i_sub (show (-1 : Int32).toInt = -1 from rfl) rfl (by omega) (by omega)))
              exact hQ ((-1 : Int32) - (I255 v0 27)) Z I255 L256 w_I255 bd_Z q_I255 cp_Z 
set_option maxHeartbeats 4000000 in
set_option maxRecDepth 100000 in
theorem s_X12_stairs {B : Nat × Nat} {T : Nat} {Z : jZ} {I : jI} {L : jL} (w_I : WD Z I) (bd_Z : BUD B Z T) (v0 : Nat) (kv0 : jk Z v0 12) {Q : Int32 → jZ → jI → jL → Prop} (hQ : ∀ (r : Int32) (Z' : jZ) (I' : jI) (L' : jL), WD Z' I' → BUD B Z' T → FR Ws_X12_stairs Z I Z' I' → CP Z Z' → Q r Z' I' L') : f_X12_stairs B v0 Z I L Q := by
  unfold f_X12_stairs
  have q_I : FR Ws_X12_stairs Z I Z I := FR.rf
  have cp_Z : CP Z Z := CP.rf
  intro I277 eI277
  have t278 : (0 : Int32).toInt = 0 := rfl
  have w_I277 : WD Z I277 := by rw [eI277]; exact WD_putF w_I 12 22 kv0 (by decide) (by decide) trivial
  have f_I277 : FR [(12, 22)] Z I Z I277 := by rw [eI277]; exact FR_putF kv0 (by decide) List.mem_cons_self
  have q_I277 : FR Ws_X12_stairs Z I Z I277 := q_I.trans w_I.1 w_I.2.1 (f_I277.mono (by decide))
  first | (have u279 : (I277 v0 22).toInt = (0) := by (rw [eI277, show jpI I v0 22 (0 : Int32) v0 22 = (0 : Int32) from jpI_at] <;> exact (show (0 : Int32).toInt = 0 from rfl))) | skip
  intro b280 eb280
  obtain ⟨x281, ex281, kb280, lb280⟩ := sh_f w_I277.1 kv0 (j := 18) (k := 13) (m := 80) rfl
  cases eb280.symm.trans ex281
  have t283 : 0 ≤ (I277 v0 19).toInt ∧ (I277 v0 19).toInt ≤ 80 := w_I277.fld 12 19 kv0 (by decide)
  have t284 : (76 : Int32).toInt = 76 := rfl
  refine s_X12_begin w_I277 bd_Z v0 b280 (I277 v0 19) (76 : Int32) kv0 kb280 v0 12 18 kv0 eb280  (fun  Z288 I286 L287 w_I286 bd_Z288 f_I286 c_Z288 p285 => ?_)
  have q_I286 : FR Ws_X12_stairs Z I Z288 I286 := q_I277.trans w_I.1 w_I.2.1 (f_I286.mono (by decide))
  have cp_Z288 : CP Z Z288 := cp_Z.trans q_I277.1 c_Z288
  have x_Z288 := f_I286.1
  have k289 := (f_I286.1 _ _ kv0).1
  have k290 := (f_I286.1 _ _ kb280).1
  have l291 := (f_I286.1 _ _ kb280).2.trans lb280
  have k292 := (f_I286.1 _ _ kv0).1
  have e293 := (f_I286.2.1 v0 12 18 kv0 (by decide) (by decide)).trans eb280
  have u294 : (I286 v0 22).toInt = (I277 v0 22).toInt := by rw [f_I286.2.2.1 v0 12 22 kv0 (by decide) (by decide)]
  have u295 : (I286 v0 19).toInt = (I277 v0 19).toInt := by rw [f_I286.2.2.1 v0 12 19 kv0 (by decide) (by decide)]
  obtain ⟨p285_0, p285_1⟩ := p285
  have k296 := (f_I286.1 _ _ kb280).1
  have l297 := (f_I286.1 _ _ kb280).2
  have k298 := (f_I286.1 _ _ kv0).1
  have l299 := (f_I286.1 _ _ kb280).2.trans lb280
  intro I300 eI300
  have t301 : (0 : Int32).toInt = 0 := rfl
  have w_I300 : WD Z288 I300 := by rw [eI300]; exact WD_putF w_I286 12 19 k289 (by decide) (by decide) (by constructor <;> omega)
  have f_I300 : FR [(12, 19)] Z288 I286 Z288 I300 := by rw [eI300]; exact FR_putF k289 (by decide) List.mem_cons_self
  have q_I300 : FR Ws_X12_stairs Z I Z288 I300 := q_I286.trans w_I.1 w_I.2.1 (f_I300.mono (by decide))
  have u302 : (I300 v0 22).toInt = (I286 v0 22).toInt := by rw [f_I300.2.2.1 v0 12 22 k289 (by decide) (by decide)]
  have u303 : (I300 v0 24).toInt = (I286 v0 24).toInt := by rw [f_I300.2.2.1 v0 12 24 k298 (by decide) (by decide)]
  have u304 : (I300 v0 25).toInt = (I286 v0 25).toInt := by rw [f_I300.2.2.1 v0 12 25 k298 (by decide) (by decide)]
  have u305 : (I300 v0 26).toInt = (I286 v0 26).toInt := by rw [f_I300.2.2.1 v0 12 26 k298 (by decide) (by decide)]
  have u306 : (I300 v0 27).toInt = (I286 v0 27).toInt := by rw [f_I300.2.2.1 v0 12 27 k298 (by decide) (by decide)]
  first | (have u307 : (I300 v0 19).toInt = (0) := by (rw [eI300, show jpI I286 v0 19 (0 : Int32) v0 19 = (0 : Int32) from jpI_at] <;> exact (show (0 : Int32).toInt = 0 from rfl))) | skip
  refine ⟨fun c308 => ?_, fun c308 => ?_⟩
  · skip
    first | (have t309 : (I300 v0 24).toInt ≤ (0) := (i_le rfl (show (0 : Int32).toInt = 0 from rfl)).mp c308) | (have t309 : (I300 v0 24).toInt ≤ (0 : Int32).toInt := (i_le rfl rfl).mp c308) | skip
    unfold f_X12_stairs_b38
    have t310 : (0 : Int32).toInt = 0 := rfl
    have t311 : (0 : Int32).toInt = 0 := rfl
    exact ⟨((if (I300 v0 27).toInt = -1 then 2 * (25 - (0 : Int32).toInt) + 1 else 0)).toNat + 1, l_X12_stairs_L39 w_I v0 kv0   hQ  b280 _ (0 : Int32) (0 : Int32) Z288 I300 L287 w_I300 bd_Z288 q_I300 cp_Z288  p285_0 k296 (by omega)  (by omega)⟩
  · skip
    first | (have t312 : ¬ ((I300 v0 24).toInt ≤ (0)) := (not_congr (i_le rfl (show (0 : Int32).toInt = 0 from rfl))).mp c308) | (have t312 : ¬ ((I300 v0 24).toInt ≤ (0 : Int32).toInt) := (not_congr (i_le rfl rfl)).mp c308) | skip
    unfold f_X12_stairs_b38
    have t313 : (0 : Int32).toInt = 0 := rfl
    have t314 : (1 : Int32).toInt = 1 := rfl
    exact ⟨((if (I300 v0 27).toInt = -1 then 2 * (25 - (0 : Int32).toInt) + 1 else 0)).toNat + 1, l_X12_stairs_L39 w_I v0 kv0   hQ  b280 _ (0 : Int32) (1 : Int32) Z288 I300 L287 w_I300 bd_Z288 q_I300 cp_Z288  p285_0 k296 (by omega)  (by omega)⟩
def Ws_X12_law : List (Nat × Nat) := [(12, 19), (12, 22), (12, 24), (12, 25), (12, 26), (12, 27), (12, 30), (12, 31), (19, 0), (19, 1)]
set_option maxHeartbeats 4000000 in
set_option maxRecDepth 100000 in
theorem l_X12_law_L85 {B : Nat × Nat} {T : Nat} {Z0 : jZ} {I0 : jI} {Q : Int32 → jZ → jI → jL → Prop} (w0 : WD Z0 I0) (v0 : Nat) (v1 : Int32) (kv0 : jk Z0 v0 12) (v2 : Int32) (hQ : ∀ (r : Int32) (Z' : jZ) (I' : jI) (L' : jL), WD Z' I' → BUD B Z' T → FR Ws_X12_law Z0 I0 Z' I' → CP Z0 Z' → Q r Z' I' L') : ∀ (n : Nat) (v3 : Int32) (Z : jZ) (I : jI) (L : jL), WD Z I → BUD B Z T → FR Ws_X12_law Z0 I0 Z I → CP Z0 Z →   (0 ≤ v3.toInt ∧ v3.toInt ≤ 40 ∧ v2.toInt ≤ 40 ∧ 0 ≤ v2.toInt ∧ 0 ≤ v1.toInt ∧ v1.toInt ≤ 1) → 40 - v3.toInt < (n : Int) → f_X12_law_L85 B  Q n v0 v1 v2 v3 Z I L := by
  intro n
  induction n with
  | zero =>
    intro v3 Z I L w_I bd_Z q_I cp_Z   li  me
    exfalso
    omega
  | succ n ih =>
    intro v3 Z I L w_I bd_Z q_I cp_Z   li  me
    unfold f_X12_law_L85
    have rv3 := i_rng v3
    have rv2 := i_rng v2
    have rv1 := i_rng v1
    have kv0_0 := kv0
    have kv0 := (q_I.1 _ _ kv0).1
    have xq_I := q_I.1
    refine ⟨fun c1 => ?_, fun c1 => ?_⟩
    · skip
      first | (have t2 : v2.toInt ≤ v3.toInt := (i_le rfl rfl).mp c1) | (have t2 : v2.toInt ≤ v3.toInt := (i_le rfl rfl).mp c1) | skip
      intro b3 eb3
      obtain ⟨x4, ex4, kb3, lb3⟩ := sh_f w_I.1 kv0 (j := 30) (k := 14) (m := 2) rfl
      cases eb3.symm.trans ex4
      have o5 : vp_in v1 2 := vi_of rfl (by omega) (by omega)
      refine ⟨o5, ?_⟩
      intro I6 eI6
      have w_I6 : WD Z I6 := by rw [eI6]; exact WD_putA w_I 12 30 kv0 eb3 kb3 rfl rfl (by decide) (by constructor <;> omega)
      have f_I6 : FR [(12, 30)] Z I Z I6 := by rw [eI6]; exact FR_upA w_I.2.1 kv0 eb3 kb3 rfl rfl List.mem_cons_self
      have q_I6 : FR Ws_X12_law Z0 I0 Z I6 := q_I.trans w0.1 w0.2.1 (f_I6.mono (by decide))
      have t7 : (0 : Int32).toInt = 0 := rfl
      exact hQ (0 : Int32) Z I6 L w_I6 bd_Z q_I6 cp_Z 
    · skip
      first | (have t8 : ¬ (v2.toInt ≤ v3.toInt) := (not_congr (i_le rfl rfl)).mp c1) | (have t8 : ¬ (v2.toInt ≤ v3.toInt) := (not_congr (i_le rfl rfl)).mp c1) | skip
      intro b9 eb9
      obtain ⟨x10, ex10, kb9, lb9⟩ := sh_f w_I.1 kv0 (j := 29) (k := 19) (m := 2) rfl
      cases eb9.symm.trans ex10
      have o11 : vp_in v1 2 := vi_of rfl (by omega) (by omega)
      refine ⟨o11, ?_⟩
      intro b12 eb12
      obtain ⟨x14, ex14, kb12, lb12⟩ := w_I.1.2.2.2 b9 kb9 _ (vp_lt (by rw [lb9]; exact o11))
      cases eb12.symm.trans ex14
      intro b15 eb15
      obtain ⟨x16, ex16, kb15, lb15⟩ := sh_f w_I.1 kv0 (j := 18) (k := 13) (m := 80) rfl
      cases eb15.symm.trans ex16
      have o17 : vp_in v3 80 := vi_of rfl (by omega) (by omega)
      refine ⟨o17, ?_⟩
      have o18 : vp_in v3 40 := vi_of rfl (by omega) (by omega)
      refine ⟨o18, ?_⟩
      intro I19 eI19
      have w_I19 : WD Z I19 := by rw [eI19]; exact WD_putA w_I 19 v1.toNatClampNeg kb9 eb12 kb12 rfl (by simp [jsr]) (by decide) trivial
      have m_I19 : (19, v1.toNatClampNeg) ∈ Ws_X12_law := by (have h9 := i_nat (x := v1) rfl (by omega); rcases (show v1.toNatClampNeg = 0 ∨ v1.toNatClampNeg = 1 by omega) with h | h <;> rw [h] <;> decide)
      have f_I19 : FR Ws_X12_law Z I Z I19 := by rw [eI19]; exact FR_upA w_I.2.1 kb9 eb12 kb12 rfl (by simp [jsr]) m_I19
      have q_I19 : FR Ws_X12_law Z0 I0 Z I19 := q_I.trans w0.1 w0.2.1 f_I19
      intro x20 ex20
      have rx20 := i_rng x20
      first | (have tx20 : x20.toInt = v3.toInt + (1) := by (rw [ex20]; exact (i_add rfl (show (1 : Int32).toInt = 1 from rfl) (by omega) (by omega)))) | skip
      exact ih x20 Z I19 L w_I19 bd_Z q_I19 cp_Z   (by omega)  (by omega)
set_option maxHeartbeats 4000000 in
set_option maxRecDepth 100000 in
theorem s_X12_law {B : Nat × Nat} {T : Nat} {Z : jZ} {I : jI} {L : jL} (w_I : WD Z I) (bd_Z : BUD B Z T) (v0 : Nat) (v1 : Int32) (kv0 : jk Z v0 12) {Q : Int32 → jZ → jI → jL → Prop} (hQ : ∀ (r : Int32) (Z' : jZ) (I' : jI) (L' : jL), WD Z' I' → BUD B Z' T → FR Ws_X12_law Z I Z' I' → CP Z Z' → Q r Z' I' L') : f_X12_law B v0 v1 Z I L Q := by
  unfold f_X12_law
  have q_I : FR Ws_X12_law Z I Z I := FR.rf
  have cp_Z : CP Z Z := CP.rf
  have rv1 := i_rng v1
  intro I21 eI21
  have t22 : (0 : Int32).toInt = 0 := rfl
  have w_I21 : WD Z I21 := by rw [eI21]; exact WD_putF w_I 12 22 kv0 (by decide) (by decide) trivial
  have f_I21 : FR [(12, 22)] Z I Z I21 := by rw [eI21]; exact FR_putF kv0 (by decide) List.mem_cons_self
  have q_I21 : FR Ws_X12_law Z I Z I21 := q_I.trans w_I.1 w_I.2.1 (f_I21.mono (by decide))
  first | (have u23 : (I21 v0 22).toInt = (0) := by (rw [eI21, show jpI I v0 22 (0 : Int32) v0 22 = (0 : Int32) from jpI_at] <;> exact (show (0 : Int32).toInt = 0 from rfl))) | skip
  have t25 : 0 ≤ (I21 v0 19).toInt ∧ (I21 v0 19).toInt ≤ 80 := w_I21.fld 12 19 kv0 (by decide)
  intro x26 ex26
  have rx26 := i_rng x26
  first | (have tx26 : x26.toInt = (I21 v0 19).toInt := by (rw [ex26]; exact rfl)) | (have tx26 : x26.toInt = (I21 v0 19).toInt := by rw [ex26])
  intro b27 eb27
  obtain ⟨x28, ex28, kb27, lb27⟩ := sh_f w_I21.1 kv0 (j := 18) (k := 13) (m := 80) rfl
  cases eb27.symm.trans ex28
  have t29 : (40 : Int32).toInt = 40 := rfl
  refine s_X12_begin w_I21 bd_Z v0 b27 x26 (40 : Int32) kv0 kb27 v0 12 18 kv0 eb27  (fun  Z33 I31 L32 w_I31 bd_Z33 f_I31 c_Z33 p30 => ?_)
  have q_I31 : FR Ws_X12_law Z I Z33 I31 := q_I21.trans w_I.1 w_I.2.1 (f_I31.mono (by decide))
  have cp_Z33 : CP Z Z33 := cp_Z.trans q_I21.1 c_Z33
  have x_Z33 := f_I31.1
  have k34 := (f_I31.1 _ _ kv0).1
  have k35 := (f_I31.1 _ _ kb27).1
  have l36 := (f_I31.1 _ _ kb27).2.trans lb27
  have k37 := (f_I31.1 _ _ kv0).1
  have e38 := (f_I31.2.1 v0 12 18 kv0 (by decide) (by decide)).trans eb27
  have u39 : (I31 v0 22).toInt = (I21 v0 22).toInt := by rw [f_I31.2.2.1 v0 12 22 kv0 (by decide) (by decide)]
  have u40 : (I31 v0 19).toInt = (I21 v0 19).toInt := by rw [f_I31.2.2.1 v0 12 19 kv0 (by decide) (by decide)]
  obtain ⟨p30_0, p30_1⟩ := p30
  have k41 := (f_I31.1 _ _ kb27).1
  have l42 := (f_I31.1 _ _ kb27).2
  have k43 := (f_I31.1 _ _ kv0).1
  have l44 := (f_I31.1 _ _ kb27).2.trans lb27
  intro I45 eI45
  have t46 : (0 : Int32).toInt = 0 := rfl
  have w_I45 : WD Z33 I45 := by rw [eI45]; exact WD_putF w_I31 12 19 k34 (by decide) (by decide) (by constructor <;> omega)
  have f_I45 : FR [(12, 19)] Z33 I31 Z33 I45 := by rw [eI45]; exact FR_putF k34 (by decide) List.mem_cons_self
  have q_I45 : FR Ws_X12_law Z I Z33 I45 := q_I31.trans w_I.1 w_I.2.1 (f_I45.mono (by decide))
  have u47 : (I45 v0 22).toInt = (I31 v0 22).toInt := by rw [f_I45.2.2.1 v0 12 22 k34 (by decide) (by decide)]
  have u48 : (I45 v0 24).toInt = (I31 v0 24).toInt := by rw [f_I45.2.2.1 v0 12 24 k43 (by decide) (by decide)]
  have u49 : (I45 v0 25).toInt = (I31 v0 25).toInt := by rw [f_I45.2.2.1 v0 12 25 k43 (by decide) (by decide)]
  have u50 : (I45 v0 26).toInt = (I31 v0 26).toInt := by rw [f_I45.2.2.1 v0 12 26 k43 (by decide) (by decide)]
  have u51 : (I45 v0 27).toInt = (I31 v0 27).toInt := by rw [f_I45.2.2.1 v0 12 27 k43 (by decide) (by decide)]
  first | (have u52 : (I45 v0 19).toInt = (0) := by (rw [eI45, show jpI I31 v0 19 (0 : Int32) v0 19 = (0 : Int32) from jpI_at] <;> exact (show (0 : Int32).toInt = 0 from rfl))) | skip
  have t53 : (0 : Int32).toInt = 0 := rfl
  have t54 : (1 : Int32).toInt = 1 := rfl
  refine s_X12_in w_I45 v1 (0 : Int32) (1 : Int32)    (fun r55 p56 => ?_)
  have rr55 := i_rng r55
  refine ⟨fun c57 => ?_, fun c57 => ?_⟩
  · skip
    first | (have t58 : ¬ (r55.toInt = (0)) := (not_congr (i_eq rfl (show (0 : Int32).toInt = 0 from rfl))).mp c57) | (have t58 : ¬ (r55.toInt = (0 : Int32).toInt) := (not_congr (i_eq rfl rfl)).mp c57) | skip
    intro I59 eI59
    have t60 : (-1 : Int32).toInt = -1 := rfl
    have w_I59 : WD Z33 I59 := by rw [eI59]; exact WD_putF w_I45 12 31 k34 (by decide) (by decide) trivial
    have f_I59 : FR [(12, 31)] Z33 I45 Z33 I59 := by rw [eI59]; exact FR_putF k34 (by decide) List.mem_cons_self
    have q_I59 : FR Ws_X12_law Z I Z33 I59 := q_I45.trans w_I.1 w_I.2.1 (f_I59.mono (by decide))
    have u61 : (I59 v0 22).toInt = (I45 v0 22).toInt := by rw [f_I59.2.2.1 v0 12 22 k34 (by decide) (by decide)]
    have u62 : (I59 v0 24).toInt = (I45 v0 24).toInt := by rw [f_I59.2.2.1 v0 12 24 k43 (by decide) (by decide)]
    have u63 : (I59 v0 25).toInt = (I45 v0 25).toInt := by rw [f_I59.2.2.1 v0 12 25 k43 (by decide) (by decide)]
    have u64 : (I59 v0 26).toInt = (I45 v0 26).toInt := by rw [f_I59.2.2.1 v0 12 26 k43 (by decide) (by decide)]
    have u65 : (I59 v0 27).toInt = (I45 v0 27).toInt := by rw [f_I59.2.2.1 v0 12 27 k43 (by decide) (by decide)]
    have u66 : (I59 v0 19).toInt = (I45 v0 19).toInt := by rw [f_I59.2.2.1 v0 12 19 k34 (by decide) (by decide)]
    first | (have u67 : (I59 v0 31).toInt = (-1) := by (rw [eI59, show jpI I45 v0 31 (-1 : Int32) v0 31 = (-1 : Int32) from jpI_at] <;> exact (show (-1 : Int32).toInt = -1 from rfl))) | skip
    refine ⟨fun c68 => ?_, fun c68 => ?_⟩
    · skip
      first | (have t69 : x26.toInt ≤ (0) := (i_le rfl (show (0 : Int32).toInt = 0 from rfl)).mp c68) | (have t69 : x26.toInt ≤ (0 : Int32).toInt := (i_le rfl rfl).mp c68) | skip
      unfold f_X12_law_b83
      have t70 : (0 : Int32).toInt = 0 := rfl
      exact ⟨(40 - (0 : Int32).toInt).toNat + 1, l_X12_law_L85 w_I v0 v1 kv0 x26  hQ   _ (0 : Int32) Z33 I59 L32 w_I59 bd_Z33 q_I59 cp_Z33   (by omega)  (by omega)⟩
    · skip
      first | (have t71 : ¬ (x26.toInt ≤ (0)) := (not_congr (i_le rfl (show (0 : Int32).toInt = 0 from rfl))).mp c68) | (have t71 : ¬ (x26.toInt ≤ (0 : Int32).toInt) := (not_congr (i_le rfl rfl)).mp c68) | skip
      have t72 : (0 : Int32).toInt = 0 := rfl
      refine (hs12 100) 0 (by decide) Z33 I59 L32 w_I59 v0 (0 : Int32) k34 b27 p30_0 k41 (by omega) (by omega) (by omega) (by omega) _ (fun r73 I75 L76 w_I75 f_I75 p77 => ?_)
      have q_I75 : FR Ws_X12_law Z I Z33 I75 := q_I59.trans w_I.1 w_I.2.1 (f_I75.mono (by decide))
      have u78 : (I75 v0 22).toInt = (I59 v0 22).toInt := by rw [f_I75.2.2.1 v0 12 22 k34 (by decide) (by decide)]
      have u79 : (I75 v0 24).toInt = (I59 v0 24).toInt := by rw [f_I75.2.2.1 v0 12 24 k43 (by decide) (by decide)]
      have u80 : (I75 v0 25).toInt = (I59 v0 25).toInt := by rw [f_I75.2.2.1 v0 12 25 k43 (by decide) (by decide)]
      have u81 : (I75 v0 19).toInt = (I59 v0 19).toInt := by rw [f_I75.2.2.1 v0 12 19 k34 (by decide) (by decide)]
      have u82 : (I75 v0 31).toInt = (I59 v0 31).toInt := by rw [f_I75.2.2.1 v0 12 31 k34 (by decide) (by decide)]
      have rr73 := i_rng r73
      refine ⟨fun c83 => ?_, fun c83 => ?_⟩
      · skip
        first | (have t84 : x26.toInt ≤ (I75 v0 26).toInt := (i_le rfl rfl).mp c83) | (have t84 : x26.toInt ≤ (I75 v0 26).toInt := (i_le rfl rfl).mp c83) | skip
        unfold f_X12_law_b69
        refine s_X12_fine w_I75 v0 k34   (fun r85 p86 => ?_)
        have rr85 := i_rng r85
        refine ⟨fun c87 => ?_, fun c87 => ?_⟩
        · skip
          first | (have t88 : ¬ (r85.toInt = (0)) := (not_congr (i_eq rfl (show (0 : Int32).toInt = 0 from rfl))).mp c87) | (have t88 : ¬ (r85.toInt = (0 : Int32).toInt) := (not_congr (i_eq rfl rfl)).mp c87) | skip
          unfold f_X12_law_b83
          have t89 : (0 : Int32).toInt = 0 := rfl
          exact ⟨(40 - (0 : Int32).toInt).toNat + 1, l_X12_law_L85 w_I v0 v1 kv0 x26  hQ   _ (0 : Int32) Z33 I75 L76 w_I75 bd_Z33 q_I75 cp_Z33   (by omega)  (by omega)⟩
        · skip
          first | (have t90 : r85.toInt = (0) := (i_eq rfl (show (0 : Int32).toInt = 0 from rfl)).mp c87) | (have t90 : r85.toInt = (0 : Int32).toInt := (i_eq rfl rfl).mp c87) | skip
          try (have t91 : ((-1 : Int32) - (I75 v0 27)).toInt = ((-1) - (I75 v0 27).toInt) := (i_sub (show (-1 : Int32).toInt = -1 from rfl) rfl (by omega) (by omega)))
          exact hQ ((-1 : Int32) - (I75 v0 27)) Z33 I75 L76 w_I75 bd_Z33 q_I75 cp_Z33 
      · skip
        first | (have t92 : ¬ (x26.toInt ≤ (I75 v0 26).toInt) := (not_congr (i_le rfl rfl)).mp c83) | (have t92 : ¬ (x26.toInt ≤ (I75 v0 26).toInt) := (not_congr (i_le rfl rfl)).mp c83) | skip
        refine s_X12_fault w_I75 v0 (I75 v0 26) k34   (fun  I94 L95 w_I94 f_I94 p93 => ?_)
        have q_I94 : FR Ws_X12_law Z I Z33 I94 := q_I75.trans w_I.1 w_I.2.1 (f_I94.mono (by decide))
        have u96 : (I94 v0 22).toInt = (I75 v0 22).toInt := by rw [f_I94.2.2.1 v0 12 22 k34 (by decide) (by decide)]
        have u97 : (I94 v0 24).toInt = (I75 v0 24).toInt := by rw [f_I94.2.2.1 v0 12 24 k43 (by decide) (by decide)]
        have u98 : (I94 v0 25).toInt = (I75 v0 25).toInt := by rw [f_I94.2.2.1 v0 12 25 k43 (by decide) (by decide)]
        have u99 : (I94 v0 19).toInt = (I75 v0 19).toInt := by rw [f_I94.2.2.1 v0 12 19 k34 (by decide) (by decide)]
        have u100 : (I94 v0 31).toInt = (I75 v0 31).toInt := by rw [f_I94.2.2.1 v0 12 31 k34 (by decide) (by decide)]
        have u101 : (I94 v0 26).toInt = (I75 v0 26).toInt := by rw [f_I94.2.2.1 v0 12 26 k34 (by decide) (by decide)]
        unfold f_X12_law_b69
        refine s_X12_fine w_I94 v0 k34   (fun r102 p103 => ?_)
        have rr102 := i_rng r102
        refine ⟨fun c104 => ?_, fun c104 => ?_⟩
        · skip
          first | (have t105 : ¬ (r102.toInt = (0)) := (not_congr (i_eq rfl (show (0 : Int32).toInt = 0 from rfl))).mp c104) | (have t105 : ¬ (r102.toInt = (0 : Int32).toInt) := (not_congr (i_eq rfl rfl)).mp c104) | skip
          unfold f_X12_law_b83
          have t106 : (0 : Int32).toInt = 0 := rfl
          exact ⟨(40 - (0 : Int32).toInt).toNat + 1, l_X12_law_L85 w_I v0 v1 kv0 x26  hQ   _ (0 : Int32) Z33 I94 L95 w_I94 bd_Z33 q_I94 cp_Z33   (by omega)  (by omega)⟩
        · skip
          first | (have t107 : r102.toInt = (0) := (i_eq rfl (show (0 : Int32).toInt = 0 from rfl)).mp c104) | (have t107 : r102.toInt = (0 : Int32).toInt := (i_eq rfl rfl).mp c104) | skip
          try (have t108 : ((-1 : Int32) - (I94 v0 27)).toInt = ((-1) - (I94 v0 27).toInt) := (i_sub (show (-1 : Int32).toInt = -1 from rfl) rfl (by omega) (by omega)))
          exact hQ ((-1 : Int32) - (I94 v0 27)) Z33 I94 L95 w_I94 bd_Z33 q_I94 cp_Z33 
  · skip
    first | (have t109 : r55.toInt = (0) := (i_eq rfl (show (0 : Int32).toInt = 0 from rfl)).mp c57) | (have t109 : r55.toInt = (0 : Int32).toInt := (i_eq rfl rfl).mp c57) | skip
    have t110 : (-100 : Int32).toInt = -100 := rfl
    exact hQ (-100 : Int32) Z33 I45 L32 w_I45 bd_Z33 q_I45 cp_Z33 
def Ws_X12_lawOf : List (Nat × Nat) := [(12, 24), (12, 25), (12, 26), (12, 27), (12, 31), (12, 32), (12, 33), (12, 34)]
set_option maxHeartbeats 4000000 in
set_option maxRecDepth 100000 in
theorem s_X12_lawOf {B : Nat × Nat} {T : Nat} {Z : jZ} {I : jI} {L : jL} (w_I : WD Z I) (bd_Z : BUD B Z T) (v0 : Nat) (v1 : Int32) (v2 : Int32) (v3 : Int32) (v4 : Int32) (v5 : Int32) (kv0 : jk Z v0 12) (p0 : 0 ≤ v1.toInt ∧ v1.toInt ≤ 1 ∧ 0 ≤ v2.toInt ∧ v2.toInt ≤ 23 ∧ -1 ≤ v3.toInt ∧ v3.toInt ≤ 23) {Q : Int32 → jZ → jI → jL → Prop} (hQ : ∀ (r : Int32) (Z' : jZ) (I' : jI) (L' : jL), WD Z' I' → BUD B Z' T → FR Ws_X12_lawOf Z I Z' I' → CP Z Z' → (0 ≤ r.toInt ∧ r.toInt ≤ 99) → Q r Z' I' L') : f_X12_lawOf B v0 v1 v2 v3 v4 v5 Z I L Q := by
  unfold f_X12_lawOf
  have q_I : FR Ws_X12_lawOf Z I Z I := FR.rf
  have cp_Z : CP Z Z := CP.rf
  have rv1 := i_rng v1
  have rv2 := i_rng v2
  have rv3 := i_rng v3
  have rv4 := i_rng v4
  have rv5 := i_rng v5
  intro b1 eb1
  obtain ⟨x2, ex2, kb1, lb1⟩ := sh_f w_I.1 kv0 (j := 30) (k := 14) (m := 2) rfl
  cases eb1.symm.trans ex2
  have o3 : vp_in v1 2 := vi_of rfl (by omega) (by omega)
  refine ⟨o3, ?_⟩
  have t4 : 0 ≤ (I b1 v1.toNatClampNeg).toInt ∧ (I b1 v1.toNatClampNeg).toInt ≤ 40 := w_I.arr 12 30 kv0 eb1 kb1 rfl rfl _
  refine ⟨fun c5 => ?_, fun c5 => ?_⟩
  · skip
    first | (have t6 : ¬ ((I b1 v1.toNatClampNeg).toInt = (0)) := (not_congr (i_eq rfl (show (0 : Int32).toInt = 0 from rfl))).mp c5) | (have t6 : ¬ ((I b1 v1.toNatClampNeg).toInt = (0 : Int32).toInt) := (not_congr (i_eq rfl rfl)).mp c5) | skip
    intro b7 eb7
    obtain ⟨x8, ex8, kb7, lb7⟩ := sh_f w_I.1 kv0 (j := 29) (k := 19) (m := 2) rfl
    cases eb7.symm.trans ex8
    have o9 : vp_in v1 2 := vi_of rfl (by omega) (by omega)
    refine ⟨o9, ?_⟩
    intro b10 eb10
    obtain ⟨x12, ex12, kb10, lb10⟩ := w_I.1.2.2.2 b7 kb7 _ (vp_lt (by rw [lb7]; exact o9))
    cases eb10.symm.trans ex12
    intro b13 eb13
    obtain rfl : b1 = b13 := Option.some.inj (eb1.symm.trans eb13)
    have o14 : vp_in v1 2 := vi_of rfl (by omega) (by omega)
    refine ⟨o14, ?_⟩
    have t15 : 0 ≤ (I b1 v1.toNatClampNeg).toInt ∧ (I b1 v1.toNatClampNeg).toInt ≤ 40 := w_I.arr 12 30 kv0 eb1 kb1 rfl rfl _
    have t16 : (40 : Int32).toInt = 40 := rfl
    refine s_X12_begin w_I bd_Z v0 b10 (I b1 v1.toNatClampNeg) (40 : Int32) kv0 kb10 b7 19 (v1.toNatClampNeg) kb7 eb10  (fun  Z20 I18 L19 w_I18 bd_Z20 f_I18 c_Z20 p17 => ?_)
    have q_I18 : FR Ws_X12_lawOf Z I Z20 I18 := q_I.trans w_I.1 w_I.2.1 (f_I18.mono (by decide))
    have cp_Z20 : CP Z Z20 := cp_Z.trans q_I.1 c_Z20
    have x_Z20 := f_I18.1
    have k21 := (f_I18.1 _ _ kv0).1
    have k22 := (f_I18.1 _ _ kb1).1
    have l23 := (f_I18.1 _ _ kb1).2.trans lb1
    have k24 := (f_I18.1 _ _ kv0).1
    have e25 := (f_I18.2.1 v0 12 30 kv0 (by decide) (by decide)).trans eb1
    have k26 := (f_I18.1 _ _ kb7).1
    have l27 := (f_I18.1 _ _ kb7).2.trans lb7
    have k28 := (f_I18.1 _ _ kv0).1
    have e29 := (f_I18.2.1 v0 12 29 kv0 (by decide) (by decide)).trans eb7
    obtain ⟨p17_0, p17_1⟩ := p17
    have k30 := (f_I18.1 _ _ kb10).1
    have l31 := (f_I18.1 _ _ kb10).2
    have k32 := (f_I18.1 _ _ kv0).1
    have l33 := (f_I18.1 _ _ kb10).2.trans lb10
    intro I34 eI34
    have w_I34 : WD Z20 I34 := by rw [eI34]; exact WD_putF w_I18 12 31 k21 (by decide) (by decide) trivial
    have f_I34 : FR [(12, 31)] Z20 I18 Z20 I34 := by rw [eI34]; exact FR_putF k21 (by decide) List.mem_cons_self
    have q_I34 : FR Ws_X12_lawOf Z I Z20 I34 := q_I18.trans w_I.1 w_I.2.1 (f_I34.mono (by decide))
    have u35 : (I34 v0 24).toInt = (I18 v0 24).toInt := by rw [f_I34.2.2.1 v0 12 24 k32 (by decide) (by decide)]
    have u36 : (I34 v0 25).toInt = (I18 v0 25).toInt := by rw [f_I34.2.2.1 v0 12 25 k32 (by decide) (by decide)]
    have u37 : (I34 v0 26).toInt = (I18 v0 26).toInt := by rw [f_I34.2.2.1 v0 12 26 k32 (by decide) (by decide)]
    have u38 : (I34 v0 27).toInt = (I18 v0 27).toInt := by rw [f_I34.2.2.1 v0 12 27 k32 (by decide) (by decide)]
    first | (have u39 : (I34 v0 31).toInt = v2.toInt := by (rw [eI34, show jpI I18 v0 31 v2 v0 31 = v2 from jpI_at] <;> exact rfl)) | skip
    intro I40 eI40
    have w_I40 : WD Z20 I40 := by rw [eI40]; exact WD_putF w_I34 12 32 k21 (by decide) (by decide) trivial
    have f_I40 : FR [(12, 32)] Z20 I34 Z20 I40 := by rw [eI40]; exact FR_putF k21 (by decide) List.mem_cons_self
    have q_I40 : FR Ws_X12_lawOf Z I Z20 I40 := q_I34.trans w_I.1 w_I.2.1 (f_I40.mono (by decide))
    have u41 : (I40 v0 24).toInt = (I34 v0 24).toInt := by rw [f_I40.2.2.1 v0 12 24 k32 (by decide) (by decide)]
    have u42 : (I40 v0 25).toInt = (I34 v0 25).toInt := by rw [f_I40.2.2.1 v0 12 25 k32 (by decide) (by decide)]
    have u43 : (I40 v0 26).toInt = (I34 v0 26).toInt := by rw [f_I40.2.2.1 v0 12 26 k32 (by decide) (by decide)]
    have u44 : (I40 v0 27).toInt = (I34 v0 27).toInt := by rw [f_I40.2.2.1 v0 12 27 k32 (by decide) (by decide)]
    have u45 : (I40 v0 31).toInt = (I34 v0 31).toInt := by rw [f_I40.2.2.1 v0 12 31 k21 (by decide) (by decide)]
    first | (have u46 : (I40 v0 32).toInt = v3.toInt := by (rw [eI40, show jpI I34 v0 32 v3 v0 32 = v3 from jpI_at] <;> exact rfl)) | skip
    intro I47 eI47
    have w_I47 : WD Z20 I47 := by rw [eI47]; exact WD_putF w_I40 12 33 k21 (by decide) (by decide) trivial
    have f_I47 : FR [(12, 33)] Z20 I40 Z20 I47 := by rw [eI47]; exact FR_putF k21 (by decide) List.mem_cons_self
    have q_I47 : FR Ws_X12_lawOf Z I Z20 I47 := q_I40.trans w_I.1 w_I.2.1 (f_I47.mono (by decide))
    have u48 : (I47 v0 24).toInt = (I40 v0 24).toInt := by rw [f_I47.2.2.1 v0 12 24 k32 (by decide) (by decide)]
    have u49 : (I47 v0 25).toInt = (I40 v0 25).toInt := by rw [f_I47.2.2.1 v0 12 25 k32 (by decide) (by decide)]
    have u50 : (I47 v0 26).toInt = (I40 v0 26).toInt := by rw [f_I47.2.2.1 v0 12 26 k32 (by decide) (by decide)]
    have u51 : (I47 v0 27).toInt = (I40 v0 27).toInt := by rw [f_I47.2.2.1 v0 12 27 k32 (by decide) (by decide)]
    have u52 : (I47 v0 31).toInt = (I40 v0 31).toInt := by rw [f_I47.2.2.1 v0 12 31 k21 (by decide) (by decide)]
    have u53 : (I47 v0 32).toInt = (I40 v0 32).toInt := by rw [f_I47.2.2.1 v0 12 32 k21 (by decide) (by decide)]
    first | (have u54 : (I47 v0 33).toInt = v4.toInt := by (rw [eI47, show jpI I40 v0 33 v4 v0 33 = v4 from jpI_at] <;> exact rfl)) | skip
    intro I55 eI55
    have w_I55 : WD Z20 I55 := by rw [eI55]; exact WD_putF w_I47 12 34 k21 (by decide) (by decide) trivial
    have f_I55 : FR [(12, 34)] Z20 I47 Z20 I55 := by rw [eI55]; exact FR_putF k21 (by decide) List.mem_cons_self
    have q_I55 : FR Ws_X12_lawOf Z I Z20 I55 := q_I47.trans w_I.1 w_I.2.1 (f_I55.mono (by decide))
    have u56 : (I55 v0 24).toInt = (I47 v0 24).toInt := by rw [f_I55.2.2.1 v0 12 24 k32 (by decide) (by decide)]
    have u57 : (I55 v0 25).toInt = (I47 v0 25).toInt := by rw [f_I55.2.2.1 v0 12 25 k32 (by decide) (by decide)]
    have u58 : (I55 v0 26).toInt = (I47 v0 26).toInt := by rw [f_I55.2.2.1 v0 12 26 k32 (by decide) (by decide)]
    have u59 : (I55 v0 27).toInt = (I47 v0 27).toInt := by rw [f_I55.2.2.1 v0 12 27 k32 (by decide) (by decide)]
    have u60 : (I55 v0 31).toInt = (I47 v0 31).toInt := by rw [f_I55.2.2.1 v0 12 31 k21 (by decide) (by decide)]
    have u61 : (I55 v0 32).toInt = (I47 v0 32).toInt := by rw [f_I55.2.2.1 v0 12 32 k21 (by decide) (by decide)]
    have u62 : (I55 v0 33).toInt = (I47 v0 33).toInt := by rw [f_I55.2.2.1 v0 12 33 k21 (by decide) (by decide)]
    first | (have u63 : (I55 v0 34).toInt = v5.toInt := by (rw [eI55, show jpI I47 v0 34 v5 v0 34 = v5 from jpI_at] <;> exact rfl)) | skip
    have t64 : (0 : Int32).toInt = 0 := rfl
    refine (hs12 100) 0 (by decide) Z20 I55 L19 w_I55 v0 (0 : Int32) k21 b10 p17_0 k30 (by omega) (by omega) (by omega) (by omega) _ (fun r65 I67 L68 w_I67 f_I67 p69 => ?_)
    have q_I67 : FR Ws_X12_lawOf Z I Z20 I67 := q_I55.trans w_I.1 w_I.2.1 (f_I67.mono (by decide))
    have u70 : (I67 v0 24).toInt = (I55 v0 24).toInt := by rw [f_I67.2.2.1 v0 12 24 k32 (by decide) (by decide)]
    have u71 : (I67 v0 25).toInt = (I55 v0 25).toInt := by rw [f_I67.2.2.1 v0 12 25 k32 (by decide) (by decide)]
    have u72 : (I67 v0 31).toInt = (I55 v0 31).toInt := by rw [f_I67.2.2.1 v0 12 31 k21 (by decide) (by decide)]
    have u73 : (I67 v0 32).toInt = (I55 v0 32).toInt := by rw [f_I67.2.2.1 v0 12 32 k21 (by decide) (by decide)]
    have u74 : (I67 v0 33).toInt = (I55 v0 33).toInt := by rw [f_I67.2.2.1 v0 12 33 k21 (by decide) (by decide)]
    have u75 : (I67 v0 34).toInt = (I55 v0 34).toInt := by rw [f_I67.2.2.1 v0 12 34 k21 (by decide) (by decide)]
    have rr65 := i_rng r65
    try (have t76 : (if (0 : Int32) < (if r65 < (99 : Int32) then r65 else (99 : Int32)) then (if r65 < (99 : Int32) then r65 else (99 : Int32)) else (0 : Int32)).toInt = (max (0) (min (99) r65.toInt)) := (i_max (show (0 : Int32).toInt = 0 from rfl) (i_min (show (99 : Int32).toInt = 99 from rfl) rfl)))
    exact hQ (if (0 : Int32) < (if r65 < (99 : Int32) then r65 else (99 : Int32)) then (if r65 < (99 : Int32) then r65 else (99 : Int32)) else (0 : Int32)) Z20 I67 L68 w_I67 bd_Z20 q_I67 cp_Z20 (by omega)
  · skip
    first | (have t77 : (I b1 v1.toNatClampNeg).toInt = (0) := (i_eq rfl (show (0 : Int32).toInt = 0 from rfl)).mp c5) | (have t77 : (I b1 v1.toNatClampNeg).toInt = (0 : Int32).toInt := (i_eq rfl rfl).mp c5) | skip
    refine ⟨fun c78 => ?_, fun c78 => ?_⟩
    · skip
      first | (have t79 : v1.toInt = (1) := (i_eq rfl (show (1 : Int32).toInt = 1 from rfl)).mp c78) | (have t79 : v1.toInt = (1 : Int32).toInt := (i_eq rfl rfl).mp c78) | skip
      unfold f_X12_lawOf_b23
      have t80 : (0 : Int32).toInt = 0 := rfl
      exact hQ (0 : Int32) Z I L w_I bd_Z q_I cp_Z (by omega)
    · skip
      first | (have t81 : ¬ (v1.toInt = (1)) := (not_congr (i_eq rfl (show (1 : Int32).toInt = 1 from rfl))).mp c78) | (have t81 : ¬ (v1.toInt = (1 : Int32).toInt) := (not_congr (i_eq rfl rfl)).mp c78) | skip
      intro b82 eb82
      obtain ⟨x83, ex83, kb82, lb82⟩ := sh_f w_I.1 kv0 (j := 4) (k := 16) (m := 24) rfl
      cases eb82.symm.trans ex83
      have o84 : vp_in v2 24 := vi_of rfl (by omega) (by omega)
      refine ⟨o84, ?_⟩
      refine ⟨fun c85 => ?_, fun c85 => ?_⟩
      · skip
        first | (have t86 : (I b82 v2.toNatClampNeg).toInt = (0) := (i_eq rfl (show (0 : Int32).toInt = 0 from rfl)).mp c85) | (have t86 : (I b82 v2.toNatClampNeg).toInt = (0 : Int32).toInt := (i_eq rfl rfl).mp c85) | skip
        intro b87 eb87
        obtain ⟨x88, ex88, kb87, lb87⟩ := sh_f w_I.1 kv0 (j := 3) (k := 14) (m := 24) rfl
        cases eb87.symm.trans ex88
        have o89 : vp_in v2 24 := vi_of rfl (by omega) (by omega)
        refine ⟨o89, ?_⟩
        have t90 : 0 ≤ (I b87 v2.toNatClampNeg).toInt ∧ (I b87 v2.toNatClampNeg).toInt ≤ 20 := w_I.arr 12 3 kv0 eb87 kb87 rfl rfl _
        exact hQ (I b87 v2.toNatClampNeg) Z I L w_I bd_Z q_I cp_Z (by omega)
      · skip
        first | (have t91 : ¬ ((I b82 v2.toNatClampNeg).toInt = (0)) := (not_congr (i_eq rfl (show (0 : Int32).toInt = 0 from rfl))).mp c85) | (have t91 : ¬ ((I b82 v2.toNatClampNeg).toInt = (0 : Int32).toInt) := (not_congr (i_eq rfl rfl)).mp c85) | skip
        unfold f_X12_lawOf_b23
        have t92 : (0 : Int32).toInt = 0 := rfl
        exact hQ (0 : Int32) Z I L w_I bd_Z q_I cp_Z (by omega)
set_option maxHeartbeats 4000000 in
set_option maxRecDepth 100000 in
theorem l_X12_effortOf_L8 {Z : jZ} {I : jI} {L : jL} {Q : Int32 → jI → jL → Prop} (w_I : WD Z I) (v0 : Nat) (v1 : Int32) (v2 : Int32) (v3 : Int32) (kv0 : jk Z v0 12) (p0 : 0 ≤ v1.toInt ∧ v1.toInt ≤ 5 ∧ -1 ≤ v2.toInt ∧ v2.toInt < v3.toInt ∧ v3.toInt ≤ 23 ∧ v3.toInt - v2.toInt ≤ 3) (hQ : ∀ (r : Int32), (0 ≤ r.toInt ∧ r.toInt ≤ 999) → Q r I L) : ∀ (n : Nat) (v4 : Int32) (v5 : Int32) ,   (v2.toInt < v5.toInt ∧ v5.toInt ≤ v3.toInt + 1 ∧ 0 ≤ v4.toInt ∧ v4.toInt ≤ 30 * (v5.toInt - v2.toInt - 1)) → v3.toInt + 1 - v5.toInt < (n : Int) → f_X12_effortOf_L8  Z Q n v0 v1 v2 v3 v4 v5 I L := by
  intro n
  induction n with
  | zero =>
    intro v4 v5   li  me
    exfalso
    omega
  | succ n ih =>
    intro v4 v5   li  me
    unfold f_X12_effortOf_L8
    have rv4 := i_rng v4
    have rv5 := i_rng v5
    have rv1 := i_rng v1
    have rv2 := i_rng v2
    have rv3 := i_rng v3
    refine ⟨fun c1 => ?_, fun c1 => ?_⟩
    · skip
      first | (have t2 : v3.toInt < v5.toInt := (i_lt rfl rfl).mp c1) | (have t2 : v3.toInt < v5.toInt := (i_lt rfl rfl).mp c1) | skip
      intro b3 eb3
      obtain ⟨x4, ex4, kb3, lb3⟩ := sh_f w_I.1 kv0 (j := 12) (k := 14) (m := 6) rfl
      cases eb3.symm.trans ex4
      have o5 : vp_in v1 6 := vi_of rfl (by omega) (by omega)
      refine ⟨o5, ?_⟩
      have t6 : 0 ≤ (I b3 v1.toNatClampNeg).toInt ∧ (I b3 v1.toNatClampNeg).toInt ≤ 50 := w_I.arr 12 12 kv0 eb3 kb3 rfl rfl _
      have t7 : 0 ≤ (v4 * ((10 : Int32) + (I b3 v1.toNatClampNeg))).toInt ∧ (v4 * ((10 : Int32) + (I b3 v1.toNatClampNeg))).toInt ≤ 5400 := i_mulb (M := 90) (N := 60) rfl (i_add (show (10 : Int32).toInt = 10 from rfl) rfl (by omega) (by omega)) (by omega) (by omega) (by omega) (by omega) (by decide)
      intro b8 eb8
      obtain ⟨x9, ex9, kb8, lb8⟩ := sh_f w_I.1 kv0 (j := 2) (k := 14) (m := 24) rfl
      cases eb8.symm.trans ex9
      have o10 : vp_in v3 24 := vi_of rfl (by omega) (by omega)
      refine ⟨o10, ?_⟩
      have t11 : 0 ≤ (I b8 v3.toNatClampNeg).toInt ∧ (I b8 v3.toNatClampNeg).toInt ≤ 9 := w_I.arr 12 2 kv0 eb8 kb8 rfl rfl _
      try (have t12 : (((((v4 * ((10 : Int32) + (I b3 v1.toNatClampNeg))) / (10 : Int32)) + (9 : Int32)) - (I b8 v3.toNatClampNeg)) + ((5 : Int32) * ((v3 - v2) - (1 : Int32)))).toInt = (((((v4 * ((10 : Int32) + (I b3 v1.toNatClampNeg))).toInt / (10)) + (9)) - (I b8 v3.toNatClampNeg).toInt) + ((5) * ((v3.toInt - v2.toInt) - (1)))) := (i_add (i_sub (i_add (i_div rfl (show (10 : Int32).toInt = 10 from rfl) (by omega) (by omega)) (show (9 : Int32).toInt = 9 from rfl) (by omega) (by omega)) rfl (by omega) (by omega)) (i_mul (show (5 : Int32).toInt = 5 from rfl) (i_sub (i_sub rfl rfl (by omega) (by omega)) (show (1 : Int32).toInt = 1 from rfl) (by omega) (by omega)) (by omega) (by omega)) (by omega) (by omega)))
      exact hQ (((((v4 * ((10 : Int32) + (I b3 v1.toNatClampNeg))) / (10 : Int32)) + (9 : Int32)) - (I b8 v3.toNatClampNeg)) + ((5 : Int32) * ((v3 - v2) - (1 : Int32)))) (by omega)
    · skip
      first | (have t13 : ¬ (v3.toInt < v5.toInt) := (not_congr (i_lt rfl rfl)).mp c1) | (have t13 : ¬ (v3.toInt < v5.toInt) := (not_congr (i_lt rfl rfl)).mp c1) | skip
      intro b14 eb14
      obtain ⟨x15, ex15, kb14, lb14⟩ := sh_f w_I.1 kv0 (j := 1) (k := 14) (m := 24) rfl
      cases eb14.symm.trans ex15
      have o16 : vp_in v5 24 := vi_of rfl (by omega) (by omega)
      refine ⟨o16, ?_⟩
      have t17 : 0 ≤ (I b14 v5.toNatClampNeg).toInt ∧ (I b14 v5.toNatClampNeg).toInt ≤ 30 := w_I.arr 12 1 kv0 eb14 kb14 rfl rfl _
      intro x18 ex18
      have rx18 := i_rng x18
      first | (have tx18 : x18.toInt = (v4.toInt + (I b14 v5.toNatClampNeg).toInt) := by (rw [ex18]; exact (i_add rfl rfl (by omega) (by omega)))) | (have tx18 : x18.toInt = (v4 + (I b14 v5.toNatClampNeg)).toInt := by rw [ex18])
      intro x19 ex19
      have rx19 := i_rng x19
      first | (have tx19 : x19.toInt = v5.toInt + (1) := by (rw [ex19]; exact (i_add rfl (show (1 : Int32).toInt = 1 from rfl) (by omega) (by omega)))) | skip
      exact ih x18 x19   (by omega)  (by omega)
set_option maxHeartbeats 4000000 in
set_option maxRecDepth 100000 in
theorem s_X12_effortOf {Z : jZ} {I : jI} {L : jL} (w_I : WD Z I) (v0 : Nat) (v1 : Int32) (v2 : Int32) (v3 : Int32) (kv0 : jk Z v0 12) (p0 : 0 ≤ v1.toInt ∧ v1.toInt ≤ 5 ∧ -1 ≤ v2.toInt ∧ v2.toInt < v3.toInt ∧ v3.toInt ≤ 23 ∧ v3.toInt - v2.toInt ≤ 3) {Q : Int32 → jI → jL → Prop} (hQ : ∀ (r : Int32), (0 ≤ r.toInt ∧ r.toInt ≤ 999) → Q r I L) : f_X12_effortOf v0 v1 v2 v3 Z I L Q := by
  unfold f_X12_effortOf
  have rv1 := i_rng v1
  have rv2 := i_rng v2
  have rv3 := i_rng v3
  intro x20 ex20
  have rx20 := i_rng x20
  first | (have tx20 : x20.toInt = (v2.toInt + (1)) := by (rw [ex20]; exact (i_add rfl (show (1 : Int32).toInt = 1 from rfl) (by omega) (by omega)))) | (have tx20 : x20.toInt = (v2 + (1 : Int32)).toInt := by rw [ex20])
  have t21 : (0 : Int32).toInt = 0 := rfl
  exact ⟨(v3.toInt + 1 - x20.toInt).toNat + 1, l_X12_effortOf_L8 w_I v0 v1 v2 v3 kv0 p0   hQ   _ (0 : Int32) x20   (by omega)  (by omega)⟩
def Ws_X12_costOf : List (Nat × Nat) := [(12, 24), (12, 25), (12, 26), (12, 27), (12, 31), (12, 32), (12, 33), (12, 34)]
set_option maxHeartbeats 4000000 in
set_option maxRecDepth 100000 in
theorem l_X12_costOf_L29 {B : Nat × Nat} {T : Nat} {Z0 : jZ} {I0 : jI} {Q : Int32 → jZ → jI → jL → Prop} (w0 : WD Z0 I0) (v0 : Nat) (v1 : Int32) (v2 : Int32) (v3 : Int32) (kv0 : jk Z0 v0 12) (p0 : 0 ≤ v1.toInt ∧ v1.toInt ≤ 5 ∧ -1 ≤ v2.toInt ∧ v2.toInt < v3.toInt ∧ v3.toInt ≤ 23 ∧ v3.toInt - v2.toInt ≤ 3) (v4 : Int32) (hQ : ∀ (r : Int32) (Z' : jZ) (I' : jI) (L' : jL), WD Z' I' → BUD B Z' T → FR Ws_X12_costOf Z0 I0 Z' I' → CP Z0 Z' → (0 ≤ r.toInt ∧ r.toInt ≤ 297) → Q r Z' I' L') : ∀ (n : Nat) (v5 : Int32) (v6 : Int32) (Z : jZ) (I : jI) (L : jL), WD Z I → BUD B Z T → FR Ws_X12_costOf Z0 I0 Z I → CP Z0 Z →   (v2.toInt < v6.toInt ∧ v6.toInt ≤ v3.toInt ∧ 0 ≤ v5.toInt ∧ v5.toInt ≤ 99 * (v6.toInt - v2.toInt)) → v3.toInt - v6.toInt < (n : Int) → f_X12_costOf_L29 B  Q n v0 v1 v2 v3 v4 v5 v6 Z I L := by
  intro n
  induction n with
  | zero =>
    intro v5 v6 Z I L w_I bd_Z q_I cp_Z   li  me
    exfalso
    omega
  | succ n ih =>
    intro v5 v6 Z I L w_I bd_Z q_I cp_Z   li  me
    unfold f_X12_costOf_L29
    have rv5 := i_rng v5
    have rv6 := i_rng v6
    have rv4 := i_rng v4
    have rv1 := i_rng v1
    have rv2 := i_rng v2
    have rv3 := i_rng v3
    have kv0_0 := kv0
    have kv0 := (q_I.1 _ _ kv0).1
    have xq_I := q_I.1
    refine ⟨fun c1 => ?_, fun c1 => ?_⟩
    · skip
      first | (have t2 : v3.toInt ≤ v6.toInt := (i_le rfl rfl).mp c1) | (have t2 : v3.toInt ≤ v6.toInt := (i_le rfl rfl).mp c1) | skip
      exact hQ v5 Z I L w_I bd_Z q_I cp_Z (by omega)
    · skip
      first | (have t3 : ¬ (v3.toInt ≤ v6.toInt) := (not_congr (i_le rfl rfl)).mp c1) | (have t3 : ¬ (v3.toInt ≤ v6.toInt) := (not_congr (i_le rfl rfl)).mp c1) | skip
      intro b4 eb4
      obtain ⟨x5, ex5, kb4, lb4⟩ := sh_f w_I.1 kv0 (j := 12) (k := 14) (m := 6) rfl
      cases eb4.symm.trans ex5
      have o6 : vp_in v1 6 := vi_of rfl (by omega) (by omega)
      refine ⟨o6, ?_⟩
      have t7 : 0 ≤ (I b4 v1.toNatClampNeg).toInt ∧ (I b4 v1.toNatClampNeg).toInt ≤ 50 := w_I.arr 12 12 kv0 eb4 kb4 rfl rfl _
      have t8 : (1 : Int32).toInt = 1 := rfl
      refine s_X12_lawOf w_I bd_Z v0 (1 : Int32) v6 v2 (I b4 v1.toNatClampNeg) v4 kv0  (by omega) (fun r9 Z13 I11 L12 w_I11 bd_Z13 f_I11 c_Z13 p10 => ?_)
      have q_I11 : FR Ws_X12_costOf Z0 I0 Z13 I11 := q_I.trans w0.1 w0.2.1 (f_I11.mono (by decide))
      have cp_Z13 : CP Z0 Z13 := cp_Z.trans q_I.1 c_Z13
      have x_Z13 := f_I11.1
      have k14 := (f_I11.1 _ _ kv0).1
      have k15 := (f_I11.1 _ _ kb4).1
      have l16 := (f_I11.1 _ _ kb4).2.trans lb4
      have k17 := (f_I11.1 _ _ kv0).1
      have e18 := (f_I11.2.1 v0 12 12 kv0 (by decide) (by decide)).trans eb4
      have rr9 := i_rng r9
      intro x19 ex19
      have rx19 := i_rng x19
      first | (have tx19 : x19.toInt = (v5.toInt + r9.toInt) := by (rw [ex19]; exact (i_add rfl rfl (by omega) (by omega)))) | (have tx19 : x19.toInt = (v5 + r9).toInt := by rw [ex19])
      intro x20 ex20
      have rx20 := i_rng x20
      first | (have tx20 : x20.toInt = v6.toInt + (1) := by (rw [ex20]; exact (i_add rfl (show (1 : Int32).toInt = 1 from rfl) (by omega) (by omega)))) | skip
      exact ih x19 x20 Z13 I11 L12 w_I11 bd_Z13 q_I11 cp_Z13   (by omega)  (by omega)
set_option maxHeartbeats 4000000 in
set_option maxRecDepth 100000 in
theorem s_X12_costOf {B : Nat × Nat} {T : Nat} {Z : jZ} {I : jI} {L : jL} (w_I : WD Z I) (bd_Z : BUD B Z T) (v0 : Nat) (v1 : Int32) (v2 : Int32) (v3 : Int32) (kv0 : jk Z v0 12) (p0 : 0 ≤ v1.toInt ∧ v1.toInt ≤ 5 ∧ -1 ≤ v2.toInt ∧ v2.toInt < v3.toInt ∧ v3.toInt ≤ 23 ∧ v3.toInt - v2.toInt ≤ 3) {Q : Int32 → jZ → jI → jL → Prop} (hQ : ∀ (r : Int32) (Z' : jZ) (I' : jI) (L' : jL), WD Z' I' → BUD B Z' T → FR Ws_X12_costOf Z I Z' I' → CP Z Z' → (0 ≤ r.toInt ∧ r.toInt ≤ 297) → Q r Z' I' L') : f_X12_costOf B v0 v1 v2 v3 Z I L Q := by
  unfold f_X12_costOf
  have q_I : FR Ws_X12_costOf Z I Z I := FR.rf
  have cp_Z : CP Z Z := CP.rf
  have rv1 := i_rng v1
  have rv2 := i_rng v2
  have rv3 := i_rng v3
  intro x21 ex21
  have rx21 := i_rng x21
  first | (have tx21 : x21.toInt = ((v3.toInt - v2.toInt) - (1)) := by (rw [ex21]; exact (i_sub (i_sub rfl rfl (by omega) (by omega)) (show (1 : Int32).toInt = 1 from rfl) (by omega) (by omega)))) | (have tx21 : x21.toInt = ((v3 - v2) - (1 : Int32)).toInt := by rw [ex21])
  intro b22 eb22
  obtain ⟨x23, ex23, kb22, lb22⟩ := sh_f w_I.1 kv0 (j := 12) (k := 14) (m := 6) rfl
  cases eb22.symm.trans ex23
  have o24 : vp_in v1 6 := vi_of rfl (by omega) (by omega)
  refine ⟨o24, ?_⟩
  have t25 : 0 ≤ (I b22 v1.toNatClampNeg).toInt ∧ (I b22 v1.toNatClampNeg).toInt ≤ 50 := w_I.arr 12 12 kv0 eb22 kb22 rfl rfl _
  have t26 : (0 : Int32).toInt = 0 := rfl
  refine s_X12_lawOf w_I bd_Z v0 (0 : Int32) v3 v2 (I b22 v1.toNatClampNeg) x21 kv0  (by omega) (fun r27 Z31 I29 L30 w_I29 bd_Z31 f_I29 c_Z31 p28 => ?_)
  have q_I29 : FR Ws_X12_costOf Z I Z31 I29 := q_I.trans w_I.1 w_I.2.1 (f_I29.mono (by decide))
  have cp_Z31 : CP Z Z31 := cp_Z.trans q_I.1 c_Z31
  have x_Z31 := f_I29.1
  have k32 := (f_I29.1 _ _ kv0).1
  have k33 := (f_I29.1 _ _ kb22).1
  have l34 := (f_I29.1 _ _ kb22).2.trans lb22
  have k35 := (f_I29.1 _ _ kv0).1
  have e36 := (f_I29.2.1 v0 12 12 kv0 (by decide) (by decide)).trans eb22
  have rr27 := i_rng r27
  intro x37 ex37
  have rx37 := i_rng x37
  first | (have tx37 : x37.toInt = (v2.toInt + (1)) := by (rw [ex37]; exact (i_add rfl (show (1 : Int32).toInt = 1 from rfl) (by omega) (by omega)))) | (have tx37 : x37.toInt = (v2 + (1 : Int32)).toInt := by rw [ex37])
  exact ⟨(v3.toInt - x37.toInt).toNat + 1, l_X12_costOf_L29 w_I v0 v1 v2 v3 kv0 p0 x21  hQ   _ r27 x37 Z31 I29 L30 w_I29 bd_Z31 q_I29 cp_Z31   (by omega)  (by omega)⟩
def Ws_X12_costs : List (Nat × Nat) := [(12, 21), (12, 22), (12, 24), (12, 25), (12, 26), (12, 27), (12, 31), (12, 32), (12, 33), (12, 34)]
set_option maxHeartbeats 4000000 in
set_option maxRecDepth 100000 in
theorem s_X12_costs {B : Nat × Nat} {T : Nat} {Z : jZ} {I : jI} {L : jL} (w_I : WD Z I) (bd_Z : BUD B Z T) (v0 : Nat) (v1 : Int32) (v2 : Int32) (kv0 : jk Z v0 12) {Q : Int32 → jZ → jI → jL → Prop} (hQ : ∀ (r : Int32) (Z' : jZ) (I' : jI) (L' : jL), WD Z' I' → BUD B Z' T → FR Ws_X12_costs Z I Z' I' → CP Z Z' → Q r Z' I' L') : f_X12_costs B v0 v1 v2 Z I L Q := by
  unfold f_X12_costs
  have q_I : FR Ws_X12_costs Z I Z I := FR.rf
  have cp_Z : CP Z Z := CP.rf
  have rv1 := i_rng v1
  have rv2 := i_rng v2
  intro I1 eI1
  have t2 : (0 : Int32).toInt = 0 := rfl
  have w_I1 : WD Z I1 := by rw [eI1]; exact WD_putF w_I 12 22 kv0 (by decide) (by decide) trivial
  have f_I1 : FR [(12, 22)] Z I Z I1 := by rw [eI1]; exact FR_putF kv0 (by decide) List.mem_cons_self
  have q_I1 : FR Ws_X12_costs Z I Z I1 := q_I.trans w_I.1 w_I.2.1 (f_I1.mono (by decide))
  first | (have u3 : (I1 v0 22).toInt = (0) := by (rw [eI1, show jpI I v0 22 (0 : Int32) v0 22 = (0 : Int32) from jpI_at] <;> exact (show (0 : Int32).toInt = 0 from rfl))) | skip
  refine s_X12_isOne w_I1 v0 v1 kv0   (fun r4 p5 => ?_)
  have rr4 := i_rng r4
  refine ⟨fun c6 => ?_, fun c6 => ?_⟩
  · skip
    first | (have t7 : r4.toInt = (0) := (i_eq rfl (show (0 : Int32).toInt = 0 from rfl)).mp c6) | (have t7 : r4.toInt = (0 : Int32).toInt := (i_eq rfl rfl).mp c6) | skip
    have t8 : (-1 : Int32).toInt = -1 := rfl
    exact hQ (-1 : Int32) Z I1 L w_I1 bd_Z q_I1 cp_Z 
  · skip
    first | (have t9 : ¬ (r4.toInt = (0)) := (not_congr (i_eq rfl (show (0 : Int32).toInt = 0 from rfl))).mp c6) | (have t9 : ¬ (r4.toInt = (0 : Int32).toInt) := (not_congr (i_eq rfl rfl)).mp c6) | skip
    refine s_X12_isStep w_I1 v0 v2 kv0   (fun r10 p11 => ?_)
    have rr10 := i_rng r10
    refine ⟨fun c12 => ?_, fun c12 => ?_⟩
    · skip
      first | (have t13 : ¬ (r10.toInt = (0)) := (not_congr (i_eq rfl (show (0 : Int32).toInt = 0 from rfl))).mp c12) | (have t13 : ¬ (r10.toInt = (0 : Int32).toInt) := (not_congr (i_eq rfl rfl)).mp c12) | skip
      intro b14 eb14
      obtain ⟨x15, ex15, kb14, lb14⟩ := sh_f w_I1.1 kv0 (j := 14) (k := 14) (m := 6) rfl
      cases eb14.symm.trans ex15
      have o16 : vp_in v1 6 := vi_of rfl (by omega) (by omega)
      refine ⟨o16, ?_⟩
      have t17 : -1 ≤ (I1 b14 v1.toNatClampNeg).toInt ∧ (I1 b14 v1.toNatClampNeg).toInt ≤ 23 := w_I1.arr 12 14 kv0 eb14 kb14 rfl rfl _
      refine s_X12_isMove w_I1 v0 v1 (I1 b14 v1.toNatClampNeg) v2 kv0  (by omega) (fun r18 p19 => ?_)
      have rr18 := i_rng r18
      refine ⟨fun c20 => ?_, fun c20 => ?_⟩
      · skip
        first | (have t21 : ¬ (r18.toInt = (0)) := (not_congr (i_eq rfl (show (0 : Int32).toInt = 0 from rfl))).mp c20) | (have t21 : ¬ (r18.toInt = (0 : Int32).toInt) := (not_congr (i_eq rfl rfl)).mp c20) | skip
        intro I22 eI22
        have t23 : (0 : Int32).toInt = 0 := rfl
        have w_I22 : WD Z I22 := by rw [eI22]; exact WD_putF w_I1 12 21 kv0 (by decide) (by decide) (by constructor <;> omega)
        have f_I22 : FR [(12, 21)] Z I1 Z I22 := by rw [eI22]; exact FR_putF kv0 (by decide) List.mem_cons_self
        have q_I22 : FR Ws_X12_costs Z I Z I22 := q_I1.trans w_I.1 w_I.2.1 (f_I22.mono (by decide))
        have u24 : (I22 b14 (v1.toNatClampNeg)).toInt = (I1 b14 (v1.toNatClampNeg)).toInt := by rw [f_I22.2.2.2 v0 12 14 b14 kv0 eb14 (by rw [kb14.2]; rfl) rfl (by decide)]
        have u25 : (I22 v0 22).toInt = (I1 v0 22).toInt := by rw [f_I22.2.2.1 v0 12 22 kv0 (by decide) (by decide)]
        first | (have u26 : (I22 v0 21).toInt = (0) := by (rw [eI22, show jpI I1 v0 21 (0 : Int32) v0 21 = (0 : Int32) from jpI_at] <;> exact (show (0 : Int32).toInt = 0 from rfl))) | skip
        intro b27 eb27
        obtain rfl : b14 = b27 := Option.some.inj (eb14.symm.trans eb27)
        have o28 : vp_in v1 6 := vi_of rfl (by omega) (by omega)
        refine ⟨o28, ?_⟩
        have t29 : -1 ≤ (I22 b14 v1.toNatClampNeg).toInt ∧ (I22 b14 v1.toNatClampNeg).toInt ≤ 23 := w_I22.arr 12 14 kv0 eb14 kb14 rfl rfl _
        refine s_X12_effortOf w_I22 v0 v1 (I22 b14 v1.toNatClampNeg) v2 kv0  (by omega) (fun r30 p31 => ?_)
        have rr30 := i_rng r30
        refine s_X12_tell w_I22 v0 (r30.toInt64) kv0  (by omega) (fun  I33 L34 w_I33 f_I33 p32 => ?_)
        have q_I33 : FR Ws_X12_costs Z I Z I33 := q_I22.trans w_I.1 w_I.2.1 (f_I33.mono (by decide))
        have u35 : (I33 b14 (v1.toNatClampNeg)).toInt = (I22 b14 (v1.toNatClampNeg)).toInt := by rw [f_I33.2.2.2 v0 12 14 b14 kv0 eb14 (by rw [kb14.2]; rfl) rfl (by decide)]
        have u36 : (I33 v0 22).toInt = (I22 v0 22).toInt := by rw [f_I33.2.2.1 v0 12 22 kv0 (by decide) (by decide)]
        intro b37 eb37
        obtain rfl : b14 = b37 := Option.some.inj (eb14.symm.trans eb37)
        have o38 : vp_in v1 6 := vi_of rfl (by omega) (by omega)
        refine ⟨o38, ?_⟩
        have t39 : -1 ≤ (I33 b14 v1.toNatClampNeg).toInt ∧ (I33 b14 v1.toNatClampNeg).toInt ≤ 23 := w_I33.arr 12 14 kv0 eb14 kb14 rfl rfl _
        refine s_X12_tell w_I33 v0 (((v2 - (I33 b14 v1.toNatClampNeg)) - (1 : Int32)).toInt64) kv0  (by omega) (fun  I41 L42 w_I41 f_I41 p40 => ?_)
        have q_I41 : FR Ws_X12_costs Z I Z I41 := q_I33.trans w_I.1 w_I.2.1 (f_I41.mono (by decide))
        have u43 : (I41 b14 (v1.toNatClampNeg)).toInt = (I33 b14 (v1.toNatClampNeg)).toInt := by rw [f_I41.2.2.2 v0 12 14 b14 kv0 eb14 (by rw [kb14.2]; rfl) rfl (by decide)]
        have u44 : (I41 v0 22).toInt = (I33 v0 22).toInt := by rw [f_I41.2.2.1 v0 12 22 kv0 (by decide) (by decide)]
        intro b45 eb45
        obtain rfl : b14 = b45 := Option.some.inj (eb14.symm.trans eb45)
        have o46 : vp_in v1 6 := vi_of rfl (by omega) (by omega)
        refine ⟨o46, ?_⟩
        have t47 : -1 ≤ (I41 b14 v1.toNatClampNeg).toInt ∧ (I41 b14 v1.toNatClampNeg).toInt ≤ 23 := w_I41.arr 12 14 kv0 eb14 kb14 rfl rfl _
        refine s_X12_costOf w_I41 bd_Z v0 v1 (I41 b14 v1.toNatClampNeg) v2 kv0  (by omega) (fun r48 Z52 I50 L51 w_I50 bd_Z52 f_I50 c_Z52 p49 => ?_)
        have q_I50 : FR Ws_X12_costs Z I Z52 I50 := q_I41.trans w_I.1 w_I.2.1 (f_I50.mono (by decide))
        have cp_Z52 : CP Z Z52 := cp_Z.trans q_I41.1 c_Z52
        have x_Z52 := f_I50.1
        have k53 := (f_I50.1 _ _ kv0).1
        have k54 := (f_I50.1 _ _ kb14).1
        have l55 := (f_I50.1 _ _ kb14).2.trans lb14
        have k56 := (f_I50.1 _ _ kv0).1
        have e57 := (f_I50.2.1 v0 12 14 kv0 (by decide) (by decide)).trans eb14
        have u58 : (I50 b14 (v1.toNatClampNeg)).toInt = (I41 b14 (v1.toNatClampNeg)).toInt := by rw [f_I50.2.2.2 v0 12 14 b14 kv0 eb14 (by rw [kb14.2]; rfl) rfl (by decide)]
        have u59 : (I50 v0 22).toInt = (I41 v0 22).toInt := by rw [f_I50.2.2.1 v0 12 22 kv0 (by decide) (by decide)]
        have rr48 := i_rng r48
        exact hQ r48 Z52 I50 L51 w_I50 bd_Z52 q_I50 cp_Z52 
      · skip
        first | (have t60 : r18.toInt = (0) := (i_eq rfl (show (0 : Int32).toInt = 0 from rfl)).mp c20) | (have t60 : r18.toInt = (0 : Int32).toInt := (i_eq rfl rfl).mp c20) | skip
        have t61 : (-2 : Int32).toInt = -2 := rfl
        exact hQ (-2 : Int32) Z I1 L w_I1 bd_Z q_I1 cp_Z 
    · skip
      first | (have t62 : r10.toInt = (0) := (i_eq rfl (show (0 : Int32).toInt = 0 from rfl)).mp c12) | (have t62 : r10.toInt = (0 : Int32).toInt := (i_eq rfl rfl).mp c12) | skip
      have t63 : (-1 : Int32).toInt = -1 := rfl
      exact hQ (-1 : Int32) Z I1 L w_I1 bd_Z q_I1 cp_Z 
def Ws_X12_tread : List (Nat × Nat) := [(12, 14), (12, 15), (12, 16), (12, 17), (12, 22), (12, 24), (12, 25), (12, 26), (12, 27), (12, 31), (12, 32), (12, 33), (12, 34), (12, 35)]
set_option maxHeartbeats 4000000 in
set_option maxRecDepth 100000 in
theorem l_X12_tread_L121 {B : Nat × Nat} {T : Nat} {Z0 : jZ} {I0 : jI} {Q : Int32 → jZ → jI → jL → Prop} (w0 : WD Z0 I0) (v0 : Nat) (v1 : Int32) (v2 : Int32) (kv0 : jk Z0 v0 12) (v3 : Int32) (v4 : Int32) (v5 : Int32) (v6 : Int32) (hQ : ∀ (r : Int32) (Z' : jZ) (I' : jI) (L' : jL), WD Z' I' → BUD B Z' T → FR Ws_X12_tread Z0 I0 Z' I' → CP Z0 Z' → Q r Z' I' L') : ∀ (n : Nat) (v7 : Int32) (Z : jZ) (I : jI) (L : jL), WD Z I → BUD B Z T → FR Ws_X12_tread Z0 I0 Z I → CP Z0 Z →   (0 ≤ v1.toInt ∧ v1.toInt ≤ 5 ∧ -1 ≤ v3.toInt ∧ v3.toInt < v7.toInt ∧ v7.toInt ≤ v2.toInt + 1 ∧ v2.toInt ≤ 23) → v2.toInt + 1 - v7.toInt < (n : Int) → f_X12_tread_L121 B  Q n v0 v1 v2 v3 v4 v5 v6 v7 Z I L := by
  intro n
  induction n with
  | zero =>
    intro v7 Z I L w_I bd_Z q_I cp_Z   li  me
    exfalso
    omega
  | succ n ih =>
    intro v7 Z I L w_I bd_Z q_I cp_Z   li  me
    unfold f_X12_tread_L121
    have rv7 := i_rng v7
    have rv3 := i_rng v3
    have rv4 := i_rng v4
    have rv5 := i_rng v5
    have rv6 := i_rng v6
    have rv1 := i_rng v1
    have rv2 := i_rng v2
    have kv0_0 := kv0
    have kv0 := (q_I.1 _ _ kv0).1
    have xq_I := q_I.1
    refine ⟨fun c1 => ?_, fun c1 => ?_⟩
    · skip
      first | (have t2 : v2.toInt < v7.toInt := (i_lt rfl rfl).mp c1) | (have t2 : v2.toInt < v7.toInt := (i_lt rfl rfl).mp c1) | skip
      intro b3 eb3
      obtain ⟨x4, ex4, kb3, lb3⟩ := sh_f w_I.1 kv0 (j := 15) (k := 14) (m := 6) rfl
      cases eb3.symm.trans ex4
      have o5 : vp_in v1 6 := vi_of rfl (by omega) (by omega)
      refine ⟨o5, ?_⟩
      have o6 : vp_in v1 6 := vi_of rfl (by omega) (by omega)
      refine ⟨o6, ?_⟩
      intro I7 eI7
      try (have t8 : ((I b3 v1.toNatClampNeg) - v4).toInt = ((I b3 v1.toNatClampNeg).toInt - v4.toInt) := (i_sub rfl rfl (by omega) (by omega)))
      have w_I7 : WD Z I7 := by rw [eI7]; exact WD_putA w_I 12 15 kv0 eb3 kb3 rfl rfl (by decide) trivial
      have f_I7 : FR [(12, 15)] Z I Z I7 := by rw [eI7]; exact FR_upA w_I.2.1 kv0 eb3 kb3 rfl rfl List.mem_cons_self
      have q_I7 : FR Ws_X12_tread Z0 I0 Z I7 := q_I.trans w0.1 w0.2.1 (f_I7.mono (by decide))
      intro b9 eb9
      obtain ⟨x10, ex10, kb9, lb9⟩ := sh_f w_I7.1 kv0 (j := 16) (k := 14) (m := 6) rfl
      cases eb9.symm.trans ex10
      have o11 : vp_in v1 6 := vi_of rfl (by omega) (by omega)
      refine ⟨o11, ?_⟩
      have o12 : vp_in v1 6 := vi_of rfl (by omega) (by omega)
      refine ⟨o12, ?_⟩
      intro I13 eI13
      try (have t14 : ((I7 b9 v1.toNatClampNeg) - v5).toInt = ((I7 b9 v1.toNatClampNeg).toInt - v5.toInt) := (i_sub rfl rfl (by omega) (by omega)))
      have w_I13 : WD Z I13 := by rw [eI13]; exact WD_putA w_I7 12 16 kv0 eb9 kb9 rfl rfl (by decide) trivial
      have f_I13 : FR [(12, 16)] Z I7 Z I13 := by rw [eI13]; exact FR_upA w_I7.2.1 kv0 eb9 kb9 rfl rfl List.mem_cons_self
      have q_I13 : FR Ws_X12_tread Z0 I0 Z I13 := q_I7.trans w0.1 w0.2.1 (f_I13.mono (by decide))
      intro b15 eb15
      obtain ⟨x16, ex16, kb15, lb15⟩ := sh_f w_I13.1 kv0 (j := 14) (k := 14) (m := 6) rfl
      cases eb15.symm.trans ex16
      have o17 : vp_in v1 6 := vi_of rfl (by omega) (by omega)
      refine ⟨o17, ?_⟩
      intro I18 eI18
      have w_I18 : WD Z I18 := by rw [eI18]; exact WD_putA w_I13 12 14 kv0 eb15 kb15 rfl rfl (by decide) (by constructor <;> omega)
      have f_I18 : FR [(12, 14)] Z I13 Z I18 := by rw [eI18]; exact FR_upA w_I13.2.1 kv0 eb15 kb15 rfl rfl List.mem_cons_self
      have q_I18 : FR Ws_X12_tread Z0 I0 Z I18 := q_I13.trans w0.1 w0.2.1 (f_I18.mono (by decide))
      exact hQ v5 Z I18 L w_I18 bd_Z q_I18 cp_Z 
    · skip
      first | (have t19 : ¬ (v2.toInt < v7.toInt) := (not_congr (i_lt rfl rfl)).mp c1) | (have t19 : ¬ (v2.toInt < v7.toInt) := (not_congr (i_lt rfl rfl)).mp c1) | skip
      refine ⟨fun c20 => ?_, fun c20 => ?_⟩
      · skip
        first | (have t21 : ¬ (v7.toInt = v2.toInt) := (not_congr (i_eq rfl rfl)).mp c20) | (have t21 : ¬ (v7.toInt = v2.toInt) := (not_congr (i_eq rfl rfl)).mp c20) | skip
        unfold f_X12_tread_b142
        intro b22 eb22
        obtain ⟨x23, ex23, kb22, lb22⟩ := sh_f w_I.1 kv0 (j := 12) (k := 14) (m := 6) rfl
        cases eb22.symm.trans ex23
        have o24 : vp_in v1 6 := vi_of rfl (by omega) (by omega)
        refine ⟨o24, ?_⟩
        have t25 : 0 ≤ (I b22 v1.toNatClampNeg).toInt ∧ (I b22 v1.toNatClampNeg).toInt ≤ 50 := w_I.arr 12 12 kv0 eb22 kb22 rfl rfl _
        have t26 : (1 : Int32).toInt = 1 := rfl
        refine s_X12_lawOf w_I bd_Z v0 (1 : Int32) v7 v3 (I b22 v1.toNatClampNeg) v6 kv0  (by omega) (fun r27 Z31 I29 L30 w_I29 bd_Z31 f_I29 c_Z31 p28 => ?_)
        have q_I29 : FR Ws_X12_tread Z0 I0 Z31 I29 := q_I.trans w0.1 w0.2.1 (f_I29.mono (by decide))
        have cp_Z31 : CP Z0 Z31 := cp_Z.trans q_I.1 c_Z31
        have x_Z31 := f_I29.1
        have k32 := (f_I29.1 _ _ kv0).1
        have k33 := (f_I29.1 _ _ kb22).1
        have l34 := (f_I29.1 _ _ kb22).2.trans lb22
        have k35 := (f_I29.1 _ _ kv0).1
        have e36 := (f_I29.2.1 v0 12 12 kv0 (by decide) (by decide)).trans eb22
        have rr27 := i_rng r27
        have t37 : (1 : Int32).toInt = 1 := rfl
        refine s_X12_earn w_I29 v0 v7 r27 (1 : Int32) k32  (by omega) (fun  I38 L39 w_I38 f_I38  => ?_)
        have q_I38 : FR Ws_X12_tread Z0 I0 Z31 I38 := q_I29.trans w0.1 w0.2.1 (f_I38.mono (by decide))
        intro x40 ex40
        have rx40 := i_rng x40
        first | (have tx40 : x40.toInt = v7.toInt + (1) := by (rw [ex40]; exact (i_add rfl (show (1 : Int32).toInt = 1 from rfl) (by omega) (by omega)))) | skip
        exact ih x40 Z31 I38 L39 w_I38 bd_Z31 q_I38 cp_Z31   (by omega)  (by omega)
      · skip
        first | (have t41 : v7.toInt = v2.toInt := (i_eq rfl rfl).mp c20) | (have t41 : v7.toInt = v2.toInt := (i_eq rfl rfl).mp c20) | skip
        unfold f_X12_tread_b142
        intro b42 eb42
        obtain ⟨x43, ex43, kb42, lb42⟩ := sh_f w_I.1 kv0 (j := 12) (k := 14) (m := 6) rfl
        cases eb42.symm.trans ex43
        have o44 : vp_in v1 6 := vi_of rfl (by omega) (by omega)
        refine ⟨o44, ?_⟩
        have t45 : 0 ≤ (I b42 v1.toNatClampNeg).toInt ∧ (I b42 v1.toNatClampNeg).toInt ≤ 50 := w_I.arr 12 12 kv0 eb42 kb42 rfl rfl _
        have t46 : (0 : Int32).toInt = 0 := rfl
        refine s_X12_lawOf w_I bd_Z v0 (0 : Int32) v7 v3 (I b42 v1.toNatClampNeg) v6 kv0  (by omega) (fun r47 Z51 I49 L50 w_I49 bd_Z51 f_I49 c_Z51 p48 => ?_)
        have q_I49 : FR Ws_X12_tread Z0 I0 Z51 I49 := q_I.trans w0.1 w0.2.1 (f_I49.mono (by decide))
        have cp_Z51 : CP Z0 Z51 := cp_Z.trans q_I.1 c_Z51
        have x_Z51 := f_I49.1
        have k52 := (f_I49.1 _ _ kv0).1
        have k53 := (f_I49.1 _ _ kb42).1
        have l54 := (f_I49.1 _ _ kb42).2.trans lb42
        have k55 := (f_I49.1 _ _ kv0).1
        have e56 := (f_I49.2.1 v0 12 12 kv0 (by decide) (by decide)).trans eb42
        have rr47 := i_rng r47
        have t57 : (1 : Int32).toInt = 1 := rfl
        refine s_X12_earn w_I49 v0 v7 r47 (1 : Int32) k52  (by omega) (fun  I58 L59 w_I58 f_I58  => ?_)
        have q_I58 : FR Ws_X12_tread Z0 I0 Z51 I58 := q_I49.trans w0.1 w0.2.1 (f_I58.mono (by decide))
        intro x60 ex60
        have rx60 := i_rng x60
        first | (have tx60 : x60.toInt = v7.toInt + (1) := by (rw [ex60]; exact (i_add rfl (show (1 : Int32).toInt = 1 from rfl) (by omega) (by omega)))) | skip
        exact ih x60 Z51 I58 L59 w_I58 bd_Z51 q_I58 cp_Z51   (by omega)  (by omega)
set_option maxHeartbeats 4000000 in
set_option maxRecDepth 100000 in
theorem s_X12_tread {B : Nat × Nat} {T : Nat} {Z : jZ} {I : jI} {L : jL} (w_I : WD Z I) (bd_Z : BUD B Z T) (v0 : Nat) (v1 : Int32) (v2 : Int32) (kv0 : jk Z v0 12) {Q : Int32 → jZ → jI → jL → Prop} (hQ : ∀ (r : Int32) (Z' : jZ) (I' : jI) (L' : jL), WD Z' I' → BUD B Z' T → FR Ws_X12_tread Z I Z' I' → CP Z Z' → Q r Z' I' L') : f_X12_tread B v0 v1 v2 Z I L Q := by
  unfold f_X12_tread
  have q_I : FR Ws_X12_tread Z I Z I := FR.rf
  have cp_Z : CP Z Z := CP.rf
  have rv1 := i_rng v1
  have rv2 := i_rng v2
  intro I61 eI61
  have t62 : (0 : Int32).toInt = 0 := rfl
  have w_I61 : WD Z I61 := by rw [eI61]; exact WD_putF w_I 12 22 kv0 (by decide) (by decide) trivial
  have f_I61 : FR [(12, 22)] Z I Z I61 := by rw [eI61]; exact FR_putF kv0 (by decide) List.mem_cons_self
  have q_I61 : FR Ws_X12_tread Z I Z I61 := q_I.trans w_I.1 w_I.2.1 (f_I61.mono (by decide))
  first | (have u63 : (I61 v0 22).toInt = (0) := by (rw [eI61, show jpI I v0 22 (0 : Int32) v0 22 = (0 : Int32) from jpI_at] <;> exact (show (0 : Int32).toInt = 0 from rfl))) | skip
  refine s_X12_isOne w_I61 v0 v1 kv0   (fun r64 p65 => ?_)
  have rr64 := i_rng r64
  refine ⟨fun c66 => ?_, fun c66 => ?_⟩
  · skip
    first | (have t67 : r64.toInt = (0) := (i_eq rfl (show (0 : Int32).toInt = 0 from rfl)).mp c66) | (have t67 : r64.toInt = (0 : Int32).toInt := (i_eq rfl rfl).mp c66) | skip
    have t68 : (-1 : Int32).toInt = -1 := rfl
    exact hQ (-1 : Int32) Z I61 L w_I61 bd_Z q_I61 cp_Z 
  · skip
    first | (have t69 : ¬ (r64.toInt = (0)) := (not_congr (i_eq rfl (show (0 : Int32).toInt = 0 from rfl))).mp c66) | (have t69 : ¬ (r64.toInt = (0 : Int32).toInt) := (not_congr (i_eq rfl rfl)).mp c66) | skip
    refine s_X12_isStep w_I61 v0 v2 kv0   (fun r70 p71 => ?_)
    have rr70 := i_rng r70
    refine ⟨fun c72 => ?_, fun c72 => ?_⟩
    · skip
      first | (have t73 : ¬ (r70.toInt = (0)) := (not_congr (i_eq rfl (show (0 : Int32).toInt = 0 from rfl))).mp c72) | (have t73 : ¬ (r70.toInt = (0 : Int32).toInt) := (not_congr (i_eq rfl rfl)).mp c72) | skip
      intro b74 eb74
      obtain ⟨x75, ex75, kb74, lb74⟩ := sh_f w_I61.1 kv0 (j := 14) (k := 14) (m := 6) rfl
      cases eb74.symm.trans ex75
      have o76 : vp_in v1 6 := vi_of rfl (by omega) (by omega)
      refine ⟨o76, ?_⟩
      have t77 : -1 ≤ (I61 b74 v1.toNatClampNeg).toInt ∧ (I61 b74 v1.toNatClampNeg).toInt ≤ 23 := w_I61.arr 12 14 kv0 eb74 kb74 rfl rfl _
      intro x78 ex78
      have rx78 := i_rng x78
      first | (have tx78 : x78.toInt = (I61 b74 v1.toNatClampNeg).toInt := by (rw [ex78]; exact rfl)) | (have tx78 : x78.toInt = (I61 b74 v1.toNatClampNeg).toInt := by rw [ex78])
      refine s_X12_isMove w_I61 v0 v1 x78 v2 kv0  (by omega) (fun r79 p80 => ?_)
      have rr79 := i_rng r79
      refine ⟨fun c81 => ?_, fun c81 => ?_⟩
      · skip
        first | (have t82 : ¬ (r79.toInt = (0)) := (not_congr (i_eq rfl (show (0 : Int32).toInt = 0 from rfl))).mp c81) | (have t82 : ¬ (r79.toInt = (0 : Int32).toInt) := (not_congr (i_eq rfl rfl)).mp c81) | skip
        refine s_X12_effortOf w_I61 v0 v1 x78 v2 kv0  (by omega) (fun r83 p84 => ?_)
        have rr83 := i_rng r83
        refine s_X12_costOf w_I61 bd_Z v0 v1 x78 v2 kv0  (by omega) (fun r85 Z89 I87 L88 w_I87 bd_Z89 f_I87 c_Z89 p86 => ?_)
        have q_I87 : FR Ws_X12_tread Z I Z89 I87 := q_I61.trans w_I.1 w_I.2.1 (f_I87.mono (by decide))
        have cp_Z89 : CP Z Z89 := cp_Z.trans q_I61.1 c_Z89
        have x_Z89 := f_I87.1
        have k90 := (f_I87.1 _ _ kv0).1
        have k91 := (f_I87.1 _ _ kb74).1
        have l92 := (f_I87.1 _ _ kb74).2.trans lb74
        have k93 := (f_I87.1 _ _ kv0).1
        have e94 := (f_I87.2.1 v0 12 14 kv0 (by decide) (by decide)).trans eb74
        have u95 : (I87 v0 22).toInt = (I61 v0 22).toInt := by rw [f_I87.2.2.1 v0 12 22 kv0 (by decide) (by decide)]
        have rr85 := i_rng r85
        intro b96 eb96
        obtain ⟨x97, ex97, kb96, lb96⟩ := sh_f w_I87.1 k90 (j := 13) (k := 14) (m := 6) rfl
        cases eb96.symm.trans ex97
        have o98 : vp_in v1 6 := vi_of rfl (by omega) (by omega)
        refine ⟨o98, ?_⟩
        refine s_X12_mainOf w_I87 v0 v2 k90  (by omega) (fun r99 p100 => ?_)
        have rr99 := i_rng r99
        refine s_X12_has w_I87 (I87 b96 v1.toNatClampNeg) r99    (fun r101  => ?_)
        have rr101 := i_rng r101
        refine ⟨fun c102 => ?_, fun c102 => ?_⟩
        · skip
          first | (have t103 : r101.toInt = (0) := (i_eq rfl (show (0 : Int32).toInt = 0 from rfl)).mp c102) | (have t103 : r101.toInt = (0 : Int32).toInt := (i_eq rfl rfl).mp c102) | skip
          intro b104 eb104
          obtain ⟨x105, ex105, kb104, lb104⟩ := sh_f w_I87.1 k90 (j := 15) (k := 14) (m := 6) rfl
          cases eb104.symm.trans ex105
          have o106 : vp_in v1 6 := vi_of rfl (by omega) (by omega)
          refine ⟨o106, ?_⟩
          refine ⟨fun c107 => ?_, fun c107 => ?_⟩
          · skip
            first | (have t108 : r83.toInt ≤ (I87 b104 v1.toNatClampNeg).toInt := (i_le rfl rfl).mp c107) | (have t108 : r83.toInt ≤ (I87 b104 v1.toNatClampNeg).toInt := (i_le rfl rfl).mp c107) | skip
            intro b109 eb109
            obtain ⟨x110, ex110, kb109, lb109⟩ := sh_f w_I87.1 k90 (j := 16) (k := 14) (m := 6) rfl
            cases eb109.symm.trans ex110
            have o111 : vp_in v1 6 := vi_of rfl (by omega) (by omega)
            refine ⟨o111, ?_⟩
            refine ⟨fun c112 => ?_, fun c112 => ?_⟩
            · skip
              first | (have t113 : r85.toInt ≤ (I87 b109 v1.toNatClampNeg).toInt := (i_le rfl rfl).mp c112) | (have t113 : r85.toInt ≤ (I87 b109 v1.toNatClampNeg).toInt := (i_le rfl rfl).mp c112) | skip
              intro x114 ex114
              have rx114 := i_rng x114
              first | (have tx114 : x114.toInt = ((v2.toInt - x78.toInt) - (1)) := by (rw [ex114]; exact (i_sub (i_sub rfl rfl (by omega) (by omega)) (show (1 : Int32).toInt = 1 from rfl) (by omega) (by omega)))) | (have tx114 : x114.toInt = ((v2 - x78) - (1 : Int32)).toInt := by rw [ex114])
              intro x115 ex115
              have rx115 := i_rng x115
              first | (have tx115 : x115.toInt = (x78.toInt + (1)) := by (rw [ex115]; exact (i_add rfl (show (1 : Int32).toInt = 1 from rfl) (by omega) (by omega)))) | (have tx115 : x115.toInt = (x78 + (1 : Int32)).toInt := by rw [ex115])
              exact ⟨(v2.toInt + 1 - x115.toInt).toNat + 1, l_X12_tread_L121 w_I v0 v1 v2 kv0 x78 r83 r85 x114  hQ   _ x115 Z89 I87 L88 w_I87 bd_Z89 q_I87 cp_Z89   (by omega)  (by omega)⟩
            · skip
              first | (have t116 : ¬ (r85.toInt ≤ (I87 b109 v1.toNatClampNeg).toInt) := (not_congr (i_le rfl rfl)).mp c112) | (have t116 : ¬ (r85.toInt ≤ (I87 b109 v1.toNatClampNeg).toInt) := (not_congr (i_le rfl rfl)).mp c112) | skip
              have t117 : (-5 : Int32).toInt = -5 := rfl
              exact hQ (-5 : Int32) Z89 I87 L88 w_I87 bd_Z89 q_I87 cp_Z89 
          · skip
            first | (have t118 : ¬ (r83.toInt ≤ (I87 b104 v1.toNatClampNeg).toInt) := (not_congr (i_le rfl rfl)).mp c107) | (have t118 : ¬ (r83.toInt ≤ (I87 b104 v1.toNatClampNeg).toInt) := (not_congr (i_le rfl rfl)).mp c107) | skip
            have t119 : (-4 : Int32).toInt = -4 := rfl
            exact hQ (-4 : Int32) Z89 I87 L88 w_I87 bd_Z89 q_I87 cp_Z89 
        · skip
          first | (have t120 : ¬ (r101.toInt = (0)) := (not_congr (i_eq rfl (show (0 : Int32).toInt = 0 from rfl))).mp c102) | (have t120 : ¬ (r101.toInt = (0 : Int32).toInt) := (not_congr (i_eq rfl rfl)).mp c102) | skip
          have t121 : (-3 : Int32).toInt = -3 := rfl
          exact hQ (-3 : Int32) Z89 I87 L88 w_I87 bd_Z89 q_I87 cp_Z89 
      · skip
        first | (have t122 : r79.toInt = (0) := (i_eq rfl (show (0 : Int32).toInt = 0 from rfl)).mp c81) | (have t122 : r79.toInt = (0 : Int32).toInt := (i_eq rfl rfl).mp c81) | skip
        have t123 : (-2 : Int32).toInt = -2 := rfl
        exact hQ (-2 : Int32) Z I61 L w_I61 bd_Z q_I61 cp_Z 
    · skip
      first | (have t124 : r70.toInt = (0) := (i_eq rfl (show (0 : Int32).toInt = 0 from rfl)).mp c72) | (have t124 : r70.toInt = (0 : Int32).toInt := (i_eq rfl rfl).mp c72) | skip
      have t125 : (-1 : Int32).toInt = -1 := rfl
      exact hQ (-1 : Int32) Z I61 L w_I61 bd_Z q_I61 cp_Z 
def Ws_X12_rests : List (Nat × Nat) := [(12, 15), (12, 16), (12, 17), (12, 22), (12, 24), (12, 25), (12, 26), (12, 27), (12, 31), (12, 32), (12, 33), (12, 34), (12, 35)]
set_option maxHeartbeats 4000000 in
set_option maxRecDepth 100000 in
theorem s_X12_rests {B : Nat × Nat} {T : Nat} {Z : jZ} {I : jI} {L : jL} (w_I : WD Z I) (bd_Z : BUD B Z T) (v0 : Nat) (v1 : Int32) (v2 : Int32) (kv0 : jk Z v0 12) {Q : Int32 → jZ → jI → jL → Prop} (hQ : ∀ (r : Int32) (Z' : jZ) (I' : jI) (L' : jL), WD Z' I' → BUD B Z' T → FR Ws_X12_rests Z I Z' I' → CP Z Z' → Q r Z' I' L') : f_X12_rests B v0 v1 v2 Z I L Q := by
  unfold f_X12_rests
  have q_I : FR Ws_X12_rests Z I Z I := FR.rf
  have cp_Z : CP Z Z := CP.rf
  have rv1 := i_rng v1
  have rv2 := i_rng v2
  intro I1 eI1
  have t2 : (0 : Int32).toInt = 0 := rfl
  have w_I1 : WD Z I1 := by rw [eI1]; exact WD_putF w_I 12 22 kv0 (by decide) (by decide) trivial
  have f_I1 : FR [(12, 22)] Z I Z I1 := by rw [eI1]; exact FR_putF kv0 (by decide) List.mem_cons_self
  have q_I1 : FR Ws_X12_rests Z I Z I1 := q_I.trans w_I.1 w_I.2.1 (f_I1.mono (by decide))
  first | (have u3 : (I1 v0 22).toInt = (0) := by (rw [eI1, show jpI I v0 22 (0 : Int32) v0 22 = (0 : Int32) from jpI_at] <;> exact (show (0 : Int32).toInt = 0 from rfl))) | skip
  refine s_X12_isOne w_I1 v0 v1 kv0   (fun r4 p5 => ?_)
  have rr4 := i_rng r4
  refine ⟨fun c6 => ?_, fun c6 => ?_⟩
  · skip
    first | (have t7 : r4.toInt = (0) := (i_eq rfl (show (0 : Int32).toInt = 0 from rfl)).mp c6) | (have t7 : r4.toInt = (0 : Int32).toInt := (i_eq rfl rfl).mp c6) | skip
    have t8 : (-1 : Int32).toInt = -1 := rfl
    exact hQ (-1 : Int32) Z I1 L w_I1 bd_Z q_I1 cp_Z 
  · skip
    first | (have t9 : ¬ (r4.toInt = (0)) := (not_congr (i_eq rfl (show (0 : Int32).toInt = 0 from rfl))).mp c6) | (have t9 : ¬ (r4.toInt = (0 : Int32).toInt) := (not_congr (i_eq rfl rfl)).mp c6) | skip
    have t10 : (1 : Int32).toInt = 1 := rfl
    have t11 : (30 : Int32).toInt = 30 := rfl
    refine s_X12_in w_I1 v2 (1 : Int32) (30 : Int32)    (fun r12 p13 => ?_)
    have rr12 := i_rng r12
    refine ⟨fun c14 => ?_, fun c14 => ?_⟩
    · skip
      first | (have t15 : ¬ (r12.toInt = (0)) := (not_congr (i_eq rfl (show (0 : Int32).toInt = 0 from rfl))).mp c14) | (have t15 : ¬ (r12.toInt = (0 : Int32).toInt) := (not_congr (i_eq rfl rfl)).mp c14) | skip
      intro b16 eb16
      obtain ⟨x17, ex17, kb16, lb16⟩ := sh_f w_I1.1 kv0 (j := 14) (k := 14) (m := 6) rfl
      cases eb16.symm.trans ex17
      have o18 : vp_in v1 6 := vi_of rfl (by omega) (by omega)
      refine ⟨o18, ?_⟩
      have t19 : -1 ≤ (I1 b16 v1.toNatClampNeg).toInt ∧ (I1 b16 v1.toNatClampNeg).toInt ≤ 23 := w_I1.arr 12 14 kv0 eb16 kb16 rfl rfl _
      intro x20 ex20
      have rx20 := i_rng x20
      first | (have tx20 : x20.toInt = (I1 b16 v1.toNatClampNeg).toInt := by (rw [ex20]; exact rfl)) | (have tx20 : x20.toInt = (I1 b16 v1.toNatClampNeg).toInt := by rw [ex20])
      refine ⟨fun c21 => ?_, fun c21 => ?_⟩
      · skip
        first | (have t22 : ¬ (x20.toInt = (-1)) := (not_congr (i_eq rfl (show (-1 : Int32).toInt = -1 from rfl))).mp c21) | (have t22 : ¬ (x20.toInt = (-1 : Int32).toInt) := (not_congr (i_eq rfl rfl)).mp c21) | skip
        intro b23 eb23
        obtain ⟨x24, ex24, kb23, lb23⟩ := sh_f w_I1.1 kv0 (j := 12) (k := 14) (m := 6) rfl
        cases eb23.symm.trans ex24
        have o25 : vp_in v1 6 := vi_of rfl (by omega) (by omega)
        refine ⟨o25, ?_⟩
        have t26 : 0 ≤ (I1 b23 v1.toNatClampNeg).toInt ∧ (I1 b23 v1.toNatClampNeg).toInt ≤ 50 := w_I1.arr 12 12 kv0 eb23 kb23 rfl rfl _
        have t27 : (0 : Int32).toInt = 0 := rfl
        have t28 : (0 : Int32).toInt = 0 := rfl
        refine s_X12_lawOf w_I1 bd_Z v0 (0 : Int32) x20 x20 (I1 b23 v1.toNatClampNeg) (0 : Int32) kv0  (by omega) (fun r29 Z33 I31 L32 w_I31 bd_Z33 f_I31 c_Z33 p30 => ?_)
        have q_I31 : FR Ws_X12_rests Z I Z33 I31 := q_I1.trans w_I.1 w_I.2.1 (f_I31.mono (by decide))
        have cp_Z33 : CP Z Z33 := cp_Z.trans q_I1.1 c_Z33
        have x_Z33 := f_I31.1
        have k34 := (f_I31.1 _ _ kv0).1
        have k35 := (f_I31.1 _ _ kb16).1
        have l36 := (f_I31.1 _ _ kb16).2.trans lb16
        have k37 := (f_I31.1 _ _ kv0).1
        have e38 := (f_I31.2.1 v0 12 14 kv0 (by decide) (by decide)).trans eb16
        have k39 := (f_I31.1 _ _ kb23).1
        have l40 := (f_I31.1 _ _ kb23).2.trans lb23
        have k41 := (f_I31.1 _ _ kv0).1
        have e42 := (f_I31.2.1 v0 12 12 kv0 (by decide) (by decide)).trans eb23
        have u43 : (I31 v0 22).toInt = (I1 v0 22).toInt := by rw [f_I31.2.2.1 v0 12 22 kv0 (by decide) (by decide)]
        have rr29 := i_rng r29
        unfold f_X12_rests_b55
        intro b44 eb44
        obtain ⟨x45, ex45, kb44, lb44⟩ := sh_f w_I31.1 k34 (j := 16) (k := 14) (m := 6) rfl
        cases eb44.symm.trans ex45
        have o46 : vp_in v1 6 := vi_of rfl (by omega) (by omega)
        refine ⟨o46, ?_⟩
        refine ⟨fun c47 => ?_, fun c47 => ?_⟩
        · skip
          first | (have t48 : r29.toInt ≤ (I31 b44 v1.toNatClampNeg).toInt := (i_le rfl rfl).mp c47) | (have t48 : r29.toInt ≤ (I31 b44 v1.toNatClampNeg).toInt := (i_le rfl rfl).mp c47) | skip
          intro b49 eb49
          obtain rfl : b44 = b49 := Option.some.inj (eb44.symm.trans eb49)
          have o50 : vp_in v1 6 := vi_of rfl (by omega) (by omega)
          refine ⟨o50, ?_⟩
          have o51 : vp_in v1 6 := vi_of rfl (by omega) (by omega)
          refine ⟨o51, ?_⟩
          intro I52 eI52
          try (have t53 : ((I31 b44 v1.toNatClampNeg) - r29).toInt = ((I31 b44 v1.toNatClampNeg).toInt - r29.toInt) := (i_sub rfl rfl (by omega) (by omega)))
          have w_I52 : WD Z33 I52 := by rw [eI52]; exact WD_putA w_I31 12 16 k34 eb44 kb44 rfl rfl (by decide) trivial
          have f_I52 : FR [(12, 16)] Z33 I31 Z33 I52 := by rw [eI52]; exact FR_upA w_I31.2.1 k34 eb44 kb44 rfl rfl List.mem_cons_self
          have q_I52 : FR Ws_X12_rests Z I Z33 I52 := q_I31.trans w_I.1 w_I.2.1 (f_I52.mono (by decide))
          have u54 : (I52 v0 22).toInt = (I31 v0 22).toInt := by rw [f_I52.2.2.1 v0 12 22 k34 (by decide) (by decide)]
          intro b55 eb55
          obtain ⟨x56, ex56, kb55, lb55⟩ := sh_f w_I52.1 k34 (j := 15) (k := 14) (m := 6) rfl
          cases eb55.symm.trans ex56
          intro b57 eb57
          obtain ⟨x58, ex58, kb57, lb57⟩ := sh_f w_I52.1 k34 (j := 9) (k := 14) (m := 6) rfl
          cases eb57.symm.trans ex58
          have o59 : vp_in v1 6 := vi_of rfl (by omega) (by omega)
          refine ⟨o59, ?_⟩
          have t60 : 0 ≤ (I52 b57 v1.toNatClampNeg).toInt ∧ (I52 b57 v1.toNatClampNeg).toInt ≤ 120 := w_I52.arr 12 9 k34 eb57 kb57 rfl rfl _
          intro b61 eb61
          obtain rfl : b55 = b61 := Option.some.inj (eb55.symm.trans eb61)
          have o62 : vp_in v1 6 := vi_of rfl (by omega) (by omega)
          refine ⟨o62, ?_⟩
          have o63 : vp_in v1 6 := vi_of rfl (by omega) (by omega)
          refine ⟨o63, ?_⟩
          intro I64 eI64
          try (have t65 : (if ((I52 b55 v1.toNatClampNeg) + v2) < (I52 b57 v1.toNatClampNeg) then ((I52 b55 v1.toNatClampNeg) + v2) else (I52 b57 v1.toNatClampNeg)).toInt = (min (I52 b57 v1.toNatClampNeg).toInt ((I52 b55 v1.toNatClampNeg).toInt + v2.toInt)) := (i_min rfl (i_add rfl rfl (by omega) (by omega))))
          have w_I64 : WD Z33 I64 := by rw [eI64]; exact WD_putA w_I52 12 15 k34 eb55 kb55 rfl rfl (by decide) trivial
          have f_I64 : FR [(12, 15)] Z33 I52 Z33 I64 := by rw [eI64]; exact FR_upA w_I52.2.1 k34 eb55 kb55 rfl rfl List.mem_cons_self
          have q_I64 : FR Ws_X12_rests Z I Z33 I64 := q_I52.trans w_I.1 w_I.2.1 (f_I64.mono (by decide))
          have u66 : (I64 v0 22).toInt = (I52 v0 22).toInt := by rw [f_I64.2.2.1 v0 12 22 k34 (by decide) (by decide)]
          refine ⟨fun c67 => ?_, fun c67 => ?_⟩
          · skip
            first | (have t68 : x20.toInt = (-1) := (i_eq rfl (show (-1 : Int32).toInt = -1 from rfl)).mp c67) | (have t68 : x20.toInt = (-1 : Int32).toInt := (i_eq rfl rfl).mp c67) | skip
            exact hQ r29 Z33 I64 L32 w_I64 bd_Z33 q_I64 cp_Z33 
          · skip
            first | (have t69 : ¬ (x20.toInt = (-1)) := (not_congr (i_eq rfl (show (-1 : Int32).toInt = -1 from rfl))).mp c67) | (have t69 : ¬ (x20.toInt = (-1 : Int32).toInt) := (not_congr (i_eq rfl rfl)).mp c67) | skip
            have t70 : (1 : Int32).toInt = 1 := rfl
            refine s_X12_earn w_I64 v0 x20 r29 (1 : Int32) k34  (by omega) (fun  I71 L72 w_I71 f_I71  => ?_)
            have q_I71 : FR Ws_X12_rests Z I Z33 I71 := q_I64.trans w_I.1 w_I.2.1 (f_I71.mono (by decide))
            have u73 : (I71 v0 22).toInt = (I64 v0 22).toInt := by rw [f_I71.2.2.1 v0 12 22 k34 (by decide) (by decide)]
            exact hQ r29 Z33 I71 L72 w_I71 bd_Z33 q_I71 cp_Z33 
        · skip
          first | (have t74 : ¬ (r29.toInt ≤ (I31 b44 v1.toNatClampNeg).toInt) := (not_congr (i_le rfl rfl)).mp c47) | (have t74 : ¬ (r29.toInt ≤ (I31 b44 v1.toNatClampNeg).toInt) := (not_congr (i_le rfl rfl)).mp c47) | skip
          have t75 : (-5 : Int32).toInt = -5 := rfl
          exact hQ (-5 : Int32) Z33 I31 L32 w_I31 bd_Z33 q_I31 cp_Z33 
      · skip
        first | (have t76 : x20.toInt = (-1) := (i_eq rfl (show (-1 : Int32).toInt = -1 from rfl)).mp c21) | (have t76 : x20.toInt = (-1 : Int32).toInt := (i_eq rfl rfl).mp c21) | skip
        unfold f_X12_rests_b55
        intro b77 eb77
        obtain ⟨x78, ex78, kb77, lb77⟩ := sh_f w_I1.1 kv0 (j := 16) (k := 14) (m := 6) rfl
        cases eb77.symm.trans ex78
        have o79 : vp_in v1 6 := vi_of rfl (by omega) (by omega)
        refine ⟨o79, ?_⟩
        refine ⟨fun c80 => ?_, fun c80 => ?_⟩
        · skip
          first | (have t81 : (0) ≤ (I1 b77 v1.toNatClampNeg).toInt := (i_le (show (0 : Int32).toInt = 0 from rfl) rfl).mp c80) | (have t81 : (0 : Int32).toInt ≤ (I1 b77 v1.toNatClampNeg).toInt := (i_le rfl rfl).mp c80) | skip
          intro b82 eb82
          obtain rfl : b77 = b82 := Option.some.inj (eb77.symm.trans eb82)
          have o83 : vp_in v1 6 := vi_of rfl (by omega) (by omega)
          refine ⟨o83, ?_⟩
          have o84 : vp_in v1 6 := vi_of rfl (by omega) (by omega)
          refine ⟨o84, ?_⟩
          intro I85 eI85
          try (have t86 : ((I1 b77 v1.toNatClampNeg) - (0 : Int32)).toInt = ((I1 b77 v1.toNatClampNeg).toInt - (0)) := (i_sub rfl (show (0 : Int32).toInt = 0 from rfl) (by omega) (by omega)))
          have w_I85 : WD Z I85 := by rw [eI85]; exact WD_putA w_I1 12 16 kv0 eb77 kb77 rfl rfl (by decide) trivial
          have f_I85 : FR [(12, 16)] Z I1 Z I85 := by rw [eI85]; exact FR_upA w_I1.2.1 kv0 eb77 kb77 rfl rfl List.mem_cons_self
          have q_I85 : FR Ws_X12_rests Z I Z I85 := q_I1.trans w_I.1 w_I.2.1 (f_I85.mono (by decide))
          have u87 : (I85 v0 22).toInt = (I1 v0 22).toInt := by rw [f_I85.2.2.1 v0 12 22 kv0 (by decide) (by decide)]
          intro b88 eb88
          obtain ⟨x89, ex89, kb88, lb88⟩ := sh_f w_I85.1 kv0 (j := 15) (k := 14) (m := 6) rfl
          cases eb88.symm.trans ex89
          intro b90 eb90
          obtain ⟨x91, ex91, kb90, lb90⟩ := sh_f w_I85.1 kv0 (j := 9) (k := 14) (m := 6) rfl
          cases eb90.symm.trans ex91
          have o92 : vp_in v1 6 := vi_of rfl (by omega) (by omega)
          refine ⟨o92, ?_⟩
          have t93 : 0 ≤ (I85 b90 v1.toNatClampNeg).toInt ∧ (I85 b90 v1.toNatClampNeg).toInt ≤ 120 := w_I85.arr 12 9 kv0 eb90 kb90 rfl rfl _
          intro b94 eb94
          obtain rfl : b88 = b94 := Option.some.inj (eb88.symm.trans eb94)
          have o95 : vp_in v1 6 := vi_of rfl (by omega) (by omega)
          refine ⟨o95, ?_⟩
          have o96 : vp_in v1 6 := vi_of rfl (by omega) (by omega)
          refine ⟨o96, ?_⟩
          intro I97 eI97
          try (have t98 : (if ((I85 b88 v1.toNatClampNeg) + v2) < (I85 b90 v1.toNatClampNeg) then ((I85 b88 v1.toNatClampNeg) + v2) else (I85 b90 v1.toNatClampNeg)).toInt = (min (I85 b90 v1.toNatClampNeg).toInt ((I85 b88 v1.toNatClampNeg).toInt + v2.toInt)) := (i_min rfl (i_add rfl rfl (by omega) (by omega))))
          have w_I97 : WD Z I97 := by rw [eI97]; exact WD_putA w_I85 12 15 kv0 eb88 kb88 rfl rfl (by decide) trivial
          have f_I97 : FR [(12, 15)] Z I85 Z I97 := by rw [eI97]; exact FR_upA w_I85.2.1 kv0 eb88 kb88 rfl rfl List.mem_cons_self
          have q_I97 : FR Ws_X12_rests Z I Z I97 := q_I85.trans w_I.1 w_I.2.1 (f_I97.mono (by decide))
          have u99 : (I97 v0 22).toInt = (I85 v0 22).toInt := by rw [f_I97.2.2.1 v0 12 22 kv0 (by decide) (by decide)]
          refine ⟨fun c100 => ?_, fun c100 => ?_⟩
          · skip
            first | (have t101 : x20.toInt = (-1) := (i_eq rfl (show (-1 : Int32).toInt = -1 from rfl)).mp c100) | (have t101 : x20.toInt = (-1 : Int32).toInt := (i_eq rfl rfl).mp c100) | skip
            have t102 : (0 : Int32).toInt = 0 := rfl
            exact hQ (0 : Int32) Z I97 L w_I97 bd_Z q_I97 cp_Z 
          · skip
            first | (have t103 : ¬ (x20.toInt = (-1)) := (not_congr (i_eq rfl (show (-1 : Int32).toInt = -1 from rfl))).mp c100) | (have t103 : ¬ (x20.toInt = (-1 : Int32).toInt) := (not_congr (i_eq rfl rfl)).mp c100) | skip
            have t104 : (0 : Int32).toInt = 0 := rfl
            have t105 : (1 : Int32).toInt = 1 := rfl
            refine s_X12_earn w_I97 v0 x20 (0 : Int32) (1 : Int32) kv0  (by omega) (fun  I106 L107 w_I106 f_I106  => ?_)
            have q_I106 : FR Ws_X12_rests Z I Z I106 := q_I97.trans w_I.1 w_I.2.1 (f_I106.mono (by decide))
            have u108 : (I106 v0 22).toInt = (I97 v0 22).toInt := by rw [f_I106.2.2.1 v0 12 22 kv0 (by decide) (by decide)]
            have t109 : (0 : Int32).toInt = 0 := rfl
            exact hQ (0 : Int32) Z I106 L107 w_I106 bd_Z q_I106 cp_Z 
        · skip
          first | (have t110 : ¬ ((0) ≤ (I1 b77 v1.toNatClampNeg).toInt) := (not_congr (i_le (show (0 : Int32).toInt = 0 from rfl) rfl)).mp c80) | (have t110 : ¬ ((0 : Int32).toInt ≤ (I1 b77 v1.toNatClampNeg).toInt) := (not_congr (i_le rfl rfl)).mp c80) | skip
          have t111 : (-5 : Int32).toInt = -5 := rfl
          exact hQ (-5 : Int32) Z I1 L w_I1 bd_Z q_I1 cp_Z 
    · skip
      first | (have t112 : r12.toInt = (0) := (i_eq rfl (show (0 : Int32).toInt = 0 from rfl)).mp c14) | (have t112 : r12.toInt = (0 : Int32).toInt := (i_eq rfl rfl).mp c14) | skip
      have t113 : (-1 : Int32).toInt = -1 := rfl
      exact hQ (-1 : Int32) Z I1 L w_I1 bd_Z q_I1 cp_Z 
