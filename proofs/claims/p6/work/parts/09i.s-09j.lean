section
def Ws_X12_stairs : List (Nat × Nat) := [(12, 0), (12, 1), (12, 2), (12, 3), (12, 4), (12, 5), (12, 7), (12, 14), (12, 15), (12, 16), (12, 17), (12, 19), (12, 22), (12, 24), (12, 25), (12, 26), (12, 27), (12, 28), (12, 52)]
set_option maxHeartbeats 4000000 in
set_option maxRecDepth 100000 in
theorem l_X12_stairs_L301 {B : Nat × Nat} {T : Nat} {Z0 : jZ} {I0 : jI} {Q : Int32 → jZ → jI → jL → Prop} (w0 : WD Z0 I0) (v0 : Nat) (kv0 : jk Z0 v0 12) (v1 : Int32) (hQ : ∀ (r : Int32) (Z' : jZ) (I' : jI) (L' : jL), WD Z' I' → BUD B Z' T → FR Ws_X12_stairs Z0 I0 Z' I' → CP Z0 Z' → Q r Z' I' L') : ∀ (n : Nat) (v3 : Int32) (Z : jZ) (I : jI) (L : jL), WD Z I → BUD B Z T → FR Ws_X12_stairs Z0 I0 Z I → CP Z0 Z →   (0 ≤ v3.toInt ∧ v3.toInt ≤ 6) → 6 - v3.toInt < (n : Int) → f_X12_stairs_L301 B  Q n v0 v1 v3 Z I L := by
  intro n
  induction n with
  | zero =>
    intro v3 Z I L w_I bd_Z q_I cp_Z   li  me
    exfalso
    omega
  | succ n ih =>
    intro v3 Z I L w_I bd_Z q_I cp_Z   li  me
    unfold f_X12_stairs_L301
    have rv3 := i_rng v3
    have rv1 := i_rng v1
    have kv0_0 := kv0
    have kv0 := (q_I.1 _ _ kv0).1
    have xq_I := q_I.1
    have t2 : 0 ≤ (I v0 8).toInt ∧ (I v0 8).toInt ≤ 6 := w_I.fld 12 8 kv0 (by decide)
    refine ⟨fun c3 => ?_, fun c3 => ?_⟩
    · skip
      first | (have t4 : (I v0 8).toInt ≤ v3.toInt := (i_le rfl rfl).mp c3) | (have t4 : (I v0 8).toInt ≤ v3.toInt := (i_le rfl rfl).mp c3) | skip
      exact hQ v1 Z I L w_I bd_Z q_I cp_Z 
    · skip
      first | (have t5 : ¬ ((I v0 8).toInt ≤ v3.toInt) := (not_congr (i_le rfl rfl)).mp c3) | (have t5 : ¬ ((I v0 8).toInt ≤ v3.toInt) := (not_congr (i_le rfl rfl)).mp c3) | skip
      intro b6 eb6
      obtain ⟨x7, ex7, kb6, lb6⟩ := sh_f w_I.1 kv0 (j := 14) (k := 14) (m := 6) rfl
      cases eb6.symm.trans ex7
      have o8 : vp_in v3 6 := vi_of rfl (by omega) (by omega)
      refine ⟨o8, ?_⟩
      intro I9 eI9
      have t10 : (-1 : Int32).toInt = -1 := rfl
      have w_I9 : WD Z I9 := by rw [eI9]; exact WD_putA w_I 12 14 kv0 eb6 kb6 rfl rfl (by decide) (by constructor <;> omega)
      have f_I9 : FR [(12, 14)] Z I Z I9 := by rw [eI9]; exact FR_upA w_I.2.1 kv0 eb6 kb6 rfl rfl List.mem_cons_self
      have q_I9 : FR Ws_X12_stairs Z0 I0 Z I9 := q_I.trans w0.1 w0.2.1 (f_I9.mono (by decide))
      have u11 : (I9 v0 8).toInt = (I v0 8).toInt := by rw [f_I9.2.2.1 v0 12 8 kv0 (by decide) (by decide)]
      intro b12 eb12
      obtain ⟨x13, ex13, kb12, lb12⟩ := sh_f w_I9.1 kv0 (j := 15) (k := 14) (m := 6) rfl
      cases eb12.symm.trans ex13
      intro b14 eb14
      obtain ⟨x15, ex15, kb14, lb14⟩ := sh_f w_I9.1 kv0 (j := 9) (k := 14) (m := 6) rfl
      cases eb14.symm.trans ex15
      have o16 : vp_in v3 6 := vi_of rfl (by omega) (by omega)
      refine ⟨o16, ?_⟩
      have t17 : 0 ≤ (I9 b14 v3.toNatClampNeg).toInt ∧ (I9 b14 v3.toNatClampNeg).toInt ≤ 120 := w_I9.arr 12 9 kv0 eb14 kb14 rfl rfl _
      have o18 : vp_in v3 6 := vi_of rfl (by omega) (by omega)
      refine ⟨o18, ?_⟩
      intro I19 eI19
      have w_I19 : WD Z I19 := by rw [eI19]; exact WD_putA w_I9 12 15 kv0 eb12 kb12 rfl rfl (by decide) trivial
      have f_I19 : FR [(12, 15)] Z I9 Z I19 := by rw [eI19]; exact FR_upA w_I9.2.1 kv0 eb12 kb12 rfl rfl List.mem_cons_self
      have q_I19 : FR Ws_X12_stairs Z0 I0 Z I19 := q_I9.trans w0.1 w0.2.1 (f_I19.mono (by decide))
      have u20 : (I19 v0 8).toInt = (I9 v0 8).toInt := by rw [f_I19.2.2.1 v0 12 8 kv0 (by decide) (by decide)]
      intro b21 eb21
      obtain ⟨x22, ex22, kb21, lb21⟩ := sh_f w_I19.1 kv0 (j := 16) (k := 14) (m := 6) rfl
      cases eb21.symm.trans ex22
      intro b23 eb23
      obtain ⟨x24, ex24, kb23, lb23⟩ := sh_f w_I19.1 kv0 (j := 10) (k := 14) (m := 6) rfl
      cases eb23.symm.trans ex24
      have o25 : vp_in v3 6 := vi_of rfl (by omega) (by omega)
      refine ⟨o25, ?_⟩
      have t26 : 0 ≤ (I19 b23 v3.toNatClampNeg).toInt ∧ (I19 b23 v3.toNatClampNeg).toInt ≤ 999 := w_I19.arr 12 10 kv0 eb23 kb23 rfl rfl _
      have o27 : vp_in v3 6 := vi_of rfl (by omega) (by omega)
      refine ⟨o27, ?_⟩
      intro I28 eI28
      have w_I28 : WD Z I28 := by rw [eI28]; exact WD_putA w_I19 12 16 kv0 eb21 kb21 rfl rfl (by decide) trivial
      have f_I28 : FR [(12, 16)] Z I19 Z I28 := by rw [eI28]; exact FR_upA w_I19.2.1 kv0 eb21 kb21 rfl rfl List.mem_cons_self
      have q_I28 : FR Ws_X12_stairs Z0 I0 Z I28 := q_I19.trans w0.1 w0.2.1 (f_I28.mono (by decide))
      have u29 : (I28 v0 8).toInt = (I19 v0 8).toInt := by rw [f_I28.2.2.1 v0 12 8 kv0 (by decide) (by decide)]
      intro x30 ex30
      have rx30 := i_rng x30
      first | (have tx30 : x30.toInt = v3.toInt + (1) := by (rw [ex30]; exact (i_add rfl (show (1 : Int32).toInt = 1 from rfl) (by omega) (by omega)))) | skip
      exact ih x30 Z I28 L w_I28 bd_Z q_I28 cp_Z   (by omega)  (by omega)
set_option maxHeartbeats 4000000 in
set_option maxRecDepth 100000 in
theorem l_X12_stairs_L280 {B : Nat × Nat} {T : Nat} {Z0 : jZ} {I0 : jI} {Q : Int32 → jZ → jI → jL → Prop} (w0 : WD Z0 I0) (v0 : Nat) (kv0 : jk Z0 v0 12) (v1 : Int32) (hQ : ∀ (r : Int32) (Z' : jZ) (I' : jI) (L' : jL), WD Z' I' → BUD B Z' T → FR Ws_X12_stairs Z0 I0 Z' I' → CP Z0 Z' → Q r Z' I' L') : ∀ (n : Nat) (v3 : Int32) (Z : jZ) (I : jI) (L : jL), WD Z I → BUD B Z T → FR Ws_X12_stairs Z0 I0 Z I → CP Z0 Z →   (0 ≤ v3.toInt ∧ v3.toInt ≤ 8) → 8 - v3.toInt < (n : Int) → f_X12_stairs_L280 B  Q n v0 v1 v3 Z I L := by
  intro n
  induction n with
  | zero =>
    intro v3 Z I L w_I bd_Z q_I cp_Z   li  me
    exfalso
    omega
  | succ n ih =>
    intro v3 Z I L w_I bd_Z q_I cp_Z   li  me
    unfold f_X12_stairs_L280
    have rv3 := i_rng v3
    have rv1 := i_rng v1
    have kv0_0 := kv0
    have kv0 := (q_I.1 _ _ kv0).1
    have xq_I := q_I.1
    refine ⟨fun c31 => ?_, fun c31 => ?_⟩
    · skip
      first | (have t32 : (8) ≤ v3.toInt := (i_le (show (8 : Int32).toInt = 8 from rfl) rfl).mp c31) | (have t32 : (8 : Int32).toInt ≤ v3.toInt := (i_le rfl rfl).mp c31) | skip
      have t33 : (0 : Int32).toInt = 0 := rfl
      exact ⟨(6 - (0 : Int32).toInt).toNat + 1, l_X12_stairs_L301 w0 v0 kv0_0 v1  hQ   _ (0 : Int32) Z I L w_I bd_Z q_I cp_Z   (by omega)  (by omega)⟩
    · skip
      first | (have t34 : ¬ ((8) ≤ v3.toInt) := (not_congr (i_le (show (8 : Int32).toInt = 8 from rfl) rfl)).mp c31) | (have t34 : ¬ ((8 : Int32).toInt ≤ v3.toInt) := (not_congr (i_le rfl rfl)).mp c31) | skip
      intro b35 eb35
      obtain ⟨x36, ex36, kb35, lb35⟩ := sh_f w_I.1 kv0 (j := 17) (k := 14) (m := 8) rfl
      cases eb35.symm.trans ex36
      have o37 : vp_in v3 8 := vi_of rfl (by omega) (by omega)
      refine ⟨o37, ?_⟩
      intro I38 eI38
      have t39 : (0 : Int32).toInt = 0 := rfl
      have w_I38 : WD Z I38 := by rw [eI38]; exact WD_putA w_I 12 17 kv0 eb35 kb35 rfl rfl (by decide) trivial
      have f_I38 : FR [(12, 17)] Z I Z I38 := by rw [eI38]; exact FR_upA w_I.2.1 kv0 eb35 kb35 rfl rfl List.mem_cons_self
      have q_I38 : FR Ws_X12_stairs Z0 I0 Z I38 := q_I.trans w0.1 w0.2.1 (f_I38.mono (by decide))
      intro x40 ex40
      have rx40 := i_rng x40
      first | (have tx40 : x40.toInt = v3.toInt + (1) := by (rw [ex40]; exact (i_add rfl (show (1 : Int32).toInt = 1 from rfl) (by omega) (by omega)))) | skip
      exact ih x40 Z I38 L w_I38 bd_Z q_I38 cp_Z   (by omega)  (by omega)
set_option maxHeartbeats 4000000 in
set_option maxRecDepth 100000 in
theorem l_X12_stairs_L185 {B : Nat × Nat} {T : Nat} {Z0 : jZ} {I0 : jI} {Q : Int32 → jZ → jI → jL → Prop} (w0 : WD Z0 I0) (v0 : Nat) (kv0 : jk Z0 v0 12) (v1 : Int32) (v3 : Int32) (hQ : ∀ (r : Int32) (Z' : jZ) (I' : jI) (L' : jL), WD Z' I' → BUD B Z' T → FR Ws_X12_stairs Z0 I0 Z' I' → CP Z0 Z' → Q r Z' I' L') {K131 : Nat → Int32 → Int32 → jZ → jI → jL → Prop} {N131 : Int} (hK131 : ∀ (v3 : Int32) (Z : jZ) (I : jI) (L : jL), WD Z I → BUD B Z T → FR Ws_X12_stairs Z0 I0 Z I → CP Z0 Z →   (0 ≤ v3.toInt ∧ v3.toInt ≤ 24 ∧ v1.toInt ≤ 24) → 24 - v3.toInt < N131 → K131 v0 v1 v3 Z I L) : ∀ (n : Nat) (v4 : Int32) (Z : jZ) (I : jI) (L : jL), WD Z I → BUD B Z T → FR Ws_X12_stairs Z0 I0 Z I → CP Z0 Z →   (0 ≤ v3.toInt ∧ v3.toInt ≤ 23 ∧ v1.toInt ≤ 24 ∧ 0 ≤ v4.toInt ∧ v4.toInt ≤ 8) → 24 - v3.toInt ≤ N131 → 8 - v4.toInt < (n : Int) → f_X12_stairs_L185 B K131 Q n v0 v1 v3 v4 Z I L := by
  intro n
  induction n with
  | zero =>
    intro v4 Z I L w_I bd_Z q_I cp_Z   li hm131 me
    exfalso
    omega
  | succ n ih =>
    intro v4 Z I L w_I bd_Z q_I cp_Z   li hm131 me
    unfold f_X12_stairs_L185
    have rv4 := i_rng v4
    have rv1 := i_rng v1
    have rv3 := i_rng v3
    have kv0_0 := kv0
    have kv0 := (q_I.1 _ _ kv0).1
    have xq_I := q_I.1
    refine ⟨fun c41 => ?_, fun c41 => ?_⟩
    · skip
      first | (have t42 : (8) ≤ v4.toInt := (i_le (show (8 : Int32).toInt = 8 from rfl) rfl).mp c41) | (have t42 : (8 : Int32).toInt ≤ v4.toInt := (i_le rfl rfl).mp c41) | skip
      intro b43 eb43
      obtain ⟨x44, ex44, kb43, lb43⟩ := sh_f w_I.1 kv0 (j := 4) (k := 16) (m := 24) rfl
      cases eb43.symm.trans ex44
      intro b45 eb45
      obtain ⟨x46, ex46, kb45, lb45⟩ := sh_f w_I.1 kv0 (j := 28) (k := 14) (m := 120) rfl
      cases eb45.symm.trans ex46
      have o47 : vp_in (((5 : Int32) * v3) + (4 : Int32)) 120 := vi_of (i_add (i_mul (show (5 : Int32).toInt = 5 from rfl) rfl (by omega) (by omega)) (show (4 : Int32).toInt = 4 from rfl) (by omega) (by omega)) (by omega) (by omega)
      refine ⟨o47, ?_⟩
      have t49 := i_nat (x := (((5 : Int32) * v3) + (4 : Int32))) (i_add (i_mul (show (5 : Int32).toInt = 5 from rfl) rfl (by omega) (by omega)) (show (4 : Int32).toInt = 4 from rfl) (by omega) (by omega)) (by omega)
      have h48 : ((((5 : Int32) * v3) + (4 : Int32)).toNatClampNeg % 5 = 0 → 0 ≤ (I b45 (((5 : Int32) * v3) + (4 : Int32)).toNatClampNeg).toInt ∧ (I b45 (((5 : Int32) * v3) + (4 : Int32)).toNatClampNeg).toInt ≤ 30) ∧ ((((5 : Int32) * v3) + (4 : Int32)).toNatClampNeg % 5 = 1 → 0 ≤ (I b45 (((5 : Int32) * v3) + (4 : Int32)).toNatClampNeg).toInt ∧ (I b45 (((5 : Int32) * v3) + (4 : Int32)).toNatClampNeg).toInt ≤ 9) ∧ ((((5 : Int32) * v3) + (4 : Int32)).toNatClampNeg % 5 = 2 → 0 ≤ (I b45 (((5 : Int32) * v3) + (4 : Int32)).toNatClampNeg).toInt ∧ (I b45 (((5 : Int32) * v3) + (4 : Int32)).toNatClampNeg).toInt ≤ 20) := w_I.arr 12 28 kv0 eb45 kb45 rfl rfl _
      first | (have h481 := h48.1 (by omega)) | (have h481 := h48.2.1 (by omega)) | (have h481 := h48.2.2 (by omega)) | skip
      clear h48
      refine ⟨fun c50 => ?_, fun c50 => ?_⟩
      · skip
        first | (have t51 : ¬ ((I b45 (((5 : Int32) * v3) + (4 : Int32)).toNatClampNeg).toInt = (1)) := (not_congr (i_eq rfl (show (1 : Int32).toInt = 1 from rfl))).mp c50) | (have t51 : ¬ ((I b45 (((5 : Int32) * v3) + (4 : Int32)).toNatClampNeg).toInt = (1 : Int32).toInt) := (not_congr (i_eq rfl rfl)).mp c50) | skip
        unfold f_X12_stairs_b256
        have o52 : vp_in v3 (jlen Z b43) := vi_of rfl (by omega) (by omega)
        refine ⟨o52, ?_⟩
        intro I53 eI53
        have t54 : (0 : Int32).toInt = 0 := rfl
        have w_I53 : WD Z I53 := by rw [eI53]; exact WD_putA w_I 12 4 kv0 eb43 kb43 rfl rfl (by decide) trivial
        have f_I53 : FR [(12, 4)] Z I Z I53 := by rw [eI53]; exact FR_upA w_I.2.1 kv0 eb43 kb43 rfl rfl List.mem_cons_self
        have q_I53 : FR Ws_X12_stairs Z0 I0 Z I53 := q_I.trans w0.1 w0.2.1 (f_I53.mono (by decide))
        intro x55 ex55
        have rx55 := i_rng x55
        first | (have tx55 : x55.toInt = v3.toInt + (1) := by (rw [ex55]; exact (i_add rfl (show (1 : Int32).toInt = 1 from rfl) (by omega) (by omega)))) | skip
        exact hK131 x55 Z I53 L w_I53 bd_Z q_I53 cp_Z   (by omega)  (by omega)
      · skip
        first | (have t56 : (I b45 (((5 : Int32) * v3) + (4 : Int32)).toNatClampNeg).toInt = (1) := (i_eq rfl (show (1 : Int32).toInt = 1 from rfl)).mp c50) | (have t56 : (I b45 (((5 : Int32) * v3) + (4 : Int32)).toNatClampNeg).toInt = (1 : Int32).toInt := (i_eq rfl rfl).mp c50) | skip
        unfold f_X12_stairs_b256
        have o57 : vp_in v3 (jlen Z b43) := vi_of rfl (by omega) (by omega)
        refine ⟨o57, ?_⟩
        intro I58 eI58
        have t59 : (1 : Int32).toInt = 1 := rfl
        have w_I58 : WD Z I58 := by rw [eI58]; exact WD_putA w_I 12 4 kv0 eb43 kb43 rfl rfl (by decide) trivial
        have f_I58 : FR [(12, 4)] Z I Z I58 := by rw [eI58]; exact FR_upA w_I.2.1 kv0 eb43 kb43 rfl rfl List.mem_cons_self
        have q_I58 : FR Ws_X12_stairs Z0 I0 Z I58 := q_I.trans w0.1 w0.2.1 (f_I58.mono (by decide))
        intro x60 ex60
        have rx60 := i_rng x60
        first | (have tx60 : x60.toInt = v3.toInt + (1) := by (rw [ex60]; exact (i_add rfl (show (1 : Int32).toInt = 1 from rfl) (by omega) (by omega)))) | skip
        exact hK131 x60 Z I58 L w_I58 bd_Z q_I58 cp_Z   (by omega)  (by omega)
    · skip
      first | (have t61 : ¬ ((8) ≤ v4.toInt) := (not_congr (i_le (show (8 : Int32).toInt = 8 from rfl) rfl)).mp c41) | (have t61 : ¬ ((8 : Int32).toInt ≤ v4.toInt) := (not_congr (i_le rfl rfl)).mp c41) | skip
      intro b62 eb62
      obtain ⟨x63, ex63, kb62, lb62⟩ := sh_f w_I.1 kv0 (j := 5) (k := 14) (m := 192) rfl
      cases eb62.symm.trans ex63
      intro b64 eb64
      obtain ⟨x65, ex65, kb64, lb64⟩ := sh_f w_I.1 kv0 (j := 28) (k := 14) (m := 120) rfl
      cases eb64.symm.trans ex65
      have o66 : vp_in (((5 : Int32) * v3) + (3 : Int32)) 120 := vi_of (i_add (i_mul (show (5 : Int32).toInt = 5 from rfl) rfl (by omega) (by omega)) (show (3 : Int32).toInt = 3 from rfl) (by omega) (by omega)) (by omega) (by omega)
      refine ⟨o66, ?_⟩
      have t68 := i_nat (x := (((5 : Int32) * v3) + (3 : Int32))) (i_add (i_mul (show (5 : Int32).toInt = 5 from rfl) rfl (by omega) (by omega)) (show (3 : Int32).toInt = 3 from rfl) (by omega) (by omega)) (by omega)
      have h67 : ((((5 : Int32) * v3) + (3 : Int32)).toNatClampNeg % 5 = 0 → 0 ≤ (I b64 (((5 : Int32) * v3) + (3 : Int32)).toNatClampNeg).toInt ∧ (I b64 (((5 : Int32) * v3) + (3 : Int32)).toNatClampNeg).toInt ≤ 30) ∧ ((((5 : Int32) * v3) + (3 : Int32)).toNatClampNeg % 5 = 1 → 0 ≤ (I b64 (((5 : Int32) * v3) + (3 : Int32)).toNatClampNeg).toInt ∧ (I b64 (((5 : Int32) * v3) + (3 : Int32)).toNatClampNeg).toInt ≤ 9) ∧ ((((5 : Int32) * v3) + (3 : Int32)).toNatClampNeg % 5 = 2 → 0 ≤ (I b64 (((5 : Int32) * v3) + (3 : Int32)).toNatClampNeg).toInt ∧ (I b64 (((5 : Int32) * v3) + (3 : Int32)).toNatClampNeg).toInt ≤ 20) := w_I.arr 12 28 kv0 eb64 kb64 rfl rfl _
      first | (have h671 := h67.1 (by omega)) | (have h671 := h67.2.1 (by omega)) | (have h671 := h67.2.2 (by omega)) | skip
      clear h67
      refine ⟨fun c69 => ?_, fun c69 => ?_⟩
      · skip
        first | (have t70 : ¬ (v4.toInt = (I b64 (((5 : Int32) * v3) + (3 : Int32)).toNatClampNeg).toInt) := (not_congr (i_eq rfl rfl)).mp c69) | (have t70 : ¬ (v4.toInt = (I b64 (((5 : Int32) * v3) + (3 : Int32)).toNatClampNeg).toInt) := (not_congr (i_eq rfl rfl)).mp c69) | skip
        unfold f_X12_stairs_b225
        have o71 : vp_in (((8 : Int32) * v3) + v4) (jlen Z b62) := vi_of (i_add (i_mul (show (8 : Int32).toInt = 8 from rfl) rfl (by omega) (by omega)) rfl (by omega) (by omega)) (by omega) (by omega)
        refine ⟨o71, ?_⟩
        intro I72 eI72
        have t73 : (0 : Int32).toInt = 0 := rfl
        have w_I72 : WD Z I72 := by rw [eI72]; exact WD_putA w_I 12 5 kv0 eb62 kb62 rfl rfl (by decide) trivial
        have f_I72 : FR [(12, 5)] Z I Z I72 := by rw [eI72]; exact FR_upA w_I.2.1 kv0 eb62 kb62 rfl rfl List.mem_cons_self
        have q_I72 : FR Ws_X12_stairs Z0 I0 Z I72 := q_I.trans w0.1 w0.2.1 (f_I72.mono (by decide))
        intro x74 ex74
        have rx74 := i_rng x74
        first | (have tx74 : x74.toInt = v4.toInt + (1) := by (rw [ex74]; exact (i_add rfl (show (1 : Int32).toInt = 1 from rfl) (by omega) (by omega)))) | skip
        exact ih x74 Z I72 L w_I72 bd_Z q_I72 cp_Z   (by omega) (by omega) (by omega)
      · skip
        first | (have t75 : v4.toInt = (I b64 (((5 : Int32) * v3) + (3 : Int32)).toNatClampNeg).toInt := (i_eq rfl rfl).mp c69) | (have t75 : v4.toInt = (I b64 (((5 : Int32) * v3) + (3 : Int32)).toNatClampNeg).toInt := (i_eq rfl rfl).mp c69) | skip
        unfold f_X12_stairs_b225
        have o76 : vp_in (((8 : Int32) * v3) + v4) (jlen Z b62) := vi_of (i_add (i_mul (show (8 : Int32).toInt = 8 from rfl) rfl (by omega) (by omega)) rfl (by omega) (by omega)) (by omega) (by omega)
        refine ⟨o76, ?_⟩
        intro I77 eI77
        have t78 : (720 : Int32).toInt = 720 := rfl
        have w_I77 : WD Z I77 := by rw [eI77]; exact WD_putA w_I 12 5 kv0 eb62 kb62 rfl rfl (by decide) trivial
        have f_I77 : FR [(12, 5)] Z I Z I77 := by rw [eI77]; exact FR_upA w_I.2.1 kv0 eb62 kb62 rfl rfl List.mem_cons_self
        have q_I77 : FR Ws_X12_stairs Z0 I0 Z I77 := q_I.trans w0.1 w0.2.1 (f_I77.mono (by decide))
        intro x79 ex79
        have rx79 := i_rng x79
        first | (have tx79 : x79.toInt = v4.toInt + (1) := by (rw [ex79]; exact (i_add rfl (show (1 : Int32).toInt = 1 from rfl) (by omega) (by omega)))) | skip
        exact ih x79 Z I77 L w_I77 bd_Z q_I77 cp_Z   (by omega) (by omega) (by omega)
set_option maxHeartbeats 4000000 in
set_option maxRecDepth 100000 in
theorem l_X12_stairs_L131 {B : Nat × Nat} {T : Nat} {Z0 : jZ} {I0 : jI} {Q : Int32 → jZ → jI → jL → Prop} (w0 : WD Z0 I0) (v0 : Nat) (kv0 : jk Z0 v0 12) (v1 : Int32) (hQ : ∀ (r : Int32) (Z' : jZ) (I' : jI) (L' : jL), WD Z' I' → BUD B Z' T → FR Ws_X12_stairs Z0 I0 Z' I' → CP Z0 Z' → Q r Z' I' L') : ∀ (n : Nat) (v3 : Int32) (Z : jZ) (I : jI) (L : jL), WD Z I → BUD B Z T → FR Ws_X12_stairs Z0 I0 Z I → CP Z0 Z →   (0 ≤ v3.toInt ∧ v3.toInt ≤ 24 ∧ v1.toInt ≤ 24) → 24 - v3.toInt < (n : Int) → f_X12_stairs_L131 B  Q n v0 v1 v3 Z I L := by
  intro n
  induction n with
  | zero =>
    intro v3 Z I L w_I bd_Z q_I cp_Z   li  me
    exfalso
    omega
  | succ n ih =>
    intro v3 Z I L w_I bd_Z q_I cp_Z   li  me
    unfold f_X12_stairs_L131
    have rv3 := i_rng v3
    have rv1 := i_rng v1
    have kv0_0 := kv0
    have kv0 := (q_I.1 _ _ kv0).1
    have xq_I := q_I.1
    refine ⟨fun c80 => ?_, fun c80 => ?_⟩
    · skip
      first | (have t81 : v1.toInt ≤ v3.toInt := (i_le rfl rfl).mp c80) | (have t81 : v1.toInt ≤ v3.toInt := (i_le rfl rfl).mp c80) | skip
      intro I82 eI82
      try (have t83 : ((I v0 7) + (1 : Int32)).toInt = ((I v0 7).toInt + (1)) := (i_add rfl (show (1 : Int32).toInt = 1 from rfl) (by omega) (by omega)))
      have w_I82 : WD Z I82 := by rw [eI82]; exact WD_putF w_I 12 7 kv0 (by decide) (by decide) trivial
      have f_I82 : FR [(12, 7)] Z I Z I82 := by rw [eI82]; exact FR_putF kv0 (by decide) List.mem_cons_self
      have q_I82 : FR Ws_X12_stairs Z0 I0 Z I82 := q_I.trans w0.1 w0.2.1 (f_I82.mono (by decide))
      first | (have u84 : (I82 v0 7).toInt = ((I v0 7).toInt + (1)) := by (rw [eI82, show jpI I v0 7 ((I v0 7) + (1 : Int32)) v0 7 = ((I v0 7) + (1 : Int32)) from jpI_at] <;> exact (i_add rfl (show (1 : Int32).toInt = 1 from rfl) (by omega) (by omega)))) | skip
      intro I85 eI85
      have t86 : (0 : Int32).toInt = 0 := rfl
      have w_I85 : WD Z I85 := by rw [eI85]; exact WD_putF w_I82 12 52 kv0 (by decide) (by decide) (by constructor <;> omega)
      have f_I85 : FR [(12, 52)] Z I82 Z I85 := by rw [eI85]; exact FR_putF kv0 (by decide) List.mem_cons_self
      have q_I85 : FR Ws_X12_stairs Z0 I0 Z I85 := q_I82.trans w0.1 w0.2.1 (f_I85.mono (by decide))
      have u87 : (I85 v0 7).toInt = (I82 v0 7).toInt := by rw [f_I85.2.2.1 v0 12 7 kv0 (by decide) (by decide)]
      first | (have u88 : (I85 v0 52).toInt = (0) := by (rw [eI85, show jpI I82 v0 52 (0 : Int32) v0 52 = (0 : Int32) from jpI_at] <;> exact (show (0 : Int32).toInt = 0 from rfl))) | skip
      have t89 : (0 : Int32).toInt = 0 := rfl
      exact ⟨(8 - (0 : Int32).toInt).toNat + 1, l_X12_stairs_L280 w0 v0 kv0_0 v1  hQ   _ (0 : Int32) Z I85 L w_I85 bd_Z q_I85 cp_Z   (by omega)  (by omega)⟩
    · skip
      first | (have t90 : ¬ (v1.toInt ≤ v3.toInt) := (not_congr (i_le rfl rfl)).mp c80) | (have t90 : ¬ (v1.toInt ≤ v3.toInt) := (not_congr (i_le rfl rfl)).mp c80) | skip
      intro b91 eb91
      obtain ⟨x92, ex92, kb91, lb91⟩ := sh_f w_I.1 kv0 (j := 1) (k := 14) (m := 24) rfl
      cases eb91.symm.trans ex92
      intro b93 eb93
      obtain ⟨x94, ex94, kb93, lb93⟩ := sh_f w_I.1 kv0 (j := 28) (k := 14) (m := 120) rfl
      cases eb93.symm.trans ex94
      have o95 : vp_in ((5 : Int32) * v3) 120 := vi_of (i_mul (show (5 : Int32).toInt = 5 from rfl) rfl (by omega) (by omega)) (by omega) (by omega)
      refine ⟨o95, ?_⟩
      have t97 := i_nat (x := ((5 : Int32) * v3)) (i_mul (show (5 : Int32).toInt = 5 from rfl) rfl (by omega) (by omega)) (by omega)
      have h96 : (((5 : Int32) * v3).toNatClampNeg % 5 = 0 → 0 ≤ (I b93 ((5 : Int32) * v3).toNatClampNeg).toInt ∧ (I b93 ((5 : Int32) * v3).toNatClampNeg).toInt ≤ 30) ∧ (((5 : Int32) * v3).toNatClampNeg % 5 = 1 → 0 ≤ (I b93 ((5 : Int32) * v3).toNatClampNeg).toInt ∧ (I b93 ((5 : Int32) * v3).toNatClampNeg).toInt ≤ 9) ∧ (((5 : Int32) * v3).toNatClampNeg % 5 = 2 → 0 ≤ (I b93 ((5 : Int32) * v3).toNatClampNeg).toInt ∧ (I b93 ((5 : Int32) * v3).toNatClampNeg).toInt ≤ 20) := w_I.arr 12 28 kv0 eb93 kb93 rfl rfl _
      first | (have h961 := h96.1 (by omega)) | (have h961 := h96.2.1 (by omega)) | (have h961 := h96.2.2 (by omega)) | skip
      clear h96
      have o98 : vp_in v3 24 := vi_of rfl (by omega) (by omega)
      refine ⟨o98, ?_⟩
      intro I99 eI99
      have w_I99 : WD Z I99 := by rw [eI99]; exact WD_putA w_I 12 1 kv0 eb91 kb91 rfl rfl (by decide) (by constructor <;> omega)
      have f_I99 : FR [(12, 1)] Z I Z I99 := by rw [eI99]; exact FR_upA w_I.2.1 kv0 eb91 kb91 rfl rfl List.mem_cons_self
      have q_I99 : FR Ws_X12_stairs Z0 I0 Z I99 := q_I.trans w0.1 w0.2.1 (f_I99.mono (by decide))
      intro b100 eb100
      obtain ⟨x101, ex101, kb100, lb100⟩ := sh_f w_I99.1 kv0 (j := 2) (k := 14) (m := 24) rfl
      cases eb100.symm.trans ex101
      intro b102 eb102
      obtain rfl : b93 = b102 := Option.some.inj (eb93.symm.trans eb102)
      have o103 : vp_in (((5 : Int32) * v3) + (1 : Int32)) 120 := vi_of (i_add (i_mul (show (5 : Int32).toInt = 5 from rfl) rfl (by omega) (by omega)) (show (1 : Int32).toInt = 1 from rfl) (by omega) (by omega)) (by omega) (by omega)
      refine ⟨o103, ?_⟩
      have t105 := i_nat (x := (((5 : Int32) * v3) + (1 : Int32))) (i_add (i_mul (show (5 : Int32).toInt = 5 from rfl) rfl (by omega) (by omega)) (show (1 : Int32).toInt = 1 from rfl) (by omega) (by omega)) (by omega)
      have h104 : ((((5 : Int32) * v3) + (1 : Int32)).toNatClampNeg % 5 = 0 → 0 ≤ (I99 b93 (((5 : Int32) * v3) + (1 : Int32)).toNatClampNeg).toInt ∧ (I99 b93 (((5 : Int32) * v3) + (1 : Int32)).toNatClampNeg).toInt ≤ 30) ∧ ((((5 : Int32) * v3) + (1 : Int32)).toNatClampNeg % 5 = 1 → 0 ≤ (I99 b93 (((5 : Int32) * v3) + (1 : Int32)).toNatClampNeg).toInt ∧ (I99 b93 (((5 : Int32) * v3) + (1 : Int32)).toNatClampNeg).toInt ≤ 9) ∧ ((((5 : Int32) * v3) + (1 : Int32)).toNatClampNeg % 5 = 2 → 0 ≤ (I99 b93 (((5 : Int32) * v3) + (1 : Int32)).toNatClampNeg).toInt ∧ (I99 b93 (((5 : Int32) * v3) + (1 : Int32)).toNatClampNeg).toInt ≤ 20) := w_I99.arr 12 28 kv0 eb93 kb93 rfl rfl _
      first | (have h1041 := h104.1 (by omega)) | (have h1041 := h104.2.1 (by omega)) | (have h1041 := h104.2.2 (by omega)) | skip
      clear h104
      have o106 : vp_in v3 24 := vi_of rfl (by omega) (by omega)
      refine ⟨o106, ?_⟩
      intro I107 eI107
      have w_I107 : WD Z I107 := by rw [eI107]; exact WD_putA w_I99 12 2 kv0 eb100 kb100 rfl rfl (by decide) (by constructor <;> omega)
      have f_I107 : FR [(12, 2)] Z I99 Z I107 := by rw [eI107]; exact FR_upA w_I99.2.1 kv0 eb100 kb100 rfl rfl List.mem_cons_self
      have q_I107 : FR Ws_X12_stairs Z0 I0 Z I107 := q_I99.trans w0.1 w0.2.1 (f_I107.mono (by decide))
      intro b108 eb108
      obtain ⟨x109, ex109, kb108, lb108⟩ := sh_f w_I107.1 kv0 (j := 3) (k := 14) (m := 24) rfl
      cases eb108.symm.trans ex109
      intro b110 eb110
      obtain rfl : b93 = b110 := Option.some.inj (eb93.symm.trans eb110)
      have o111 : vp_in (((5 : Int32) * v3) + (2 : Int32)) 120 := vi_of (i_add (i_mul (show (5 : Int32).toInt = 5 from rfl) rfl (by omega) (by omega)) (show (2 : Int32).toInt = 2 from rfl) (by omega) (by omega)) (by omega) (by omega)
      refine ⟨o111, ?_⟩
      have t113 := i_nat (x := (((5 : Int32) * v3) + (2 : Int32))) (i_add (i_mul (show (5 : Int32).toInt = 5 from rfl) rfl (by omega) (by omega)) (show (2 : Int32).toInt = 2 from rfl) (by omega) (by omega)) (by omega)
      have h112 : ((((5 : Int32) * v3) + (2 : Int32)).toNatClampNeg % 5 = 0 → 0 ≤ (I107 b93 (((5 : Int32) * v3) + (2 : Int32)).toNatClampNeg).toInt ∧ (I107 b93 (((5 : Int32) * v3) + (2 : Int32)).toNatClampNeg).toInt ≤ 30) ∧ ((((5 : Int32) * v3) + (2 : Int32)).toNatClampNeg % 5 = 1 → 0 ≤ (I107 b93 (((5 : Int32) * v3) + (2 : Int32)).toNatClampNeg).toInt ∧ (I107 b93 (((5 : Int32) * v3) + (2 : Int32)).toNatClampNeg).toInt ≤ 9) ∧ ((((5 : Int32) * v3) + (2 : Int32)).toNatClampNeg % 5 = 2 → 0 ≤ (I107 b93 (((5 : Int32) * v3) + (2 : Int32)).toNatClampNeg).toInt ∧ (I107 b93 (((5 : Int32) * v3) + (2 : Int32)).toNatClampNeg).toInt ≤ 20) := w_I107.arr 12 28 kv0 eb93 kb93 rfl rfl _
      first | (have h1121 := h112.1 (by omega)) | (have h1121 := h112.2.1 (by omega)) | (have h1121 := h112.2.2 (by omega)) | skip
      clear h112
      have o114 : vp_in v3 24 := vi_of rfl (by omega) (by omega)
      refine ⟨o114, ?_⟩
      intro I115 eI115
      have w_I115 : WD Z I115 := by rw [eI115]; exact WD_putA w_I107 12 3 kv0 eb108 kb108 rfl rfl (by decide) (by constructor <;> omega)
      have f_I115 : FR [(12, 3)] Z I107 Z I115 := by rw [eI115]; exact FR_upA w_I107.2.1 kv0 eb108 kb108 rfl rfl List.mem_cons_self
      have q_I115 : FR Ws_X12_stairs Z0 I0 Z I115 := q_I107.trans w0.1 w0.2.1 (f_I115.mono (by decide))
      have t116 : (0 : Int32).toInt = 0 := rfl
      exact ⟨(8 - (0 : Int32).toInt).toNat + 1, l_X12_stairs_L185 w0 v0 kv0_0 v1 v3  hQ ih  _ (0 : Int32) Z I115 L w_I115 bd_Z q_I115 cp_Z   (by omega) (by omega) (by omega)⟩
set_option maxHeartbeats 4000000 in
set_option maxRecDepth 100000 in
theorem l_X12_stairs_L39 {B : Nat × Nat} {T : Nat} {Z0 : jZ} {I0 : jI} {Q : Int32 → jZ → jI → jL → Prop} (w0 : WD Z0 I0) (v0 : Nat) (kv0 : jk Z0 v0 12) (hQ : ∀ (r : Int32) (Z' : jZ) (I' : jI) (L' : jL), WD Z' I' → BUD B Z' T → FR Ws_X12_stairs Z0 I0 Z' I' → CP Z0 Z' → Q r Z' I' L') (uR : Nat) : ∀ (n : Nat) (v1 : Int32) (v2 : Int32) (Z : jZ) (I : jI) (L : jL), WD Z I → BUD B Z T → FR Ws_X12_stairs Z0 I0 Z I → CP Z0 Z →  jr Z v0 23 = some uR → jk Z uR 13 → (0 ≤ (I v0 26).toInt ∧ (I v0 26).toInt ≤ (I v0 24).toInt ∧ (I v0 26).toInt ≤ (I v0 25).toInt ∧ (I v0 24).toInt ≤ (jlen Z uR : Int) ∧ jlen Z uR ≤ 80 ∧ 0 ≤ v1.toInt ∧ v1.toInt ≤ 24) → (if (I v0 27).toInt = -1 then 2 * (25 - v1.toInt) + 1 else 0) < (n : Int) → f_X12_stairs_L39 B  Q n v0 v1 v2 Z I L := by
  intro n
  induction n with
  | zero =>
    intro v1 v2 Z I L w_I bd_Z q_I cp_Z  huR kuR li  me
    exfalso
    omega
  | succ n ih =>
    intro v1 v2 Z I L w_I bd_Z q_I cp_Z  huR kuR li  me
    unfold f_X12_stairs_L39
    have rv1 := i_rng v1
    have rv2 := i_rng v2
    have kv0_0 := kv0
    have kv0 := (q_I.1 _ _ kv0).1
    have xq_I := q_I.1
    refine ⟨fun c117 => ?_, fun c117 => ?_⟩
    · skip
      first | (have t118 : v2.toInt = (0) := (i_eq rfl (show (0 : Int32).toInt = 0 from rfl)).mp c117) | (have t118 : v2.toInt = (0 : Int32).toInt := (i_eq rfl rfl).mp c117) | skip
      unfold f_X12_stairs_b83
      refine ⟨fun c119 => ?_, fun c119 => ?_⟩
      · skip
        first | (have t120 : (I v0 24).toInt ≤ (I v0 26).toInt := (i_le rfl rfl).mp c119) | (have t120 : (I v0 24).toInt ≤ (I v0 26).toInt := (i_le rfl rfl).mp c119) | skip
        unfold f_X12_stairs_b102
        refine s_X12_fine w_I v0 kv0   (fun r121 p122 => ?_)
        have rr121 := i_rng r121
        refine ⟨fun c123 => ?_, fun c123 => ?_⟩
        · skip
          first | (have t124 : ¬ (r121.toInt = (0)) := (not_congr (i_eq rfl (show (0 : Int32).toInt = 0 from rfl))).mp c123) | (have t124 : ¬ (r121.toInt = (0 : Int32).toInt) := (not_congr (i_eq rfl rfl)).mp c123) | skip
          refine ⟨fun c125 => ?_, fun c125 => ?_⟩
          · skip
            first | (have t126 : (2) ≤ v1.toInt := (i_le (show (2 : Int32).toInt = 2 from rfl) rfl).mp c125) | (have t126 : (2 : Int32).toInt ≤ v1.toInt := (i_le rfl rfl).mp c125) | skip
            intro I127 eI127
            have w_I127 : WD Z I127 := by rw [eI127]; exact WD_putF w_I 12 0 kv0 (by decide) (by decide) (by constructor <;> omega)
            have f_I127 : FR [(12, 0)] Z I Z I127 := by rw [eI127]; exact FR_putF kv0 (by decide) List.mem_cons_self
            have q_I127 : FR Ws_X12_stairs Z0 I0 Z I127 := q_I.trans w0.1 w0.2.1 (f_I127.mono (by decide))
            have u128 : (I127 v0 24).toInt = (I v0 24).toInt := by rw [f_I127.2.2.1 v0 12 24 kv0 (by decide) (by decide)]
            have u129 : (I127 v0 25).toInt = (I v0 25).toInt := by rw [f_I127.2.2.1 v0 12 25 kv0 (by decide) (by decide)]
            have u130 : (I127 v0 26).toInt = (I v0 26).toInt := by rw [f_I127.2.2.1 v0 12 26 kv0 (by decide) (by decide)]
            have u131 : (I127 v0 27).toInt = (I v0 27).toInt := by rw [f_I127.2.2.1 v0 12 27 kv0 (by decide) (by decide)]
            first | (have u132 : (I127 v0 0).toInt = v1.toInt := by (rw [eI127, show jpI I v0 0 v1 v0 0 = v1 from jpI_at] <;> exact rfl)) | skip
            have t133 : (0 : Int32).toInt = 0 := rfl
            exact ⟨(24 - (0 : Int32).toInt).toNat + 1, l_X12_stairs_L131 w0 v0 kv0_0 v1  hQ   _ (0 : Int32) Z I127 L w_I127 bd_Z q_I127 cp_Z   (by omega)  (by omega)⟩
          · skip
            first | (have t134 : ¬ ((2) ≤ v1.toInt) := (not_congr (i_le (show (2 : Int32).toInt = 2 from rfl) rfl)).mp c125) | (have t134 : ¬ ((2 : Int32).toInt ≤ v1.toInt) := (not_congr (i_le rfl rfl)).mp c125) | skip
            have t135 : (-100 : Int32).toInt = -100 := rfl
            exact hQ (-100 : Int32) Z I L w_I bd_Z q_I cp_Z 
        · skip
          first | (have t136 : r121.toInt = (0) := (i_eq rfl (show (0 : Int32).toInt = 0 from rfl)).mp c123) | (have t136 : r121.toInt = (0 : Int32).toInt := (i_eq rfl rfl).mp c123) | skip
          try (have t137 : ((-1 : Int32) - (I v0 27)).toInt = ((-1) - (I v0 27).toInt) := (i_sub (show (-1 : Int32).toInt = -1 from rfl) rfl (by omega) (by omega)))
          exact hQ ((-1 : Int32) - (I v0 27)) Z I L w_I bd_Z q_I cp_Z 
      · skip
        first | (have t138 : ¬ ((I v0 24).toInt ≤ (I v0 26).toInt) := (not_congr (i_le rfl rfl)).mp c119) | (have t138 : ¬ ((I v0 24).toInt ≤ (I v0 26).toInt) := (not_congr (i_le rfl rfl)).mp c119) | skip
        refine s_X12_fault w_I v0 (I v0 26) kv0   (fun  I140 L141 w_I140 f_I140 p139 => ?_)
        have q_I140 : FR Ws_X12_stairs Z0 I0 Z I140 := q_I.trans w0.1 w0.2.1 (f_I140.mono (by decide))
        have u142 : (I140 v0 24).toInt = (I v0 24).toInt := by rw [f_I140.2.2.1 v0 12 24 kv0 (by decide) (by decide)]
        have u143 : (I140 v0 25).toInt = (I v0 25).toInt := by rw [f_I140.2.2.1 v0 12 25 kv0 (by decide) (by decide)]
        have u144 : (I140 v0 26).toInt = (I v0 26).toInt := by rw [f_I140.2.2.1 v0 12 26 kv0 (by decide) (by decide)]
        unfold f_X12_stairs_b102
        refine s_X12_fine w_I140 v0 kv0   (fun r145 p146 => ?_)
        have rr145 := i_rng r145
        refine ⟨fun c147 => ?_, fun c147 => ?_⟩
        · skip
          first | (have t148 : ¬ (r145.toInt = (0)) := (not_congr (i_eq rfl (show (0 : Int32).toInt = 0 from rfl))).mp c147) | (have t148 : ¬ (r145.toInt = (0 : Int32).toInt) := (not_congr (i_eq rfl rfl)).mp c147) | skip
          refine ⟨fun c149 => ?_, fun c149 => ?_⟩
          · skip
            first | (have t150 : (2) ≤ v1.toInt := (i_le (show (2 : Int32).toInt = 2 from rfl) rfl).mp c149) | (have t150 : (2 : Int32).toInt ≤ v1.toInt := (i_le rfl rfl).mp c149) | skip
            intro I151 eI151
            have w_I151 : WD Z I151 := by rw [eI151]; exact WD_putF w_I140 12 0 kv0 (by decide) (by decide) (by constructor <;> omega)
            have f_I151 : FR [(12, 0)] Z I140 Z I151 := by rw [eI151]; exact FR_putF kv0 (by decide) List.mem_cons_self
            have q_I151 : FR Ws_X12_stairs Z0 I0 Z I151 := q_I140.trans w0.1 w0.2.1 (f_I151.mono (by decide))
            have u152 : (I151 v0 24).toInt = (I140 v0 24).toInt := by rw [f_I151.2.2.1 v0 12 24 kv0 (by decide) (by decide)]
            have u153 : (I151 v0 25).toInt = (I140 v0 25).toInt := by rw [f_I151.2.2.1 v0 12 25 kv0 (by decide) (by decide)]
            have u154 : (I151 v0 26).toInt = (I140 v0 26).toInt := by rw [f_I151.2.2.1 v0 12 26 kv0 (by decide) (by decide)]
            have u155 : (I151 v0 27).toInt = (I140 v0 27).toInt := by rw [f_I151.2.2.1 v0 12 27 kv0 (by decide) (by decide)]
            first | (have u156 : (I151 v0 0).toInt = v1.toInt := by (rw [eI151, show jpI I140 v0 0 v1 v0 0 = v1 from jpI_at] <;> exact rfl)) | skip
            have t157 : (0 : Int32).toInt = 0 := rfl
            exact ⟨(24 - (0 : Int32).toInt).toNat + 1, l_X12_stairs_L131 w0 v0 kv0_0 v1  hQ   _ (0 : Int32) Z I151 L141 w_I151 bd_Z q_I151 cp_Z   (by omega)  (by omega)⟩
          · skip
            first | (have t158 : ¬ ((2) ≤ v1.toInt) := (not_congr (i_le (show (2 : Int32).toInt = 2 from rfl) rfl)).mp c149) | (have t158 : ¬ ((2 : Int32).toInt ≤ v1.toInt) := (not_congr (i_le rfl rfl)).mp c149) | skip
            have t159 : (-100 : Int32).toInt = -100 := rfl
            exact hQ (-100 : Int32) Z I140 L141 w_I140 bd_Z q_I140 cp_Z 
        · skip
          first | (have t160 : r145.toInt = (0) := (i_eq rfl (show (0 : Int32).toInt = 0 from rfl)).mp c147) | (have t160 : r145.toInt = (0 : Int32).toInt := (i_eq rfl rfl).mp c147) | skip
          try (have t161 : ((-1 : Int32) - (I140 v0 27)).toInt = ((-1) - (I140 v0 27).toInt) := (i_sub (show (-1 : Int32).toInt = -1 from rfl) rfl (by omega) (by omega)))
          exact hQ ((-1 : Int32) - (I140 v0 27)) Z I140 L141 w_I140 bd_Z q_I140 cp_Z 
    · skip
      first | (have t162 : ¬ (v2.toInt = (0)) := (not_congr (i_eq rfl (show (0 : Int32).toInt = 0 from rfl))).mp c117) | (have t162 : ¬ (v2.toInt = (0 : Int32).toInt) := (not_congr (i_eq rfl rfl)).mp c117) | skip
      refine s_X12_fine w_I v0 kv0   (fun r163 p164 => ?_)
      have rr163 := i_rng r163
      refine ⟨fun c165 => ?_, fun c165 => ?_⟩
      · skip
        first | (have t166 : r163.toInt = (0) := (i_eq rfl (show (0 : Int32).toInt = 0 from rfl)).mp c165) | (have t166 : r163.toInt = (0 : Int32).toInt := (i_eq rfl rfl).mp c165) | skip
        unfold f_X12_stairs_b83
        refine ⟨fun c167 => ?_, fun c167 => ?_⟩
        · skip
          first | (have t168 : (I v0 24).toInt ≤ (I v0 26).toInt := (i_le rfl rfl).mp c167) | (have t168 : (I v0 24).toInt ≤ (I v0 26).toInt := (i_le rfl rfl).mp c167) | skip
          unfold f_X12_stairs_b102
          refine s_X12_fine w_I v0 kv0   (fun r169 p170 => ?_)
          have rr169 := i_rng r169
          refine ⟨fun c171 => ?_, fun c171 => ?_⟩
          · skip
            first | (have t172 : ¬ (r169.toInt = (0)) := (not_congr (i_eq rfl (show (0 : Int32).toInt = 0 from rfl))).mp c171) | (have t172 : ¬ (r169.toInt = (0 : Int32).toInt) := (not_congr (i_eq rfl rfl)).mp c171) | skip
            refine ⟨fun c173 => ?_, fun c173 => ?_⟩
            · skip
              first | (have t174 : (2) ≤ v1.toInt := (i_le (show (2 : Int32).toInt = 2 from rfl) rfl).mp c173) | (have t174 : (2 : Int32).toInt ≤ v1.toInt := (i_le rfl rfl).mp c173) | skip
              intro I175 eI175
              have w_I175 : WD Z I175 := by rw [eI175]; exact WD_putF w_I 12 0 kv0 (by decide) (by decide) (by constructor <;> omega)
              have f_I175 : FR [(12, 0)] Z I Z I175 := by rw [eI175]; exact FR_putF kv0 (by decide) List.mem_cons_self
              have q_I175 : FR Ws_X12_stairs Z0 I0 Z I175 := q_I.trans w0.1 w0.2.1 (f_I175.mono (by decide))
              have u176 : (I175 v0 24).toInt = (I v0 24).toInt := by rw [f_I175.2.2.1 v0 12 24 kv0 (by decide) (by decide)]
              have u177 : (I175 v0 25).toInt = (I v0 25).toInt := by rw [f_I175.2.2.1 v0 12 25 kv0 (by decide) (by decide)]
              have u178 : (I175 v0 26).toInt = (I v0 26).toInt := by rw [f_I175.2.2.1 v0 12 26 kv0 (by decide) (by decide)]
              have u179 : (I175 v0 27).toInt = (I v0 27).toInt := by rw [f_I175.2.2.1 v0 12 27 kv0 (by decide) (by decide)]
              first | (have u180 : (I175 v0 0).toInt = v1.toInt := by (rw [eI175, show jpI I v0 0 v1 v0 0 = v1 from jpI_at] <;> exact rfl)) | skip
              have t181 : (0 : Int32).toInt = 0 := rfl
              exact ⟨(24 - (0 : Int32).toInt).toNat + 1, l_X12_stairs_L131 w0 v0 kv0_0 v1  hQ   _ (0 : Int32) Z I175 L w_I175 bd_Z q_I175 cp_Z   (by omega)  (by omega)⟩
            · skip
              first | (have t182 : ¬ ((2) ≤ v1.toInt) := (not_congr (i_le (show (2 : Int32).toInt = 2 from rfl) rfl)).mp c173) | (have t182 : ¬ ((2 : Int32).toInt ≤ v1.toInt) := (not_congr (i_le rfl rfl)).mp c173) | skip
              have t183 : (-100 : Int32).toInt = -100 := rfl
              exact hQ (-100 : Int32) Z I L w_I bd_Z q_I cp_Z 
          · skip
            first | (have t184 : r169.toInt = (0) := (i_eq rfl (show (0 : Int32).toInt = 0 from rfl)).mp c171) | (have t184 : r169.toInt = (0 : Int32).toInt := (i_eq rfl rfl).mp c171) | skip
            try (have t185 : ((-1 : Int32) - (I v0 27)).toInt = ((-1) - (I v0 27).toInt) := (i_sub (show (-1 : Int32).toInt = -1 from rfl) rfl (by omega) (by omega)))
            exact hQ ((-1 : Int32) - (I v0 27)) Z I L w_I bd_Z q_I cp_Z 
        · skip
          first | (have t186 : ¬ ((I v0 24).toInt ≤ (I v0 26).toInt) := (not_congr (i_le rfl rfl)).mp c167) | (have t186 : ¬ ((I v0 24).toInt ≤ (I v0 26).toInt) := (not_congr (i_le rfl rfl)).mp c167) | skip
          refine s_X12_fault w_I v0 (I v0 26) kv0   (fun  I188 L189 w_I188 f_I188 p187 => ?_)
          have q_I188 : FR Ws_X12_stairs Z0 I0 Z I188 := q_I.trans w0.1 w0.2.1 (f_I188.mono (by decide))
          have u190 : (I188 v0 24).toInt = (I v0 24).toInt := by rw [f_I188.2.2.1 v0 12 24 kv0 (by decide) (by decide)]
          have u191 : (I188 v0 25).toInt = (I v0 25).toInt := by rw [f_I188.2.2.1 v0 12 25 kv0 (by decide) (by decide)]
          have u192 : (I188 v0 26).toInt = (I v0 26).toInt := by rw [f_I188.2.2.1 v0 12 26 kv0 (by decide) (by decide)]
          unfold f_X12_stairs_b102
          refine s_X12_fine w_I188 v0 kv0   (fun r193 p194 => ?_)
          have rr193 := i_rng r193
          refine ⟨fun c195 => ?_, fun c195 => ?_⟩
          · skip
            first | (have t196 : ¬ (r193.toInt = (0)) := (not_congr (i_eq rfl (show (0 : Int32).toInt = 0 from rfl))).mp c195) | (have t196 : ¬ (r193.toInt = (0 : Int32).toInt) := (not_congr (i_eq rfl rfl)).mp c195) | skip
            refine ⟨fun c197 => ?_, fun c197 => ?_⟩
            · skip
              first | (have t198 : (2) ≤ v1.toInt := (i_le (show (2 : Int32).toInt = 2 from rfl) rfl).mp c197) | (have t198 : (2 : Int32).toInt ≤ v1.toInt := (i_le rfl rfl).mp c197) | skip
              intro I199 eI199
              have w_I199 : WD Z I199 := by rw [eI199]; exact WD_putF w_I188 12 0 kv0 (by decide) (by decide) (by constructor <;> omega)
              have f_I199 : FR [(12, 0)] Z I188 Z I199 := by rw [eI199]; exact FR_putF kv0 (by decide) List.mem_cons_self
              have q_I199 : FR Ws_X12_stairs Z0 I0 Z I199 := q_I188.trans w0.1 w0.2.1 (f_I199.mono (by decide))
              have u200 : (I199 v0 24).toInt = (I188 v0 24).toInt := by rw [f_I199.2.2.1 v0 12 24 kv0 (by decide) (by decide)]
              have u201 : (I199 v0 25).toInt = (I188 v0 25).toInt := by rw [f_I199.2.2.1 v0 12 25 kv0 (by decide) (by decide)]
              have u202 : (I199 v0 26).toInt = (I188 v0 26).toInt := by rw [f_I199.2.2.1 v0 12 26 kv0 (by decide) (by decide)]
              have u203 : (I199 v0 27).toInt = (I188 v0 27).toInt := by rw [f_I199.2.2.1 v0 12 27 kv0 (by decide) (by decide)]
              first | (have u204 : (I199 v0 0).toInt = v1.toInt := by (rw [eI199, show jpI I188 v0 0 v1 v0 0 = v1 from jpI_at] <;> exact rfl)) | skip
              have t205 : (0 : Int32).toInt = 0 := rfl
              exact ⟨(24 - (0 : Int32).toInt).toNat + 1, l_X12_stairs_L131 w0 v0 kv0_0 v1  hQ   _ (0 : Int32) Z I199 L189 w_I199 bd_Z q_I199 cp_Z   (by omega)  (by omega)⟩
            · skip
              first | (have t206 : ¬ ((2) ≤ v1.toInt) := (not_congr (i_le (show (2 : Int32).toInt = 2 from rfl) rfl)).mp c197) | (have t206 : ¬ ((2 : Int32).toInt ≤ v1.toInt) := (not_congr (i_le rfl rfl)).mp c197) | skip
              have t207 : (-100 : Int32).toInt = -100 := rfl
              exact hQ (-100 : Int32) Z I188 L189 w_I188 bd_Z q_I188 cp_Z 
          · skip
            first | (have t208 : r193.toInt = (0) := (i_eq rfl (show (0 : Int32).toInt = 0 from rfl)).mp c195) | (have t208 : r193.toInt = (0 : Int32).toInt := (i_eq rfl rfl).mp c195) | skip
            try (have t209 : ((-1 : Int32) - (I188 v0 27)).toInt = ((-1) - (I188 v0 27).toInt) := (i_sub (show (-1 : Int32).toInt = -1 from rfl) rfl (by omega) (by omega)))
            exact hQ ((-1 : Int32) - (I188 v0 27)) Z I188 L189 w_I188 bd_Z q_I188 cp_Z 
      · skip
        first | (have t210 : ¬ (r163.toInt = (0)) := (not_congr (i_eq rfl (show (0 : Int32).toInt = 0 from rfl))).mp c165) | (have t210 : ¬ (r163.toInt = (0 : Int32).toInt) := (not_congr (i_eq rfl rfl)).mp c165) | skip
        refine ⟨fun c211 => ?_, fun c211 => ?_⟩
        · skip
          first | (have t212 : ¬ (v1.toInt = (24)) := (not_congr (i_eq rfl (show (24 : Int32).toInt = 24 from rfl))).mp c211) | (have t212 : ¬ (v1.toInt = (24 : Int32).toInt) := (not_congr (i_eq rfl rfl)).mp c211) | skip
          refine s_X12_readLine w_I v0 v1 kv0 uR huR kuR (by omega) (by omega) (fun r213 I215 L216 w_I215 f_I215 p214 => ?_)
          have q_I215 : FR Ws_X12_stairs Z0 I0 Z I215 := q_I.trans w0.1 w0.2.1 (f_I215.mono (by decide))
          have u217 : (I215 v0 24).toInt = (I v0 24).toInt := by rw [f_I215.2.2.1 v0 12 24 kv0 (by decide) (by decide)]
          have u218 : (I215 v0 25).toInt = (I v0 25).toInt := by rw [f_I215.2.2.1 v0 12 25 kv0 (by decide) (by decide)]
          have rr213 := i_rng r213
          have t219 : (59 : Int32).toInt = 59 := rfl
          refine s_X12_passes w_I215 v0 (59 : Int32) kv0 uR huR kuR (by omega) (by omega) (fun r220 I222 L223 w_I222 f_I222 p221 => ?_)
          have q_I222 : FR Ws_X12_stairs Z0 I0 Z I222 := q_I215.trans w0.1 w0.2.1 (f_I222.mono (by decide))
          have u224 : (I222 v0 24).toInt = (I215 v0 24).toInt := by rw [f_I222.2.2.1 v0 12 24 kv0 (by decide) (by decide)]
          have u225 : (I222 v0 25).toInt = (I215 v0 25).toInt := by rw [f_I222.2.2.1 v0 12 25 kv0 (by decide) (by decide)]
          have u226 : (I222 v0 27).toInt = (I215 v0 27).toInt := by rw [f_I222.2.2.1 v0 12 27 kv0 (by decide) (by decide)]
          have rr220 := i_rng r220
          exact ih r213 r220 Z I222 L223 w_I222 bd_Z q_I222 cp_Z  huR kuR (by omega)  (by omega)
        · skip
          first | (have t227 : v1.toInt = (24) := (i_eq rfl (show (24 : Int32).toInt = 24 from rfl)).mp c211) | (have t227 : v1.toInt = (24 : Int32).toInt := (i_eq rfl rfl).mp c211) | skip
          refine s_X12_fault w_I v0 (I v0 26) kv0   (fun  I229 L230 w_I229 f_I229 p228 => ?_)
          have q_I229 : FR Ws_X12_stairs Z0 I0 Z I229 := q_I.trans w0.1 w0.2.1 (f_I229.mono (by decide))
          have u231 : (I229 v0 24).toInt = (I v0 24).toInt := by rw [f_I229.2.2.1 v0 12 24 kv0 (by decide) (by decide)]
          have u232 : (I229 v0 25).toInt = (I v0 25).toInt := by rw [f_I229.2.2.1 v0 12 25 kv0 (by decide) (by decide)]
          have u233 : (I229 v0 26).toInt = (I v0 26).toInt := by rw [f_I229.2.2.1 v0 12 26 kv0 (by decide) (by decide)]
          unfold f_X12_stairs_b83
          refine ⟨fun c234 => ?_, fun c234 => ?_⟩
          · skip
            first | (have t235 : (I229 v0 24).toInt ≤ (I229 v0 26).toInt := (i_le rfl rfl).mp c234) | (have t235 : (I229 v0 24).toInt ≤ (I229 v0 26).toInt := (i_le rfl rfl).mp c234) | skip
            unfold f_X12_stairs_b102
            refine s_X12_fine w_I229 v0 kv0   (fun r236 p237 => ?_)
            have rr236 := i_rng r236
            refine ⟨fun c238 => ?_, fun c238 => ?_⟩
            · skip
              first | (have t239 : ¬ (r236.toInt = (0)) := (not_congr (i_eq rfl (show (0 : Int32).toInt = 0 from rfl))).mp c238) | (have t239 : ¬ (r236.toInt = (0 : Int32).toInt) := (not_congr (i_eq rfl rfl)).mp c238) | skip
              refine ⟨fun c240 => ?_, fun c240 => ?_⟩
              · skip
                first | (have t241 : (2) ≤ v1.toInt := (i_le (show (2 : Int32).toInt = 2 from rfl) rfl).mp c240) | (have t241 : (2 : Int32).toInt ≤ v1.toInt := (i_le rfl rfl).mp c240) | skip
                intro I242 eI242
                have w_I242 : WD Z I242 := by rw [eI242]; exact WD_putF w_I229 12 0 kv0 (by decide) (by decide) (by constructor <;> omega)
                have f_I242 : FR [(12, 0)] Z I229 Z I242 := by rw [eI242]; exact FR_putF kv0 (by decide) List.mem_cons_self
                have q_I242 : FR Ws_X12_stairs Z0 I0 Z I242 := q_I229.trans w0.1 w0.2.1 (f_I242.mono (by decide))
                have u243 : (I242 v0 24).toInt = (I229 v0 24).toInt := by rw [f_I242.2.2.1 v0 12 24 kv0 (by decide) (by decide)]
                have u244 : (I242 v0 25).toInt = (I229 v0 25).toInt := by rw [f_I242.2.2.1 v0 12 25 kv0 (by decide) (by decide)]
                have u245 : (I242 v0 26).toInt = (I229 v0 26).toInt := by rw [f_I242.2.2.1 v0 12 26 kv0 (by decide) (by decide)]
                have u246 : (I242 v0 27).toInt = (I229 v0 27).toInt := by rw [f_I242.2.2.1 v0 12 27 kv0 (by decide) (by decide)]
                first | (have u247 : (I242 v0 0).toInt = v1.toInt := by (rw [eI242, show jpI I229 v0 0 v1 v0 0 = v1 from jpI_at] <;> exact rfl)) | skip
                have t248 : (0 : Int32).toInt = 0 := rfl
                exact ⟨(24 - (0 : Int32).toInt).toNat + 1, l_X12_stairs_L131 w0 v0 kv0_0 v1  hQ   _ (0 : Int32) Z I242 L230 w_I242 bd_Z q_I242 cp_Z   (by omega)  (by omega)⟩
              · skip
                first | (have t249 : ¬ ((2) ≤ v1.toInt) := (not_congr (i_le (show (2 : Int32).toInt = 2 from rfl) rfl)).mp c240) | (have t249 : ¬ ((2 : Int32).toInt ≤ v1.toInt) := (not_congr (i_le rfl rfl)).mp c240) | skip
                have t250 : (-100 : Int32).toInt = -100 := rfl
                exact hQ (-100 : Int32) Z I229 L230 w_I229 bd_Z q_I229 cp_Z 
            · skip
              first | (have t251 : r236.toInt = (0) := (i_eq rfl (show (0 : Int32).toInt = 0 from rfl)).mp c238) | (have t251 : r236.toInt = (0 : Int32).toInt := (i_eq rfl rfl).mp c238) | skip
              try (have t252 : ((-1 : Int32) - (I229 v0 27)).toInt = ((-1) - (I229 v0 27).toInt) := (i_sub (show (-1 : Int32).toInt = -1 from rfl) rfl (by omega) (by omega)))
              exact hQ ((-1 : Int32) - (I229 v0 27)) Z I229 L230 w_I229 bd_Z q_I229 cp_Z 
          · skip
            first | (have t253 : ¬ ((I229 v0 24).toInt ≤ (I229 v0 26).toInt) := (not_congr (i_le rfl rfl)).mp c234) | (have t253 : ¬ ((I229 v0 24).toInt ≤ (I229 v0 26).toInt) := (not_congr (i_le rfl rfl)).mp c234) | skip
            refine s_X12_fault w_I229 v0 (I229 v0 26) kv0   (fun  I255 L256 w_I255 f_I255 p254 => ?_)
            have q_I255 : FR Ws_X12_stairs Z0 I0 Z I255 := q_I229.trans w0.1 w0.2.1 (f_I255.mono (by decide))
            have u257 : (I255 v0 24).toInt = (I229 v0 24).toInt := by rw [f_I255.2.2.1 v0 12 24 kv0 (by decide) (by decide)]
            have u258 : (I255 v0 25).toInt = (I229 v0 25).toInt := by rw [f_I255.2.2.1 v0 12 25 kv0 (by decide) (by decide)]
            have u259 : (I255 v0 26).toInt = (I229 v0 26).toInt := by rw [f_I255.2.2.1 v0 12 26 kv0 (by decide) (by decide)]
            unfold f_X12_stairs_b102
            refine s_X12_fine w_I255 v0 kv0   (fun r260 p261 => ?_)
            have rr260 := i_rng r260
            refine ⟨fun c262 => ?_, fun c262 => ?_⟩
            · skip
              first | (have t263 : ¬ (r260.toInt = (0)) := (not_congr (i_eq rfl (show (0 : Int32).toInt = 0 from rfl))).mp c262) | (have t263 : ¬ (r260.toInt = (0 : Int32).toInt) := (not_congr (i_eq rfl rfl)).mp c262) | skip
              refine ⟨fun c264 => ?_, fun c264 => ?_⟩
              · skip
                first | (have t265 : (2) ≤ v1.toInt := (i_le (show (2 : Int32).toInt = 2 from rfl) rfl).mp c264) | (have t265 : (2 : Int32).toInt ≤ v1.toInt := (i_le rfl rfl).mp c264) | skip
                intro I266 eI266
                have w_I266 : WD Z I266 := by rw [eI266]; exact WD_putF w_I255 12 0 kv0 (by decide) (by decide) (by constructor <;> omega)
                have f_I266 : FR [(12, 0)] Z I255 Z I266 := by rw [eI266]; exact FR_putF kv0 (by decide) List.mem_cons_self
                have q_I266 : FR Ws_X12_stairs Z0 I0 Z I266 := q_I255.trans w0.1 w0.2.1 (f_I266.mono (by decide))
                have u267 : (I266 v0 24).toInt = (I255 v0 24).toInt := by rw [f_I266.2.2.1 v0 12 24 kv0 (by decide) (by decide)]
                have u268 : (I266 v0 25).toInt = (I255 v0 25).toInt := by rw [f_I266.2.2.1 v0 12 25 kv0 (by decide) (by decide)]
                have u269 : (I266 v0 26).toInt = (I255 v0 26).toInt := by rw [f_I266.2.2.1 v0 12 26 kv0 (by decide) (by decide)]
                have u270 : (I266 v0 27).toInt = (I255 v0 27).toInt := by rw [f_I266.2.2.1 v0 12 27 kv0 (by decide) (by decide)]
                first | (have u271 : (I266 v0 0).toInt = v1.toInt := by (rw [eI266, show jpI I255 v0 0 v1 v0 0 = v1 from jpI_at] <;> exact rfl)) | skip
                have t272 : (0 : Int32).toInt = 0 := rfl
                exact ⟨(24 - (0 : Int32).toInt).toNat + 1, l_X12_stairs_L131 w0 v0 kv0_0 v1  hQ   _ (0 : Int32) Z I266 L256 w_I266 bd_Z q_I266 cp_Z   (by omega)  (by omega)⟩
              · skip
                first | (have t273 : ¬ ((2) ≤ v1.toInt) := (not_congr (i_le (show (2 : Int32).toInt = 2 from rfl) rfl)).mp c264) | (have t273 : ¬ ((2 : Int32).toInt ≤ v1.toInt) := (not_congr (i_le rfl rfl)).mp c264) | skip
                have t274 : (-100 : Int32).toInt = -100 := rfl
                exact hQ (-100 : Int32) Z I255 L256 w_I255 bd_Z q_I255 cp_Z 
            · skip
              first | (have t275 : r260.toInt = (0) := (i_eq rfl (show (0 : Int32).toInt = 0 from rfl)).mp c262) | (have t275 : r260.toInt = (0 : Int32).toInt := (i_eq rfl rfl).mp c262) | skip
              try (have t276 : ((-1 : Int32) - (I255 v0 27)).toInt = ((-1) - (I255 v0 27).toInt) := (i_sub (show (-1 : Int32).toInt = -1 from rfl) rfl (by omega) (by omega)))
              exact hQ ((-1 : Int32) - (I255 v0 27)) Z I255 L256 w_I255 bd_Z q_I255 cp_Z 
set_option maxHeartbeats 4000000 in
set_option maxRecDepth 100000 in
theorem s_X12_stairs {B : Nat × Nat} {T : Nat} {Z : jZ} {I : jI} {L : jL} (w_I : WD Z I) (bd_Z : BUD B Z T) (v0 : Nat) (kv0 : jk Z v0 12) {Q : Int32 → jZ → jI → jL → Prop} (hQ : ∀ (r : Int32) (Z' : jZ) (I' : jI) (L' : jL), WD Z' I' → BUD B Z' T → FR Ws_X12_stairs Z I Z' I' → CP Z Z' → Q r Z' I' L') : f_X12_stairs B v0 Z I L Q := by
  unfold f_X12_stairs
  have q_I : FR Ws_X12_stairs Z I Z I := FR.rf
  have cp_Z : CP Z Z := CP.rf
  intro I277 eI277
  have t278 : (0 : Int32).toInt = 0 := rfl
  have w_I277 : WD Z I277 := by rw [eI277]; exact WD_putF w_I 12 22 kv0 (by decide) (by decide) trivial
  have f_I277 : FR [(12, 22)] Z I Z I277 := by rw [eI277]; exact FR_putF kv0 (by decide) List.mem_cons_self
  have q_I277 : FR Ws_X12_stairs Z I Z I277 := q_I.trans w_I.1 w_I.2.1 (f_I277.mono (by decide))
  first | (have u279 : (I277 v0 22).toInt = (0) := by (rw [eI277, show jpI I v0 22 (0 : Int32) v0 22 = (0 : Int32) from jpI_at] <;> exact (show (0 : Int32).toInt = 0 from rfl))) | skip
  intro b280 eb280
  obtain ⟨x281, ex281, kb280, lb280⟩ := sh_f w_I277.1 kv0 (j := 18) (k := 13) (m := 80) rfl
  cases eb280.symm.trans ex281
  have t283 : 0 ≤ (I277 v0 19).toInt ∧ (I277 v0 19).toInt ≤ 80 := w_I277.fld 12 19 kv0 (by decide)
  have t284 : (76 : Int32).toInt = 76 := rfl
  refine s_X12_begin w_I277 bd_Z v0 b280 (I277 v0 19) (76 : Int32) kv0 kb280 v0 12 18 kv0 eb280  (fun  Z288 I286 L287 w_I286 bd_Z288 f_I286 c_Z288 p285 => ?_)
  have q_I286 : FR Ws_X12_stairs Z I Z288 I286 := q_I277.trans w_I.1 w_I.2.1 (f_I286.mono (by decide))
  have cp_Z288 : CP Z Z288 := cp_Z.trans q_I277.1 c_Z288
  have x_Z288 := f_I286.1
  have k289 := (f_I286.1 _ _ kv0).1
  have k290 := (f_I286.1 _ _ kb280).1
  have l291 := (f_I286.1 _ _ kb280).2.trans lb280
  have k292 := (f_I286.1 _ _ kv0).1
  have e293 := (f_I286.2.1 v0 12 18 kv0 (by decide) (by decide)).trans eb280
  have u294 : (I286 v0 22).toInt = (I277 v0 22).toInt := by rw [f_I286.2.2.1 v0 12 22 kv0 (by decide) (by decide)]
  have u295 : (I286 v0 19).toInt = (I277 v0 19).toInt := by rw [f_I286.2.2.1 v0 12 19 kv0 (by decide) (by decide)]
  obtain ⟨p285_0, p285_1⟩ := p285
  have k296 := (f_I286.1 _ _ kb280).1
  have l297 := (f_I286.1 _ _ kb280).2
  have k298 := (f_I286.1 _ _ kv0).1
  have l299 := (f_I286.1 _ _ kb280).2.trans lb280
  intro I300 eI300
  have t301 : (0 : Int32).toInt = 0 := rfl
  have w_I300 : WD Z288 I300 := by rw [eI300]; exact WD_putF w_I286 12 19 k289 (by decide) (by decide) (by constructor <;> omega)
  have f_I300 : FR [(12, 19)] Z288 I286 Z288 I300 := by rw [eI300]; exact FR_putF k289 (by decide) List.mem_cons_self
  have q_I300 : FR Ws_X12_stairs Z I Z288 I300 := q_I286.trans w_I.1 w_I.2.1 (f_I300.mono (by decide))
  have u302 : (I300 v0 22).toInt = (I286 v0 22).toInt := by rw [f_I300.2.2.1 v0 12 22 k289 (by decide) (by decide)]
  have u303 : (I300 v0 24).toInt = (I286 v0 24).toInt := by rw [f_I300.2.2.1 v0 12 24 k298 (by decide) (by decide)]
  have u304 : (I300 v0 25).toInt = (I286 v0 25).toInt := by rw [f_I300.2.2.1 v0 12 25 k298 (by decide) (by decide)]
  have u305 : (I300 v0 26).toInt = (I286 v0 26).toInt := by rw [f_I300.2.2.1 v0 12 26 k298 (by decide) (by decide)]
  have u306 : (I300 v0 27).toInt = (I286 v0 27).toInt := by rw [f_I300.2.2.1 v0 12 27 k298 (by decide) (by decide)]
  first | (have u307 : (I300 v0 19).toInt = (0) := by (rw [eI300, show jpI I286 v0 19 (0 : Int32) v0 19 = (0 : Int32) from jpI_at] <;> exact (show (0 : Int32).toInt = 0 from rfl))) | skip
  refine ⟨fun c308 => ?_, fun c308 => ?_⟩
  · skip
    first | (have t309 : (I300 v0 24).toInt ≤ (0) := (i_le rfl (show (0 : Int32).toInt = 0 from rfl)).mp c308) | (have t309 : (I300 v0 24).toInt ≤ (0 : Int32).toInt := (i_le rfl rfl).mp c308) | skip
    unfold f_X12_stairs_b38
    have t310 : (0 : Int32).toInt = 0 := rfl
    have t311 : (0 : Int32).toInt = 0 := rfl
    exact ⟨((if (I300 v0 27).toInt = -1 then 2 * (25 - (0 : Int32).toInt) + 1 else 0)).toNat + 1, l_X12_stairs_L39 w_I v0 kv0   hQ  b280 _ (0 : Int32) (0 : Int32) Z288 I300 L287 w_I300 bd_Z288 q_I300 cp_Z288  p285_0 k296 (by omega)  (by omega)⟩
  · skip
    first | (have t312 : ¬ ((I300 v0 24).toInt ≤ (0)) := (not_congr (i_le rfl (show (0 : Int32).toInt = 0 from rfl))).mp c308) | (have t312 : ¬ ((I300 v0 24).toInt ≤ (0 : Int32).toInt) := (not_congr (i_le rfl rfl)).mp c308) | skip
    unfold f_X12_stairs_b38
    have t313 : (0 : Int32).toInt = 0 := rfl
    have t314 : (1 : Int32).toInt = 1 := rfl
    exact ⟨((if (I300 v0 27).toInt = -1 then 2 * (25 - (0 : Int32).toInt) + 1 else 0)).toNat + 1, l_X12_stairs_L39 w_I v0 kv0   hQ  b280 _ (0 : Int32) (1 : Int32) Z288 I300 L287 w_I300 bd_Z288 q_I300 cp_Z288  p285_0 k296 (by omega)  (by omega)⟩
def Ws_X12_law : List (Nat × Nat) := [(12, 19), (12, 22), (12, 24), (12, 25), (12, 26), (12, 27), (12, 30), (12, 31), (19, 0), (19, 1)]
set_option maxHeartbeats 4000000 in
set_option maxRecDepth 100000 in
theorem l_X12_law_L85 {B : Nat × Nat} {T : Nat} {Z0 : jZ} {I0 : jI} {Q : Int32 → jZ → jI → jL → Prop} (w0 : WD Z0 I0) (v0 : Nat) (v1 : Int32) (kv0 : jk Z0 v0 12) (v2 : Int32) (hQ : ∀ (r : Int32) (Z' : jZ) (I' : jI) (L' : jL), WD Z' I' → BUD B Z' T → FR Ws_X12_law Z0 I0 Z' I' → CP Z0 Z' → Q r Z' I' L') : ∀ (n : Nat) (v3 : Int32) (Z : jZ) (I : jI) (L : jL), WD Z I → BUD B Z T → FR Ws_X12_law Z0 I0 Z I → CP Z0 Z →   (0 ≤ v3.toInt ∧ v3.toInt ≤ 40 ∧ v2.toInt ≤ 40 ∧ 0 ≤ v2.toInt ∧ 0 ≤ v1.toInt ∧ v1.toInt ≤ 1) → 40 - v3.toInt < (n : Int) → f_X12_law_L85 B  Q n v0 v1 v2 v3 Z I L := by
  intro n
  induction n with
  | zero =>
    intro v3 Z I L w_I bd_Z q_I cp_Z   li  me
    exfalso
    omega
  | succ n ih =>
    intro v3 Z I L w_I bd_Z q_I cp_Z   li  me
    unfold f_X12_law_L85
    have rv3 := i_rng v3
    have rv2 := i_rng v2
    have rv1 := i_rng v1
    have kv0_0 := kv0
    have kv0 := (q_I.1 _ _ kv0).1
    have xq_I := q_I.1
    refine ⟨fun c1 => ?_, fun c1 => ?_⟩
    · skip
      first | (have t2 : v2.toInt ≤ v3.toInt := (i_le rfl rfl).mp c1) | (have t2 : v2.toInt ≤ v3.toInt := (i_le rfl rfl).mp c1) | skip
      intro b3 eb3
      obtain ⟨x4, ex4, kb3, lb3⟩ := sh_f w_I.1 kv0 (j := 30) (k := 14) (m := 2) rfl
      cases eb3.symm.trans ex4
      have o5 : vp_in v1 2 := vi_of rfl (by omega) (by omega)
      refine ⟨o5, ?_⟩
      intro I6 eI6
      have w_I6 : WD Z I6 := by rw [eI6]; exact WD_putA w_I 12 30 kv0 eb3 kb3 rfl rfl (by decide) (by constructor <;> omega)
      have f_I6 : FR [(12, 30)] Z I Z I6 := by rw [eI6]; exact FR_upA w_I.2.1 kv0 eb3 kb3 rfl rfl List.mem_cons_self
      have q_I6 : FR Ws_X12_law Z0 I0 Z I6 := q_I.trans w0.1 w0.2.1 (f_I6.mono (by decide))
      have t7 : (0 : Int32).toInt = 0 := rfl
      exact hQ (0 : Int32) Z I6 L w_I6 bd_Z q_I6 cp_Z 
    · skip
      first | (have t8 : ¬ (v2.toInt ≤ v3.toInt) := (not_congr (i_le rfl rfl)).mp c1) | (have t8 : ¬ (v2.toInt ≤ v3.toInt) := (not_congr (i_le rfl rfl)).mp c1) | skip
      intro b9 eb9
      obtain ⟨x10, ex10, kb9, lb9⟩ := sh_f w_I.1 kv0 (j := 29) (k := 19) (m := 2) rfl
      cases eb9.symm.trans ex10
      have o11 : vp_in v1 2 := vi_of rfl (by omega) (by omega)
      refine ⟨o11, ?_⟩
      intro b12 eb12
      obtain ⟨x14, ex14, kb12, lb12⟩ := w_I.1.2.2.2 b9 kb9 _ (vp_lt (by rw [lb9]; exact o11))
      cases eb12.symm.trans ex14
      intro b15 eb15
      obtain ⟨x16, ex16, kb15, lb15⟩ := sh_f w_I.1 kv0 (j := 18) (k := 13) (m := 80) rfl
      cases eb15.symm.trans ex16
      have o17 : vp_in v3 80 := vi_of rfl (by omega) (by omega)
      refine ⟨o17, ?_⟩
      have o18 : vp_in v3 40 := vi_of rfl (by omega) (by omega)
      refine ⟨o18, ?_⟩
      intro I19 eI19
      have w_I19 : WD Z I19 := by rw [eI19]; exact WD_putA w_I 19 v1.toNatClampNeg kb9 eb12 kb12 rfl (by simp [jsr]) (by decide) trivial
      have m_I19 : (19, v1.toNatClampNeg) ∈ Ws_X12_law := by (have h9 := i_nat (x := v1) rfl (by omega); rcases (show v1.toNatClampNeg = 0 ∨ v1.toNatClampNeg = 1 by omega) with h | h <;> rw [h] <;> decide)
      have f_I19 : FR Ws_X12_law Z I Z I19 := by rw [eI19]; exact FR_upA w_I.2.1 kb9 eb12 kb12 rfl (by simp [jsr]) m_I19
      have q_I19 : FR Ws_X12_law Z0 I0 Z I19 := q_I.trans w0.1 w0.2.1 f_I19
      intro x20 ex20
      have rx20 := i_rng x20
      first | (have tx20 : x20.toInt = v3.toInt + (1) := by (rw [ex20]; exact (i_add rfl (show (1 : Int32).toInt = 1 from rfl) (by omega) (by omega)))) | skip
      exact ih x20 Z I19 L w_I19 bd_Z q_I19 cp_Z   (by omega)  (by omega)
set_option maxHeartbeats 4000000 in
set_option maxRecDepth 100000 in
theorem s_X12_law {B : Nat × Nat} {T : Nat} {Z : jZ} {I : jI} {L : jL} (w_I : WD Z I) (bd_Z : BUD B Z T) (v0 : Nat) (v1 : Int32) (kv0 : jk Z v0 12) {Q : Int32 → jZ → jI → jL → Prop} (hQ : ∀ (r : Int32) (Z' : jZ) (I' : jI) (L' : jL), WD Z' I' → BUD B Z' T → FR Ws_X12_law Z I Z' I' → CP Z Z' → Q r Z' I' L') : f_X12_law B v0 v1 Z I L Q := by
  unfold f_X12_law
  have q_I : FR Ws_X12_law Z I Z I := FR.rf
  have cp_Z : CP Z Z := CP.rf
  have rv1 := i_rng v1
  intro I21 eI21
  have t22 : (0 : Int32).toInt = 0 := rfl
  have w_I21 : WD Z I21 := by rw [eI21]; exact WD_putF w_I 12 22 kv0 (by decide) (by decide) trivial
  have f_I21 : FR [(12, 22)] Z I Z I21 := by rw [eI21]; exact FR_putF kv0 (by decide) List.mem_cons_self
  have q_I21 : FR Ws_X12_law Z I Z I21 := q_I.trans w_I.1 w_I.2.1 (f_I21.mono (by decide))
  first | (have u23 : (I21 v0 22).toInt = (0) := by (rw [eI21, show jpI I v0 22 (0 : Int32) v0 22 = (0 : Int32) from jpI_at] <;> exact (show (0 : Int32).toInt = 0 from rfl))) | skip
  have t25 : 0 ≤ (I21 v0 19).toInt ∧ (I21 v0 19).toInt ≤ 80 := w_I21.fld 12 19 kv0 (by decide)
  intro x26 ex26
  have rx26 := i_rng x26
  first | (have tx26 : x26.toInt = (I21 v0 19).toInt := by (rw [ex26]; exact rfl)) | (have tx26 : x26.toInt = (I21 v0 19).toInt := by rw [ex26])
  intro b27 eb27
  obtain ⟨x28, ex28, kb27, lb27⟩ := sh_f w_I21.1 kv0 (j := 18) (k := 13) (m := 80) rfl
  cases eb27.symm.trans ex28
  have t29 : (40 : Int32).toInt = 40 := rfl
  refine s_X12_begin w_I21 bd_Z v0 b27 x26 (40 : Int32) kv0 kb27 v0 12 18 kv0 eb27  (fun  Z33 I31 L32 w_I31 bd_Z33 f_I31 c_Z33 p30 => ?_)
  have q_I31 : FR Ws_X12_law Z I Z33 I31 := q_I21.trans w_I.1 w_I.2.1 (f_I31.mono (by decide))
  have cp_Z33 : CP Z Z33 := cp_Z.trans q_I21.1 c_Z33
  have x_Z33 := f_I31.1
  have k34 := (f_I31.1 _ _ kv0).1
  have k35 := (f_I31.1 _ _ kb27).1
  have l36 := (f_I31.1 _ _ kb27).2.trans lb27
  have k37 := (f_I31.1 _ _ kv0).1
  have e38 := (f_I31.2.1 v0 12 18 kv0 (by decide) (by decide)).trans eb27
  have u39 : (I31 v0 22).toInt = (I21 v0 22).toInt := by rw [f_I31.2.2.1 v0 12 22 kv0 (by decide) (by decide)]
  have u40 : (I31 v0 19).toInt = (I21 v0 19).toInt := by rw [f_I31.2.2.1 v0 12 19 kv0 (by decide) (by decide)]
  obtain ⟨p30_0, p30_1⟩ := p30
  have k41 := (f_I31.1 _ _ kb27).1
  have l42 := (f_I31.1 _ _ kb27).2
  have k43 := (f_I31.1 _ _ kv0).1
  have l44 := (f_I31.1 _ _ kb27).2.trans lb27
  intro I45 eI45
  have t46 : (0 : Int32).toInt = 0 := rfl
  have w_I45 : WD Z33 I45 := by rw [eI45]; exact WD_putF w_I31 12 19 k34 (by decide) (by decide) (by constructor <;> omega)
  have f_I45 : FR [(12, 19)] Z33 I31 Z33 I45 := by rw [eI45]; exact FR_putF k34 (by decide) List.mem_cons_self
  have q_I45 : FR Ws_X12_law Z I Z33 I45 := q_I31.trans w_I.1 w_I.2.1 (f_I45.mono (by decide))
  have u47 : (I45 v0 22).toInt = (I31 v0 22).toInt := by rw [f_I45.2.2.1 v0 12 22 k34 (by decide) (by decide)]
  have u48 : (I45 v0 24).toInt = (I31 v0 24).toInt := by rw [f_I45.2.2.1 v0 12 24 k43 (by decide) (by decide)]
  have u49 : (I45 v0 25).toInt = (I31 v0 25).toInt := by rw [f_I45.2.2.1 v0 12 25 k43 (by decide) (by decide)]
  have u50 : (I45 v0 26).toInt = (I31 v0 26).toInt := by rw [f_I45.2.2.1 v0 12 26 k43 (by decide) (by decide)]
  have u51 : (I45 v0 27).toInt = (I31 v0 27).toInt := by rw [f_I45.2.2.1 v0 12 27 k43 (by decide) (by decide)]
  first | (have u52 : (I45 v0 19).toInt = (0) := by (rw [eI45, show jpI I31 v0 19 (0 : Int32) v0 19 = (0 : Int32) from jpI_at] <;> exact (show (0 : Int32).toInt = 0 from rfl))) | skip
  have t53 : (0 : Int32).toInt = 0 := rfl
  have t54 : (1 : Int32).toInt = 1 := rfl
  refine s_X12_in w_I45 v1 (0 : Int32) (1 : Int32)    (fun r55 p56 => ?_)
  have rr55 := i_rng r55
  refine ⟨fun c57 => ?_, fun c57 => ?_⟩
  · skip
    first | (have t58 : ¬ (r55.toInt = (0)) := (not_congr (i_eq rfl (show (0 : Int32).toInt = 0 from rfl))).mp c57) | (have t58 : ¬ (r55.toInt = (0 : Int32).toInt) := (not_congr (i_eq rfl rfl)).mp c57) | skip
    intro I59 eI59
    have t60 : (-1 : Int32).toInt = -1 := rfl
    have w_I59 : WD Z33 I59 := by rw [eI59]; exact WD_putF w_I45 12 31 k34 (by decide) (by decide) trivial
    have f_I59 : FR [(12, 31)] Z33 I45 Z33 I59 := by rw [eI59]; exact FR_putF k34 (by decide) List.mem_cons_self
    have q_I59 : FR Ws_X12_law Z I Z33 I59 := q_I45.trans w_I.1 w_I.2.1 (f_I59.mono (by decide))
    have u61 : (I59 v0 22).toInt = (I45 v0 22).toInt := by rw [f_I59.2.2.1 v0 12 22 k34 (by decide) (by decide)]
    have u62 : (I59 v0 24).toInt = (I45 v0 24).toInt := by rw [f_I59.2.2.1 v0 12 24 k43 (by decide) (by decide)]
    have u63 : (I59 v0 25).toInt = (I45 v0 25).toInt := by rw [f_I59.2.2.1 v0 12 25 k43 (by decide) (by decide)]
    have u64 : (I59 v0 26).toInt = (I45 v0 26).toInt := by rw [f_I59.2.2.1 v0 12 26 k43 (by decide) (by decide)]
    have u65 : (I59 v0 27).toInt = (I45 v0 27).toInt := by rw [f_I59.2.2.1 v0 12 27 k43 (by decide) (by decide)]
    have u66 : (I59 v0 19).toInt = (I45 v0 19).toInt := by rw [f_I59.2.2.1 v0 12 19 k34 (by decide) (by decide)]
    first | (have u67 : (I59 v0 31).toInt = (-1) := by (rw [eI59, show jpI I45 v0 31 (-1 : Int32) v0 31 = (-1 : Int32) from jpI_at] <;> exact (show (-1 : Int32).toInt = -1 from rfl))) | skip
    refine ⟨fun c68 => ?_, fun c68 => ?_⟩
    · skip
      first | (have t69 : x26.toInt ≤ (0) := (i_le rfl (show (0 : Int32).toInt = 0 from rfl)).mp c68) | (have t69 : x26.toInt ≤ (0 : Int32).toInt := (i_le rfl rfl).mp c68) | skip
      unfold f_X12_law_b83
      have t70 : (0 : Int32).toInt = 0 := rfl
      exact ⟨(40 - (0 : Int32).toInt).toNat + 1, l_X12_law_L85 w_I v0 v1 kv0 x26  hQ   _ (0 : Int32) Z33 I59 L32 w_I59 bd_Z33 q_I59 cp_Z33   (by omega)  (by omega)⟩
    · skip
      first | (have t71 : ¬ (x26.toInt ≤ (0)) := (not_congr (i_le rfl (show (0 : Int32).toInt = 0 from rfl))).mp c68) | (have t71 : ¬ (x26.toInt ≤ (0 : Int32).toInt) := (not_congr (i_le rfl rfl)).mp c68) | skip
      have t72 : (0 : Int32).toInt = 0 := rfl
      refine (hs12 100) 0 (by decide) Z33 I59 L32 w_I59 v0 (0 : Int32) k34 b27 p30_0 k41 (by omega) (by omega) (by omega) (by omega) _ (fun r73 I75 L76 w_I75 f_I75 p77 => ?_)
      have q_I75 : FR Ws_X12_law Z I Z33 I75 := q_I59.trans w_I.1 w_I.2.1 (f_I75.mono (by decide))
      have u78 : (I75 v0 22).toInt = (I59 v0 22).toInt := by rw [f_I75.2.2.1 v0 12 22 k34 (by decide) (by decide)]
      have u79 : (I75 v0 24).toInt = (I59 v0 24).toInt := by rw [f_I75.2.2.1 v0 12 24 k43 (by decide) (by decide)]
      have u80 : (I75 v0 25).toInt = (I59 v0 25).toInt := by rw [f_I75.2.2.1 v0 12 25 k43 (by decide) (by decide)]
      have u81 : (I75 v0 19).toInt = (I59 v0 19).toInt := by rw [f_I75.2.2.1 v0 12 19 k34 (by decide) (by decide)]
      have u82 : (I75 v0 31).toInt = (I59 v0 31).toInt := by rw [f_I75.2.2.1 v0 12 31 k34 (by decide) (by decide)]
      have rr73 := i_rng r73
      refine ⟨fun c83 => ?_, fun c83 => ?_⟩
      · skip
        first | (have t84 : x26.toInt ≤ (I75 v0 26).toInt := (i_le rfl rfl).mp c83) | (have t84 : x26.toInt ≤ (I75 v0 26).toInt := (i_le rfl rfl).mp c83) | skip
        unfold f_X12_law_b69
        refine s_X12_fine w_I75 v0 k34   (fun r85 p86 => ?_)
        have rr85 := i_rng r85
        refine ⟨fun c87 => ?_, fun c87 => ?_⟩
        · skip
          first | (have t88 : ¬ (r85.toInt = (0)) := (not_congr (i_eq rfl (show (0 : Int32).toInt = 0 from rfl))).mp c87) | (have t88 : ¬ (r85.toInt = (0 : Int32).toInt) := (not_congr (i_eq rfl rfl)).mp c87) | skip
          unfold f_X12_law_b83
          have t89 : (0 : Int32).toInt = 0 := rfl
          exact ⟨(40 - (0 : Int32).toInt).toNat + 1, l_X12_law_L85 w_I v0 v1 kv0 x26  hQ   _ (0 : Int32) Z33 I75 L76 w_I75 bd_Z33 q_I75 cp_Z33   (by omega)  (by omega)⟩
        · skip
          first | (have t90 : r85.toInt = (0) := (i_eq rfl (show (0 : Int32).toInt = 0 from rfl)).mp c87) | (have t90 : r85.toInt = (0 : Int32).toInt := (i_eq rfl rfl).mp c87) | skip
          try (have t91 : ((-1 : Int32) - (I75 v0 27)).toInt = ((-1) - (I75 v0 27).toInt) := (i_sub (show (-1 : Int32).toInt = -1 from rfl) rfl (by omega) (by omega)))
          exact hQ ((-1 : Int32) - (I75 v0 27)) Z33 I75 L76 w_I75 bd_Z33 q_I75 cp_Z33 
      · skip
        first | (have t92 : ¬ (x26.toInt ≤ (I75 v0 26).toInt) := (not_congr (i_le rfl rfl)).mp c83) | (have t92 : ¬ (x26.toInt ≤ (I75 v0 26).toInt) := (not_congr (i_le rfl rfl)).mp c83) | skip
        refine s_X12_fault w_I75 v0 (I75 v0 26) k34   (fun  I94 L95 w_I94 f_I94 p93 => ?_)
        have q_I94 : FR Ws_X12_law Z I Z33 I94 := q_I75.trans w_I.1 w_I.2.1 (f_I94.mono (by decide))
        have u96 : (I94 v0 22).toInt = (I75 v0 22).toInt := by rw [f_I94.2.2.1 v0 12 22 k34 (by decide) (by decide)]
        have u97 : (I94 v0 24).toInt = (I75 v0 24).toInt := by rw [f_I94.2.2.1 v0 12 24 k43 (by decide) (by decide)]
        have u98 : (I94 v0 25).toInt = (I75 v0 25).toInt := by rw [f_I94.2.2.1 v0 12 25 k43 (by decide) (by decide)]
        have u99 : (I94 v0 19).toInt = (I75 v0 19).toInt := by rw [f_I94.2.2.1 v0 12 19 k34 (by decide) (by decide)]
        have u100 : (I94 v0 31).toInt = (I75 v0 31).toInt := by rw [f_I94.2.2.1 v0 12 31 k34 (by decide) (by decide)]
        have u101 : (I94 v0 26).toInt = (I75 v0 26).toInt := by rw [f_I94.2.2.1 v0 12 26 k34 (by decide) (by decide)]
        unfold f_X12_law_b69
        refine s_X12_fine w_I94 v0 k34   (fun r102 p103 => ?_)
        have rr102 := i_rng r102
        refine ⟨fun c104 => ?_, fun c104 => ?_⟩
        · skip
          first | (have t105 : ¬ (r102.toInt = (0)) := (not_congr (i_eq rfl (show (0 : Int32).toInt = 0 from rfl))).mp c104) | (have t105 : ¬ (r102.toInt = (0 : Int32).toInt) := (not_congr (i_eq rfl rfl)).mp c104) | skip
          unfold f_X12_law_b83
          have t106 : (0 : Int32).toInt = 0 := rfl
          exact ⟨(40 - (0 : Int32).toInt).toNat + 1, l_X12_law_L85 w_I v0 v1 kv0 x26  hQ   _ (0 : Int32) Z33 I94 L95 w_I94 bd_Z33 q_I94 cp_Z33   (by omega)  (by omega)⟩
        · skip
          first | (have t107 : r102.toInt = (0) := (i_eq rfl (show (0 : Int32).toInt = 0 from rfl)).mp c104) | (have t107 : r102.toInt = (0 : Int32).toInt := (i_eq rfl rfl).mp c104) | skip
          try (have t108 : ((-1 : Int32) - (I94 v0 27)).toInt = ((-1) - (I94 v0 27).toInt) := (i_sub (show (-1 : Int32).toInt = -1 from rfl) rfl (by omega) (by omega)))
          exact hQ ((-1 : Int32) - (I94 v0 27)) Z33 I94 L95 w_I94 bd_Z33 q_I94 cp_Z33 
  · skip
    first | (have t109 : r55.toInt = (0) := (i_eq rfl (show (0 : Int32).toInt = 0 from rfl)).mp c57) | (have t109 : r55.toInt = (0 : Int32).toInt := (i_eq rfl rfl).mp c57) | skip
    have t110 : (-100 : Int32).toInt = -100 := rfl
    exact hQ (-100 : Int32) Z33 I45 L32 w_I45 bd_Z33 q_I45 cp_Z33 
def Ws_X12_lawOf : List (Nat × Nat) := [(12, 24), (12, 25), (12, 26), (12, 27), (12, 31), (12, 32), (12, 33), (12, 34)]
set_option maxHeartbeats 4000000 in
set_option maxRecDepth 100000 in
theorem s_X12_lawOf {B : Nat × Nat} {T : Nat} {Z : jZ} {I : jI} {L : jL} (w_I : WD Z I) (bd_Z : BUD B Z T) (v0 : Nat) (v1 : Int32) (v2 : Int32) (v3 : Int32) (v4 : Int32) (v5 : Int32) (kv0 : jk Z v0 12) (p0 : 0 ≤ v1.toInt ∧ v1.toInt ≤ 1 ∧ 0 ≤ v2.toInt ∧ v2.toInt ≤ 23 ∧ -1 ≤ v3.toInt ∧ v3.toInt ≤ 23) {Q : Int32 → jZ → jI → jL → Prop} (hQ : ∀ (r : Int32) (Z' : jZ) (I' : jI) (L' : jL), WD Z' I' → BUD B Z' T → FR Ws_X12_lawOf Z I Z' I' → CP Z Z' → (0 ≤ r.toInt ∧ r.toInt ≤ 99) → Q r Z' I' L') : f_X12_lawOf B v0 v1 v2 v3 v4 v5 Z I L Q := by
  unfold f_X12_lawOf
  have q_I : FR Ws_X12_lawOf Z I Z I := FR.rf
  have cp_Z : CP Z Z := CP.rf
  have rv1 := i_rng v1
  have rv2 := i_rng v2
  have rv3 := i_rng v3
  have rv4 := i_rng v4
  have rv5 := i_rng v5
  intro b1 eb1
  obtain ⟨x2, ex2, kb1, lb1⟩ := sh_f w_I.1 kv0 (j := 30) (k := 14) (m := 2) rfl
  cases eb1.symm.trans ex2
  have o3 : vp_in v1 2 := vi_of rfl (by omega) (by omega)
  refine ⟨o3, ?_⟩
  have t4 : 0 ≤ (I b1 v1.toNatClampNeg).toInt ∧ (I b1 v1.toNatClampNeg).toInt ≤ 40 := w_I.arr 12 30 kv0 eb1 kb1 rfl rfl _
  refine ⟨fun c5 => ?_, fun c5 => ?_⟩
  · skip
    first | (have t6 : ¬ ((I b1 v1.toNatClampNeg).toInt = (0)) := (not_congr (i_eq rfl (show (0 : Int32).toInt = 0 from rfl))).mp c5) | (have t6 : ¬ ((I b1 v1.toNatClampNeg).toInt = (0 : Int32).toInt) := (not_congr (i_eq rfl rfl)).mp c5) | skip
    intro b7 eb7
    obtain ⟨x8, ex8, kb7, lb7⟩ := sh_f w_I.1 kv0 (j := 29) (k := 19) (m := 2) rfl
    cases eb7.symm.trans ex8
    have o9 : vp_in v1 2 := vi_of rfl (by omega) (by omega)
    refine ⟨o9, ?_⟩
    intro b10 eb10
    obtain ⟨x12, ex12, kb10, lb10⟩ := w_I.1.2.2.2 b7 kb7 _ (vp_lt (by rw [lb7]; exact o9))
    cases eb10.symm.trans ex12
    intro b13 eb13
    obtain rfl : b1 = b13 := Option.some.inj (eb1.symm.trans eb13)
    have o14 : vp_in v1 2 := vi_of rfl (by omega) (by omega)
    refine ⟨o14, ?_⟩
    have t15 : 0 ≤ (I b1 v1.toNatClampNeg).toInt ∧ (I b1 v1.toNatClampNeg).toInt ≤ 40 := w_I.arr 12 30 kv0 eb1 kb1 rfl rfl _
    have t16 : (40 : Int32).toInt = 40 := rfl
    refine s_X12_begin w_I bd_Z v0 b10 (I b1 v1.toNatClampNeg) (40 : Int32) kv0 kb10 b7 19 (v1.toNatClampNeg) kb7 eb10  (fun  Z20 I18 L19 w_I18 bd_Z20 f_I18 c_Z20 p17 => ?_)
    have q_I18 : FR Ws_X12_lawOf Z I Z20 I18 := q_I.trans w_I.1 w_I.2.1 (f_I18.mono (by decide))
    have cp_Z20 : CP Z Z20 := cp_Z.trans q_I.1 c_Z20
    have x_Z20 := f_I18.1
    have k21 := (f_I18.1 _ _ kv0).1
    have k22 := (f_I18.1 _ _ kb1).1
    have l23 := (f_I18.1 _ _ kb1).2.trans lb1
    have k24 := (f_I18.1 _ _ kv0).1
    have e25 := (f_I18.2.1 v0 12 30 kv0 (by decide) (by decide)).trans eb1
    have k26 := (f_I18.1 _ _ kb7).1
    have l27 := (f_I18.1 _ _ kb7).2.trans lb7
    have k28 := (f_I18.1 _ _ kv0).1
    have e29 := (f_I18.2.1 v0 12 29 kv0 (by decide) (by decide)).trans eb7
    obtain ⟨p17_0, p17_1⟩ := p17
    have k30 := (f_I18.1 _ _ kb10).1
    have l31 := (f_I18.1 _ _ kb10).2
    have k32 := (f_I18.1 _ _ kv0).1
    have l33 := (f_I18.1 _ _ kb10).2.trans lb10
    intro I34 eI34
    have w_I34 : WD Z20 I34 := by rw [eI34]; exact WD_putF w_I18 12 31 k21 (by decide) (by decide) trivial
    have f_I34 : FR [(12, 31)] Z20 I18 Z20 I34 := by rw [eI34]; exact FR_putF k21 (by decide) List.mem_cons_self
    have q_I34 : FR Ws_X12_lawOf Z I Z20 I34 := q_I18.trans w_I.1 w_I.2.1 (f_I34.mono (by decide))
    have u35 : (I34 v0 24).toInt = (I18 v0 24).toInt := by rw [f_I34.2.2.1 v0 12 24 k32 (by decide) (by decide)]
    have u36 : (I34 v0 25).toInt = (I18 v0 25).toInt := by rw [f_I34.2.2.1 v0 12 25 k32 (by decide) (by decide)]
    have u37 : (I34 v0 26).toInt = (I18 v0 26).toInt := by rw [f_I34.2.2.1 v0 12 26 k32 (by decide) (by decide)]
    have u38 : (I34 v0 27).toInt = (I18 v0 27).toInt := by rw [f_I34.2.2.1 v0 12 27 k32 (by decide) (by decide)]
    first | (have u39 : (I34 v0 31).toInt = v2.toInt := by (rw [eI34, show jpI I18 v0 31 v2 v0 31 = v2 from jpI_at] <;> exact rfl)) | skip
    intro I40 eI40
    have w_I40 : WD Z20 I40 := by rw [eI40]; exact WD_putF w_I34 12 32 k21 (by decide) (by decide) trivial
    have f_I40 : FR [(12, 32)] Z20 I34 Z20 I40 := by rw [eI40]; exact FR_putF k21 (by decide) List.mem_cons_self
    have q_I40 : FR Ws_X12_lawOf Z I Z20 I40 := q_I34.trans w_I.1 w_I.2.1 (f_I40.mono (by decide))
    have u41 : (I40 v0 24).toInt = (I34 v0 24).toInt := by rw [f_I40.2.2.1 v0 12 24 k32 (by decide) (by decide)]
    have u42 : (I40 v0 25).toInt = (I34 v0 25).toInt := by rw [f_I40.2.2.1 v0 12 25 k32 (by decide) (by decide)]
    have u43 : (I40 v0 26).toInt = (I34 v0 26).toInt := by rw [f_I40.2.2.1 v0 12 26 k32 (by decide) (by decide)]
    have u44 : (I40 v0 27).toInt = (I34 v0 27).toInt := by rw [f_I40.2.2.1 v0 12 27 k32 (by decide) (by decide)]
    have u45 : (I40 v0 31).toInt = (I34 v0 31).toInt := by rw [f_I40.2.2.1 v0 12 31 k21 (by decide) (by decide)]
    first | (have u46 : (I40 v0 32).toInt = v3.toInt := by (rw [eI40, show jpI I34 v0 32 v3 v0 32 = v3 from jpI_at] <;> exact rfl)) | skip
    intro I47 eI47
    have w_I47 : WD Z20 I47 := by rw [eI47]; exact WD_putF w_I40 12 33 k21 (by decide) (by decide) trivial
    have f_I47 : FR [(12, 33)] Z20 I40 Z20 I47 := by rw [eI47]; exact FR_putF k21 (by decide) List.mem_cons_self
    have q_I47 : FR Ws_X12_lawOf Z I Z20 I47 := q_I40.trans w_I.1 w_I.2.1 (f_I47.mono (by decide))
    have u48 : (I47 v0 24).toInt = (I40 v0 24).toInt := by rw [f_I47.2.2.1 v0 12 24 k32 (by decide) (by decide)]
    have u49 : (I47 v0 25).toInt = (I40 v0 25).toInt := by rw [f_I47.2.2.1 v0 12 25 k32 (by decide) (by decide)]
    have u50 : (I47 v0 26).toInt = (I40 v0 26).toInt := by rw [f_I47.2.2.1 v0 12 26 k32 (by decide) (by decide)]
    have u51 : (I47 v0 27).toInt = (I40 v0 27).toInt := by rw [f_I47.2.2.1 v0 12 27 k32 (by decide) (by decide)]
    have u52 : (I47 v0 31).toInt = (I40 v0 31).toInt := by rw [f_I47.2.2.1 v0 12 31 k21 (by decide) (by decide)]
    have u53 : (I47 v0 32).toInt = (I40 v0 32).toInt := by rw [f_I47.2.2.1 v0 12 32 k21 (by decide) (by decide)]
    first | (have u54 : (I47 v0 33).toInt = v4.toInt := by (rw [eI47, show jpI I40 v0 33 v4 v0 33 = v4 from jpI_at] <;> exact rfl)) | skip
    intro I55 eI55
    have w_I55 : WD Z20 I55 := by rw [eI55]; exact WD_putF w_I47 12 34 k21 (by decide) (by decide) trivial
    have f_I55 : FR [(12, 34)] Z20 I47 Z20 I55 := by rw [eI55]; exact FR_putF k21 (by decide) List.mem_cons_self
    have q_I55 : FR Ws_X12_lawOf Z I Z20 I55 := q_I47.trans w_I.1 w_I.2.1 (f_I55.mono (by decide))
    have u56 : (I55 v0 24).toInt = (I47 v0 24).toInt := by rw [f_I55.2.2.1 v0 12 24 k32 (by decide) (by decide)]
    have u57 : (I55 v0 25).toInt = (I47 v0 25).toInt := by rw [f_I55.2.2.1 v0 12 25 k32 (by decide) (by decide)]
    have u58 : (I55 v0 26).toInt = (I47 v0 26).toInt := by rw [f_I55.2.2.1 v0 12 26 k32 (by decide) (by decide)]
    have u59 : (I55 v0 27).toInt = (I47 v0 27).toInt := by rw [f_I55.2.2.1 v0 12 27 k32 (by decide) (by decide)]
    have u60 : (I55 v0 31).toInt = (I47 v0 31).toInt := by rw [f_I55.2.2.1 v0 12 31 k21 (by decide) (by decide)]
    have u61 : (I55 v0 32).toInt = (I47 v0 32).toInt := by rw [f_I55.2.2.1 v0 12 32 k21 (by decide) (by decide)]
    have u62 : (I55 v0 33).toInt = (I47 v0 33).toInt := by rw [f_I55.2.2.1 v0 12 33 k21 (by decide) (by decide)]
    first | (have u63 : (I55 v0 34).toInt = v5.toInt := by (rw [eI55, show jpI I47 v0 34 v5 v0 34 = v5 from jpI_at] <;> exact rfl)) | skip
    have t64 : (0 : Int32).toInt = 0 := rfl
    refine (hs12 100) 0 (by decide) Z20 I55 L19 w_I55 v0 (0 : Int32) k21 b10 p17_0 k30 (by omega) (by omega) (by omega) (by omega) _ (fun r65 I67 L68 w_I67 f_I67 p69 => ?_)
    have q_I67 : FR Ws_X12_lawOf Z I Z20 I67 := q_I55.trans w_I.1 w_I.2.1 (f_I67.mono (by decide))
    have u70 : (I67 v0 24).toInt = (I55 v0 24).toInt := by rw [f_I67.2.2.1 v0 12 24 k32 (by decide) (by decide)]
    have u71 : (I67 v0 25).toInt = (I55 v0 25).toInt := by rw [f_I67.2.2.1 v0 12 25 k32 (by decide) (by decide)]
    have u72 : (I67 v0 31).toInt = (I55 v0 31).toInt := by rw [f_I67.2.2.1 v0 12 31 k21 (by decide) (by decide)]
    have u73 : (I67 v0 32).toInt = (I55 v0 32).toInt := by rw [f_I67.2.2.1 v0 12 32 k21 (by decide) (by decide)]
    have u74 : (I67 v0 33).toInt = (I55 v0 33).toInt := by rw [f_I67.2.2.1 v0 12 33 k21 (by decide) (by decide)]
    have u75 : (I67 v0 34).toInt = (I55 v0 34).toInt := by rw [f_I67.2.2.1 v0 12 34 k21 (by decide) (by decide)]
    have rr65 := i_rng r65
    try (have t76 : (if (0 : Int32) < (if r65 < (99 : Int32) then r65 else (99 : Int32)) then (if r65 < (99 : Int32) then r65 else (99 : Int32)) else (0 : Int32)).toInt = (max (0) (min (99) r65.toInt)) := (i_max (show (0 : Int32).toInt = 0 from rfl) (i_min (show (99 : Int32).toInt = 99 from rfl) rfl)))
    exact hQ (if (0 : Int32) < (if r65 < (99 : Int32) then r65 else (99 : Int32)) then (if r65 < (99 : Int32) then r65 else (99 : Int32)) else (0 : Int32)) Z20 I67 L68 w_I67 bd_Z20 q_I67 cp_Z20 (by omega)
  · skip
    first | (have t77 : (I b1 v1.toNatClampNeg).toInt = (0) := (i_eq rfl (show (0 : Int32).toInt = 0 from rfl)).mp c5) | (have t77 : (I b1 v1.toNatClampNeg).toInt = (0 : Int32).toInt := (i_eq rfl rfl).mp c5) | skip
    refine ⟨fun c78 => ?_, fun c78 => ?_⟩
    · skip
      first | (have t79 : v1.toInt = (1) := (i_eq rfl (show (1 : Int32).toInt = 1 from rfl)).mp c78) | (have t79 : v1.toInt = (1 : Int32).toInt := (i_eq rfl rfl).mp c78) | skip
      unfold f_X12_lawOf_b23
      have t80 : (0 : Int32).toInt = 0 := rfl
      exact hQ (0 : Int32) Z I L w_I bd_Z q_I cp_Z (by omega)
    · skip
      first | (have t81 : ¬ (v1.toInt = (1)) := (not_congr (i_eq rfl (show (1 : Int32).toInt = 1 from rfl))).mp c78) | (have t81 : ¬ (v1.toInt = (1 : Int32).toInt) := (not_congr (i_eq rfl rfl)).mp c78) | skip
      intro b82 eb82
      obtain ⟨x83, ex83, kb82, lb82⟩ := sh_f w_I.1 kv0 (j := 4) (k := 16) (m := 24) rfl
      cases eb82.symm.trans ex83
      have o84 : vp_in v2 24 := vi_of rfl (by omega) (by omega)
      refine ⟨o84, ?_⟩
      refine ⟨fun c85 => ?_, fun c85 => ?_⟩
      · skip
        first | (have t86 : (I b82 v2.toNatClampNeg).toInt = (0) := (i_eq rfl (show (0 : Int32).toInt = 0 from rfl)).mp c85) | (have t86 : (I b82 v2.toNatClampNeg).toInt = (0 : Int32).toInt := (i_eq rfl rfl).mp c85) | skip
        intro b87 eb87
        obtain ⟨x88, ex88, kb87, lb87⟩ := sh_f w_I.1 kv0 (j := 3) (k := 14) (m := 24) rfl
        cases eb87.symm.trans ex88
        have o89 : vp_in v2 24 := vi_of rfl (by omega) (by omega)
        refine ⟨o89, ?_⟩
        have t90 : 0 ≤ (I b87 v2.toNatClampNeg).toInt ∧ (I b87 v2.toNatClampNeg).toInt ≤ 20 := w_I.arr 12 3 kv0 eb87 kb87 rfl rfl _
        exact hQ (I b87 v2.toNatClampNeg) Z I L w_I bd_Z q_I cp_Z (by omega)
      · skip
        first | (have t91 : ¬ ((I b82 v2.toNatClampNeg).toInt = (0)) := (not_congr (i_eq rfl (show (0 : Int32).toInt = 0 from rfl))).mp c85) | (have t91 : ¬ ((I b82 v2.toNatClampNeg).toInt = (0 : Int32).toInt) := (not_congr (i_eq rfl rfl)).mp c85) | skip
        unfold f_X12_lawOf_b23
        have t92 : (0 : Int32).toInt = 0 := rfl
        exact hQ (0 : Int32) Z I L w_I bd_Z q_I cp_Z (by omega)
set_option maxHeartbeats 4000000 in
set_option maxRecDepth 100000 in
theorem l_X12_effortOf_L8 {Z : jZ} {I : jI} {L : jL} {Q : Int32 → jI → jL → Prop} (w_I : WD Z I) (v0 : Nat) (v1 : Int32) (v2 : Int32) (v3 : Int32) (kv0 : jk Z v0 12) (p0 : 0 ≤ v1.toInt ∧ v1.toInt ≤ 5 ∧ -1 ≤ v2.toInt ∧ v2.toInt < v3.toInt ∧ v3.toInt ≤ 23 ∧ v3.toInt - v2.toInt ≤ 3) (hQ : ∀ (r : Int32), (0 ≤ r.toInt ∧ r.toInt ≤ 999) → Q r I L) : ∀ (n : Nat) (v4 : Int32) (v5 : Int32) ,   (v2.toInt < v5.toInt ∧ v5.toInt ≤ v3.toInt + 1 ∧ 0 ≤ v4.toInt ∧ v4.toInt ≤ 30 * (v5.toInt - v2.toInt - 1)) → v3.toInt + 1 - v5.toInt < (n : Int) → f_X12_effortOf_L8  Z Q n v0 v1 v2 v3 v4 v5 I L := by
  intro n
  induction n with
  | zero =>
    intro v4 v5   li  me
    exfalso
    omega
  | succ n ih =>
    intro v4 v5   li  me
    unfold f_X12_effortOf_L8
    have rv4 := i_rng v4
    have rv5 := i_rng v5
    have rv1 := i_rng v1
    have rv2 := i_rng v2
    have rv3 := i_rng v3
    refine ⟨fun c1 => ?_, fun c1 => ?_⟩
    · skip
      first | (have t2 : v3.toInt < v5.toInt := (i_lt rfl rfl).mp c1) | (have t2 : v3.toInt < v5.toInt := (i_lt rfl rfl).mp c1) | skip
      intro b3 eb3
      obtain ⟨x4, ex4, kb3, lb3⟩ := sh_f w_I.1 kv0 (j := 12) (k := 14) (m := 6) rfl
      cases eb3.symm.trans ex4
      have o5 : vp_in v1 6 := vi_of rfl (by omega) (by omega)
      refine ⟨o5, ?_⟩
      have t6 : 0 ≤ (I b3 v1.toNatClampNeg).toInt ∧ (I b3 v1.toNatClampNeg).toInt ≤ 50 := w_I.arr 12 12 kv0 eb3 kb3 rfl rfl _
      have t7 : 0 ≤ (v4 * ((10 : Int32) + (I b3 v1.toNatClampNeg))).toInt ∧ (v4 * ((10 : Int32) + (I b3 v1.toNatClampNeg))).toInt ≤ 5400 := i_mulb (M := 90) (N := 60) rfl (i_add (show (10 : Int32).toInt = 10 from rfl) rfl (by omega) (by omega)) (by omega) (by omega) (by omega) (by omega) (by decide)
      intro b8 eb8
      obtain ⟨x9, ex9, kb8, lb8⟩ := sh_f w_I.1 kv0 (j := 2) (k := 14) (m := 24) rfl
      cases eb8.symm.trans ex9
      have o10 : vp_in v3 24 := vi_of rfl (by omega) (by omega)
      refine ⟨o10, ?_⟩
      have t11 : 0 ≤ (I b8 v3.toNatClampNeg).toInt ∧ (I b8 v3.toNatClampNeg).toInt ≤ 9 := w_I.arr 12 2 kv0 eb8 kb8 rfl rfl _
      try (have t12 : (((((v4 * ((10 : Int32) + (I b3 v1.toNatClampNeg))) / (10 : Int32)) + (9 : Int32)) - (I b8 v3.toNatClampNeg)) + ((5 : Int32) * ((v3 - v2) - (1 : Int32)))).toInt = (((((v4 * ((10 : Int32) + (I b3 v1.toNatClampNeg))).toInt / (10)) + (9)) - (I b8 v3.toNatClampNeg).toInt) + ((5) * ((v3.toInt - v2.toInt) - (1)))) := (i_add (i_sub (i_add (i_div rfl (show (10 : Int32).toInt = 10 from rfl) (by omega) (by omega)) (show (9 : Int32).toInt = 9 from rfl) (by omega) (by omega)) rfl (by omega) (by omega)) (i_mul (show (5 : Int32).toInt = 5 from rfl) (i_sub (i_sub rfl rfl (by omega) (by omega)) (show (1 : Int32).toInt = 1 from rfl) (by omega) (by omega)) (by omega) (by omega)) (by omega) (by omega)))
      exact hQ (((((v4 * ((10 : Int32) + (I b3 v1.toNatClampNeg))) / (10 : Int32)) + (9 : Int32)) - (I b8 v3.toNatClampNeg)) + ((5 : Int32) * ((v3 - v2) - (1 : Int32)))) (by omega)
    · skip
      first | (have t13 : ¬ (v3.toInt < v5.toInt) := (not_congr (i_lt rfl rfl)).mp c1) | (have t13 : ¬ (v3.toInt < v5.toInt) := (not_congr (i_lt rfl rfl)).mp c1) | skip
      intro b14 eb14
      obtain ⟨x15, ex15, kb14, lb14⟩ := sh_f w_I.1 kv0 (j := 1) (k := 14) (m := 24) rfl
      cases eb14.symm.trans ex15
      have o16 : vp_in v5 24 := vi_of rfl (by omega) (by omega)
      refine ⟨o16, ?_⟩
      have t17 : 0 ≤ (I b14 v5.toNatClampNeg).toInt ∧ (I b14 v5.toNatClampNeg).toInt ≤ 30 := w_I.arr 12 1 kv0 eb14 kb14 rfl rfl _
      intro x18 ex18
      have rx18 := i_rng x18
      first | (have tx18 : x18.toInt = (v4.toInt + (I b14 v5.toNatClampNeg).toInt) := by (rw [ex18]; exact (i_add rfl rfl (by omega) (by omega)))) | (have tx18 : x18.toInt = (v4 + (I b14 v5.toNatClampNeg)).toInt := by rw [ex18])
      intro x19 ex19
      have rx19 := i_rng x19
      first | (have tx19 : x19.toInt = v5.toInt + (1) := by (rw [ex19]; exact (i_add rfl (show (1 : Int32).toInt = 1 from rfl) (by omega) (by omega)))) | skip
      exact ih x18 x19   (by omega)  (by omega)
set_option maxHeartbeats 4000000 in
set_option maxRecDepth 100000 in
theorem s_X12_effortOf {Z : jZ} {I : jI} {L : jL} (w_I : WD Z I) (v0 : Nat) (v1 : Int32) (v2 : Int32) (v3 : Int32) (kv0 : jk Z v0 12) (p0 : 0 ≤ v1.toInt ∧ v1.toInt ≤ 5 ∧ -1 ≤ v2.toInt ∧ v2.toInt < v3.toInt ∧ v3.toInt ≤ 23 ∧ v3.toInt - v2.toInt ≤ 3) {Q : Int32 → jI → jL → Prop} (hQ : ∀ (r : Int32), (0 ≤ r.toInt ∧ r.toInt ≤ 999) → Q r I L) : f_X12_effortOf v0 v1 v2 v3 Z I L Q := by
  unfold f_X12_effortOf
  have rv1 := i_rng v1
  have rv2 := i_rng v2
  have rv3 := i_rng v3
  intro x20 ex20
  have rx20 := i_rng x20
  first | (have tx20 : x20.toInt = (v2.toInt + (1)) := by (rw [ex20]; exact (i_add rfl (show (1 : Int32).toInt = 1 from rfl) (by omega) (by omega)))) | (have tx20 : x20.toInt = (v2 + (1 : Int32)).toInt := by rw [ex20])
  have t21 : (0 : Int32).toInt = 0 := rfl
  exact ⟨(v3.toInt + 1 - x20.toInt).toNat + 1, l_X12_effortOf_L8 w_I v0 v1 v2 v3 kv0 p0   hQ   _ (0 : Int32) x20   (by omega)  (by omega)⟩
def Ws_X12_costOf : List (Nat × Nat) := [(12, 24), (12, 25), (12, 26), (12, 27), (12, 31), (12, 32), (12, 33), (12, 34)]
set_option maxHeartbeats 4000000 in
set_option maxRecDepth 100000 in
theorem l_X12_costOf_L29 {B : Nat × Nat} {T : Nat} {Z0 : jZ} {I0 : jI} {Q : Int32 → jZ → jI → jL → Prop} (w0 : WD Z0 I0) (v0 : Nat) (v1 : Int32) (v2 : Int32) (v3 : Int32) (kv0 : jk Z0 v0 12) (p0 : 0 ≤ v1.toInt ∧ v1.toInt ≤ 5 ∧ -1 ≤ v2.toInt ∧ v2.toInt < v3.toInt ∧ v3.toInt ≤ 23 ∧ v3.toInt - v2.toInt ≤ 3) (v4 : Int32) (hQ : ∀ (r : Int32) (Z' : jZ) (I' : jI) (L' : jL), WD Z' I' → BUD B Z' T → FR Ws_X12_costOf Z0 I0 Z' I' → CP Z0 Z' → (0 ≤ r.toInt ∧ r.toInt ≤ 297) → Q r Z' I' L') : ∀ (n : Nat) (v5 : Int32) (v6 : Int32) (Z : jZ) (I : jI) (L : jL), WD Z I → BUD B Z T → FR Ws_X12_costOf Z0 I0 Z I → CP Z0 Z →   (v2.toInt < v6.toInt ∧ v6.toInt ≤ v3.toInt ∧ 0 ≤ v5.toInt ∧ v5.toInt ≤ 99 * (v6.toInt - v2.toInt)) → v3.toInt - v6.toInt < (n : Int) → f_X12_costOf_L29 B  Q n v0 v1 v2 v3 v4 v5 v6 Z I L := by
  intro n
  induction n with
  | zero =>
    intro v5 v6 Z I L w_I bd_Z q_I cp_Z   li  me
    exfalso
    omega
  | succ n ih =>
    intro v5 v6 Z I L w_I bd_Z q_I cp_Z   li  me
    unfold f_X12_costOf_L29
    have rv5 := i_rng v5
    have rv6 := i_rng v6
    have rv4 := i_rng v4
    have rv1 := i_rng v1
    have rv2 := i_rng v2
    have rv3 := i_rng v3
    have kv0_0 := kv0
    have kv0 := (q_I.1 _ _ kv0).1
    have xq_I := q_I.1
    refine ⟨fun c1 => ?_, fun c1 => ?_⟩
    · skip
      first | (have t2 : v3.toInt ≤ v6.toInt := (i_le rfl rfl).mp c1) | (have t2 : v3.toInt ≤ v6.toInt := (i_le rfl rfl).mp c1) | skip
      exact hQ v5 Z I L w_I bd_Z q_I cp_Z (by omega)
    · skip
      first | (have t3 : ¬ (v3.toInt ≤ v6.toInt) := (not_congr (i_le rfl rfl)).mp c1) | (have t3 : ¬ (v3.toInt ≤ v6.toInt) := (not_congr (i_le rfl rfl)).mp c1) | skip
      intro b4 eb4
      obtain ⟨x5, ex5, kb4, lb4⟩ := sh_f w_I.1 kv0 (j := 12) (k := 14) (m := 6) rfl
      cases eb4.symm.trans ex5
      have o6 : vp_in v1 6 := vi_of rfl (by omega) (by omega)
      refine ⟨o6, ?_⟩
      have t7 : 0 ≤ (I b4 v1.toNatClampNeg).toInt ∧ (I b4 v1.toNatClampNeg).toInt ≤ 50 := w_I.arr 12 12 kv0 eb4 kb4 rfl rfl _
      have t8 : (1 : Int32).toInt = 1 := rfl
      refine s_X12_lawOf w_I bd_Z v0 (1 : Int32) v6 v2 (I b4 v1.toNatClampNeg) v4 kv0  (by omega) (fun r9 Z13 I11 L12 w_I11 bd_Z13 f_I11 c_Z13 p10 => ?_)
      have q_I11 : FR Ws_X12_costOf Z0 I0 Z13 I11 := q_I.trans w0.1 w0.2.1 (f_I11.mono (by decide))
      have cp_Z13 : CP Z0 Z13 := cp_Z.trans q_I.1 c_Z13
      have x_Z13 := f_I11.1
      have k14 := (f_I11.1 _ _ kv0).1
      have k15 := (f_I11.1 _ _ kb4).1
      have l16 := (f_I11.1 _ _ kb4).2.trans lb4
      have k17 := (f_I11.1 _ _ kv0).1
      have e18 := (f_I11.2.1 v0 12 12 kv0 (by decide) (by decide)).trans eb4
      have rr9 := i_rng r9
      intro x19 ex19
      have rx19 := i_rng x19
      first | (have tx19 : x19.toInt = (v5.toInt + r9.toInt) := by (rw [ex19]; exact (i_add rfl rfl (by omega) (by omega)))) | (have tx19 : x19.toInt = (v5 + r9).toInt := by rw [ex19])
      intro x20 ex20
      have rx20 := i_rng x20
      first | (have tx20 : x20.toInt = v6.toInt + (1) := by (rw [ex20]; exact (i_add rfl (show (1 : Int32).toInt = 1 from rfl) (by omega) (by omega)))) | skip
      exact ih x19 x20 Z13 I11 L12 w_I11 bd_Z13 q_I11 cp_Z13   (by omega)  (by omega)
set_option maxHeartbeats 4000000 in
set_option maxRecDepth 100000 in
theorem s_X12_costOf {B : Nat × Nat} {T : Nat} {Z : jZ} {I : jI} {L : jL} (w_I : WD Z I) (bd_Z : BUD B Z T) (v0 : Nat) (v1 : Int32) (v2 : Int32) (v3 : Int32) (kv0 : jk Z v0 12) (p0 : 0 ≤ v1.toInt ∧ v1.toInt ≤ 5 ∧ -1 ≤ v2.toInt ∧ v2.toInt < v3.toInt ∧ v3.toInt ≤ 23 ∧ v3.toInt - v2.toInt ≤ 3) {Q : Int32 → jZ → jI → jL → Prop} (hQ : ∀ (r : Int32) (Z' : jZ) (I' : jI) (L' : jL), WD Z' I' → BUD B Z' T → FR Ws_X12_costOf Z I Z' I' → CP Z Z' → (0 ≤ r.toInt ∧ r.toInt ≤ 297) → Q r Z' I' L') : f_X12_costOf B v0 v1 v2 v3 Z I L Q := by
  unfold f_X12_costOf
  have q_I : FR Ws_X12_costOf Z I Z I := FR.rf
  have cp_Z : CP Z Z := CP.rf
  have rv1 := i_rng v1
  have rv2 := i_rng v2
  have rv3 := i_rng v3
  intro x21 ex21
  have rx21 := i_rng x21
  first | (have tx21 : x21.toInt = ((v3.toInt - v2.toInt) - (1)) := by (rw [ex21]; exact (i_sub (i_sub rfl rfl (by omega) (by omega)) (show (1 : Int32).toInt = 1 from rfl) (by omega) (by omega)))) | (have tx21 : x21.toInt = ((v3 - v2) - (1 : Int32)).toInt := by rw [ex21])
  intro b22 eb22
  obtain ⟨x23, ex23, kb22, lb22⟩ := sh_f w_I.1 kv0 (j := 12) (k := 14) (m := 6) rfl
  cases eb22.symm.trans ex23
  have o24 : vp_in v1 6 := vi_of rfl (by omega) (by omega)
  refine ⟨o24, ?_⟩
  have t25 : 0 ≤ (I b22 v1.toNatClampNeg).toInt ∧ (I b22 v1.toNatClampNeg).toInt ≤ 50 := w_I.arr 12 12 kv0 eb22 kb22 rfl rfl _
  have t26 : (0 : Int32).toInt = 0 := rfl
  refine s_X12_lawOf w_I bd_Z v0 (0 : Int32) v3 v2 (I b22 v1.toNatClampNeg) x21 kv0  (by omega) (fun r27 Z31 I29 L30 w_I29 bd_Z31 f_I29 c_Z31 p28 => ?_)
  have q_I29 : FR Ws_X12_costOf Z I Z31 I29 := q_I.trans w_I.1 w_I.2.1 (f_I29.mono (by decide))
  have cp_Z31 : CP Z Z31 := cp_Z.trans q_I.1 c_Z31
  have x_Z31 := f_I29.1
  have k32 := (f_I29.1 _ _ kv0).1
  have k33 := (f_I29.1 _ _ kb22).1
  have l34 := (f_I29.1 _ _ kb22).2.trans lb22
  have k35 := (f_I29.1 _ _ kv0).1
  have e36 := (f_I29.2.1 v0 12 12 kv0 (by decide) (by decide)).trans eb22
  have rr27 := i_rng r27
  intro x37 ex37
  have rx37 := i_rng x37
  first | (have tx37 : x37.toInt = (v2.toInt + (1)) := by (rw [ex37]; exact (i_add rfl (show (1 : Int32).toInt = 1 from rfl) (by omega) (by omega)))) | (have tx37 : x37.toInt = (v2 + (1 : Int32)).toInt := by rw [ex37])
  exact ⟨(v3.toInt - x37.toInt).toNat + 1, l_X12_costOf_L29 w_I v0 v1 v2 v3 kv0 p0 x21  hQ   _ r27 x37 Z31 I29 L30 w_I29 bd_Z31 q_I29 cp_Z31   (by omega)  (by omega)⟩
def Ws_X12_costs : List (Nat × Nat) := [(12, 21), (12, 22), (12, 24), (12, 25), (12, 26), (12, 27), (12, 31), (12, 32), (12, 33), (12, 34)]
set_option maxHeartbeats 4000000 in
set_option maxRecDepth 100000 in
theorem s_X12_costs {B : Nat × Nat} {T : Nat} {Z : jZ} {I : jI} {L : jL} (w_I : WD Z I) (bd_Z : BUD B Z T) (v0 : Nat) (v1 : Int32) (v2 : Int32) (kv0 : jk Z v0 12) {Q : Int32 → jZ → jI → jL → Prop} (hQ : ∀ (r : Int32) (Z' : jZ) (I' : jI) (L' : jL), WD Z' I' → BUD B Z' T → FR Ws_X12_costs Z I Z' I' → CP Z Z' → Q r Z' I' L') : f_X12_costs B v0 v1 v2 Z I L Q := by
  unfold f_X12_costs
  have q_I : FR Ws_X12_costs Z I Z I := FR.rf
  have cp_Z : CP Z Z := CP.rf
  have rv1 := i_rng v1
  have rv2 := i_rng v2
  intro I1 eI1
  have t2 : (0 : Int32).toInt = 0 := rfl
  have w_I1 : WD Z I1 := by rw [eI1]; exact WD_putF w_I 12 22 kv0 (by decide) (by decide) trivial
  have f_I1 : FR [(12, 22)] Z I Z I1 := by rw [eI1]; exact FR_putF kv0 (by decide) List.mem_cons_self
  have q_I1 : FR Ws_X12_costs Z I Z I1 := q_I.trans w_I.1 w_I.2.1 (f_I1.mono (by decide))
  first | (have u3 : (I1 v0 22).toInt = (0) := by (rw [eI1, show jpI I v0 22 (0 : Int32) v0 22 = (0 : Int32) from jpI_at] <;> exact (show (0 : Int32).toInt = 0 from rfl))) | skip
  refine s_X12_isOne w_I1 v0 v1 kv0   (fun r4 p5 => ?_)
  have rr4 := i_rng r4
  refine ⟨fun c6 => ?_, fun c6 => ?_⟩
  · skip
    first | (have t7 : r4.toInt = (0) := (i_eq rfl (show (0 : Int32).toInt = 0 from rfl)).mp c6) | (have t7 : r4.toInt = (0 : Int32).toInt := (i_eq rfl rfl).mp c6) | skip
    have t8 : (-1 : Int32).toInt = -1 := rfl
    exact hQ (-1 : Int32) Z I1 L w_I1 bd_Z q_I1 cp_Z 
  · skip
    first | (have t9 : ¬ (r4.toInt = (0)) := (not_congr (i_eq rfl (show (0 : Int32).toInt = 0 from rfl))).mp c6) | (have t9 : ¬ (r4.toInt = (0 : Int32).toInt) := (not_congr (i_eq rfl rfl)).mp c6) | skip
    refine s_X12_isStep w_I1 v0 v2 kv0   (fun r10 p11 => ?_)
    have rr10 := i_rng r10
    refine ⟨fun c12 => ?_, fun c12 => ?_⟩
    · skip
      first | (have t13 : ¬ (r10.toInt = (0)) := (not_congr (i_eq rfl (show (0 : Int32).toInt = 0 from rfl))).mp c12) | (have t13 : ¬ (r10.toInt = (0 : Int32).toInt) := (not_congr (i_eq rfl rfl)).mp c12) | skip
      intro b14 eb14
      obtain ⟨x15, ex15, kb14, lb14⟩ := sh_f w_I1.1 kv0 (j := 14) (k := 14) (m := 6) rfl
      cases eb14.symm.trans ex15
      have o16 : vp_in v1 6 := vi_of rfl (by omega) (by omega)
      refine ⟨o16, ?_⟩
      have t17 : -1 ≤ (I1 b14 v1.toNatClampNeg).toInt ∧ (I1 b14 v1.toNatClampNeg).toInt ≤ 23 := w_I1.arr 12 14 kv0 eb14 kb14 rfl rfl _
      refine s_X12_isMove w_I1 v0 v1 (I1 b14 v1.toNatClampNeg) v2 kv0  (by omega) (fun r18 p19 => ?_)
      have rr18 := i_rng r18
      refine ⟨fun c20 => ?_, fun c20 => ?_⟩
      · skip
        first | (have t21 : ¬ (r18.toInt = (0)) := (not_congr (i_eq rfl (show (0 : Int32).toInt = 0 from rfl))).mp c20) | (have t21 : ¬ (r18.toInt = (0 : Int32).toInt) := (not_congr (i_eq rfl rfl)).mp c20) | skip
        intro I22 eI22
        have t23 : (0 : Int32).toInt = 0 := rfl
        have w_I22 : WD Z I22 := by rw [eI22]; exact WD_putF w_I1 12 21 kv0 (by decide) (by decide) (by constructor <;> omega)
        have f_I22 : FR [(12, 21)] Z I1 Z I22 := by rw [eI22]; exact FR_putF kv0 (by decide) List.mem_cons_self
        have q_I22 : FR Ws_X12_costs Z I Z I22 := q_I1.trans w_I.1 w_I.2.1 (f_I22.mono (by decide))
        have u24 : (I22 b14 (v1.toNatClampNeg)).toInt = (I1 b14 (v1.toNatClampNeg)).toInt := by rw [f_I22.2.2.2 v0 12 14 b14 kv0 eb14 (by rw [kb14.2]; rfl) rfl (by decide)]
        have u25 : (I22 v0 22).toInt = (I1 v0 22).toInt := by rw [f_I22.2.2.1 v0 12 22 kv0 (by decide) (by decide)]
        first | (have u26 : (I22 v0 21).toInt = (0) := by (rw [eI22, show jpI I1 v0 21 (0 : Int32) v0 21 = (0 : Int32) from jpI_at] <;> exact (show (0 : Int32).toInt = 0 from rfl))) | skip
        intro b27 eb27
        obtain rfl : b14 = b27 := Option.some.inj (eb14.symm.trans eb27)
        have o28 : vp_in v1 6 := vi_of rfl (by omega) (by omega)
        refine ⟨o28, ?_⟩
        have t29 : -1 ≤ (I22 b14 v1.toNatClampNeg).toInt ∧ (I22 b14 v1.toNatClampNeg).toInt ≤ 23 := w_I22.arr 12 14 kv0 eb14 kb14 rfl rfl _
        refine s_X12_effortOf w_I22 v0 v1 (I22 b14 v1.toNatClampNeg) v2 kv0  (by omega) (fun r30 p31 => ?_)
        have rr30 := i_rng r30
        refine s_X12_tell w_I22 v0 (r30.toInt64) kv0  (by omega) (fun  I33 L34 w_I33 f_I33 p32 => ?_)
        have q_I33 : FR Ws_X12_costs Z I Z I33 := q_I22.trans w_I.1 w_I.2.1 (f_I33.mono (by decide))
        have u35 : (I33 b14 (v1.toNatClampNeg)).toInt = (I22 b14 (v1.toNatClampNeg)).toInt := by rw [f_I33.2.2.2 v0 12 14 b14 kv0 eb14 (by rw [kb14.2]; rfl) rfl (by decide)]
        have u36 : (I33 v0 22).toInt = (I22 v0 22).toInt := by rw [f_I33.2.2.1 v0 12 22 kv0 (by decide) (by decide)]
        intro b37 eb37
        obtain rfl : b14 = b37 := Option.some.inj (eb14.symm.trans eb37)
        have o38 : vp_in v1 6 := vi_of rfl (by omega) (by omega)
        refine ⟨o38, ?_⟩
        have t39 : -1 ≤ (I33 b14 v1.toNatClampNeg).toInt ∧ (I33 b14 v1.toNatClampNeg).toInt ≤ 23 := w_I33.arr 12 14 kv0 eb14 kb14 rfl rfl _
        refine s_X12_tell w_I33 v0 (((v2 - (I33 b14 v1.toNatClampNeg)) - (1 : Int32)).toInt64) kv0  (by omega) (fun  I41 L42 w_I41 f_I41 p40 => ?_)
        have q_I41 : FR Ws_X12_costs Z I Z I41 := q_I33.trans w_I.1 w_I.2.1 (f_I41.mono (by decide))
        have u43 : (I41 b14 (v1.toNatClampNeg)).toInt = (I33 b14 (v1.toNatClampNeg)).toInt := by rw [f_I41.2.2.2 v0 12 14 b14 kv0 eb14 (by rw [kb14.2]; rfl) rfl (by decide)]
        have u44 : (I41 v0 22).toInt = (I33 v0 22).toInt := by rw [f_I41.2.2.1 v0 12 22 kv0 (by decide) (by decide)]
        intro b45 eb45
        obtain rfl : b14 = b45 := Option.some.inj (eb14.symm.trans eb45)
        have o46 : vp_in v1 6 := vi_of rfl (by omega) (by omega)
        refine ⟨o46, ?_⟩
        have t47 : -1 ≤ (I41 b14 v1.toNatClampNeg).toInt ∧ (I41 b14 v1.toNatClampNeg).toInt ≤ 23 := w_I41.arr 12 14 kv0 eb14 kb14 rfl rfl _
        refine s_X12_costOf w_I41 bd_Z v0 v1 (I41 b14 v1.toNatClampNeg) v2 kv0  (by omega) (fun r48 Z52 I50 L51 w_I50 bd_Z52 f_I50 c_Z52 p49 => ?_)
        have q_I50 : FR Ws_X12_costs Z I Z52 I50 := q_I41.trans w_I.1 w_I.2.1 (f_I50.mono (by decide))
        have cp_Z52 : CP Z Z52 := cp_Z.trans q_I41.1 c_Z52
        have x_Z52 := f_I50.1
        have k53 := (f_I50.1 _ _ kv0).1
        have k54 := (f_I50.1 _ _ kb14).1
        have l55 := (f_I50.1 _ _ kb14).2.trans lb14
        have k56 := (f_I50.1 _ _ kv0).1
        have e57 := (f_I50.2.1 v0 12 14 kv0 (by decide) (by decide)).trans eb14
        have u58 : (I50 b14 (v1.toNatClampNeg)).toInt = (I41 b14 (v1.toNatClampNeg)).toInt := by rw [f_I50.2.2.2 v0 12 14 b14 kv0 eb14 (by rw [kb14.2]; rfl) rfl (by decide)]
        have u59 : (I50 v0 22).toInt = (I41 v0 22).toInt := by rw [f_I50.2.2.1 v0 12 22 kv0 (by decide) (by decide)]
        have rr48 := i_rng r48
        exact hQ r48 Z52 I50 L51 w_I50 bd_Z52 q_I50 cp_Z52 
      · skip
        first | (have t60 : r18.toInt = (0) := (i_eq rfl (show (0 : Int32).toInt = 0 from rfl)).mp c20) | (have t60 : r18.toInt = (0 : Int32).toInt := (i_eq rfl rfl).mp c20) | skip
        have t61 : (-2 : Int32).toInt = -2 := rfl
        exact hQ (-2 : Int32) Z I1 L w_I1 bd_Z q_I1 cp_Z 
    · skip
      first | (have t62 : r10.toInt = (0) := (i_eq rfl (show (0 : Int32).toInt = 0 from rfl)).mp c12) | (have t62 : r10.toInt = (0 : Int32).toInt := (i_eq rfl rfl).mp c12) | skip
      have t63 : (-1 : Int32).toInt = -1 := rfl
      exact hQ (-1 : Int32) Z I1 L w_I1 bd_Z q_I1 cp_Z 
def Ws_X12_tread : List (Nat × Nat) := [(12, 14), (12, 15), (12, 16), (12, 17), (12, 22), (12, 24), (12, 25), (12, 26), (12, 27), (12, 31), (12, 32), (12, 33), (12, 34), (12, 35)]
set_option maxHeartbeats 4000000 in
set_option maxRecDepth 100000 in
theorem l_X12_tread_L121 {B : Nat × Nat} {T : Nat} {Z0 : jZ} {I0 : jI} {Q : Int32 → jZ → jI → jL → Prop} (w0 : WD Z0 I0) (v0 : Nat) (v1 : Int32) (v2 : Int32) (kv0 : jk Z0 v0 12) (v3 : Int32) (v4 : Int32) (v5 : Int32) (v6 : Int32) (hQ : ∀ (r : Int32) (Z' : jZ) (I' : jI) (L' : jL), WD Z' I' → BUD B Z' T → FR Ws_X12_tread Z0 I0 Z' I' → CP Z0 Z' → Q r Z' I' L') : ∀ (n : Nat) (v7 : Int32) (Z : jZ) (I : jI) (L : jL), WD Z I → BUD B Z T → FR Ws_X12_tread Z0 I0 Z I → CP Z0 Z →   (0 ≤ v1.toInt ∧ v1.toInt ≤ 5 ∧ -1 ≤ v3.toInt ∧ v3.toInt < v7.toInt ∧ v7.toInt ≤ v2.toInt + 1 ∧ v2.toInt ≤ 23) → v2.toInt + 1 - v7.toInt < (n : Int) → f_X12_tread_L121 B  Q n v0 v1 v2 v3 v4 v5 v6 v7 Z I L := by
  intro n
  induction n with
  | zero =>
    intro v7 Z I L w_I bd_Z q_I cp_Z   li  me
    exfalso
    omega
  | succ n ih =>
    intro v7 Z I L w_I bd_Z q_I cp_Z   li  me
    unfold f_X12_tread_L121
    have rv7 := i_rng v7
    have rv3 := i_rng v3
    have rv4 := i_rng v4
    have rv5 := i_rng v5
    have rv6 := i_rng v6
    have rv1 := i_rng v1
    have rv2 := i_rng v2
    have kv0_0 := kv0
    have kv0 := (q_I.1 _ _ kv0).1
    have xq_I := q_I.1
    refine ⟨fun c1 => ?_, fun c1 => ?_⟩
    · skip
      first | (have t2 : v2.toInt < v7.toInt := (i_lt rfl rfl).mp c1) | (have t2 : v2.toInt < v7.toInt := (i_lt rfl rfl).mp c1) | skip
      intro b3 eb3
      obtain ⟨x4, ex4, kb3, lb3⟩ := sh_f w_I.1 kv0 (j := 15) (k := 14) (m := 6) rfl
      cases eb3.symm.trans ex4
      have o5 : vp_in v1 6 := vi_of rfl (by omega) (by omega)
      refine ⟨o5, ?_⟩
      have o6 : vp_in v1 6 := vi_of rfl (by omega) (by omega)
      refine ⟨o6, ?_⟩
      intro I7 eI7
      try (have t8 : ((I b3 v1.toNatClampNeg) - v4).toInt = ((I b3 v1.toNatClampNeg).toInt - v4.toInt) := (i_sub rfl rfl (by omega) (by omega)))
      have w_I7 : WD Z I7 := by rw [eI7]; exact WD_putA w_I 12 15 kv0 eb3 kb3 rfl rfl (by decide) trivial
      have f_I7 : FR [(12, 15)] Z I Z I7 := by rw [eI7]; exact FR_upA w_I.2.1 kv0 eb3 kb3 rfl rfl List.mem_cons_self
      have q_I7 : FR Ws_X12_tread Z0 I0 Z I7 := q_I.trans w0.1 w0.2.1 (f_I7.mono (by decide))
      intro b9 eb9
      obtain ⟨x10, ex10, kb9, lb9⟩ := sh_f w_I7.1 kv0 (j := 16) (k := 14) (m := 6) rfl
      cases eb9.symm.trans ex10
      have o11 : vp_in v1 6 := vi_of rfl (by omega) (by omega)
      refine ⟨o11, ?_⟩
      have o12 : vp_in v1 6 := vi_of rfl (by omega) (by omega)
      refine ⟨o12, ?_⟩
      intro I13 eI13
      try (have t14 : ((I7 b9 v1.toNatClampNeg) - v5).toInt = ((I7 b9 v1.toNatClampNeg).toInt - v5.toInt) := (i_sub rfl rfl (by omega) (by omega)))
      have w_I13 : WD Z I13 := by rw [eI13]; exact WD_putA w_I7 12 16 kv0 eb9 kb9 rfl rfl (by decide) trivial
      have f_I13 : FR [(12, 16)] Z I7 Z I13 := by rw [eI13]; exact FR_upA w_I7.2.1 kv0 eb9 kb9 rfl rfl List.mem_cons_self
      have q_I13 : FR Ws_X12_tread Z0 I0 Z I13 := q_I7.trans w0.1 w0.2.1 (f_I13.mono (by decide))
      intro b15 eb15
      obtain ⟨x16, ex16, kb15, lb15⟩ := sh_f w_I13.1 kv0 (j := 14) (k := 14) (m := 6) rfl
      cases eb15.symm.trans ex16
      have o17 : vp_in v1 6 := vi_of rfl (by omega) (by omega)
      refine ⟨o17, ?_⟩
      intro I18 eI18
      have w_I18 : WD Z I18 := by rw [eI18]; exact WD_putA w_I13 12 14 kv0 eb15 kb15 rfl rfl (by decide) (by constructor <;> omega)
      have f_I18 : FR [(12, 14)] Z I13 Z I18 := by rw [eI18]; exact FR_upA w_I13.2.1 kv0 eb15 kb15 rfl rfl List.mem_cons_self
      have q_I18 : FR Ws_X12_tread Z0 I0 Z I18 := q_I13.trans w0.1 w0.2.1 (f_I18.mono (by decide))
      exact hQ v5 Z I18 L w_I18 bd_Z q_I18 cp_Z 
    · skip
      first | (have t19 : ¬ (v2.toInt < v7.toInt) := (not_congr (i_lt rfl rfl)).mp c1) | (have t19 : ¬ (v2.toInt < v7.toInt) := (not_congr (i_lt rfl rfl)).mp c1) | skip
      refine ⟨fun c20 => ?_, fun c20 => ?_⟩
      · skip
        first | (have t21 : ¬ (v7.toInt = v2.toInt) := (not_congr (i_eq rfl rfl)).mp c20) | (have t21 : ¬ (v7.toInt = v2.toInt) := (not_congr (i_eq rfl rfl)).mp c20) | skip
        unfold f_X12_tread_b142
        intro b22 eb22
        obtain ⟨x23, ex23, kb22, lb22⟩ := sh_f w_I.1 kv0 (j := 12) (k := 14) (m := 6) rfl
        cases eb22.symm.trans ex23
        have o24 : vp_in v1 6 := vi_of rfl (by omega) (by omega)
        refine ⟨o24, ?_⟩
        have t25 : 0 ≤ (I b22 v1.toNatClampNeg).toInt ∧ (I b22 v1.toNatClampNeg).toInt ≤ 50 := w_I.arr 12 12 kv0 eb22 kb22 rfl rfl _
        have t26 : (1 : Int32).toInt = 1 := rfl
        refine s_X12_lawOf w_I bd_Z v0 (1 : Int32) v7 v3 (I b22 v1.toNatClampNeg) v6 kv0  (by omega) (fun r27 Z31 I29 L30 w_I29 bd_Z31 f_I29 c_Z31 p28 => ?_)
        have q_I29 : FR Ws_X12_tread Z0 I0 Z31 I29 := q_I.trans w0.1 w0.2.1 (f_I29.mono (by decide))
        have cp_Z31 : CP Z0 Z31 := cp_Z.trans q_I.1 c_Z31
        have x_Z31 := f_I29.1
        have k32 := (f_I29.1 _ _ kv0).1
        have k33 := (f_I29.1 _ _ kb22).1
        have l34 := (f_I29.1 _ _ kb22).2.trans lb22
        have k35 := (f_I29.1 _ _ kv0).1
        have e36 := (f_I29.2.1 v0 12 12 kv0 (by decide) (by decide)).trans eb22
        have rr27 := i_rng r27
        have t37 : (1 : Int32).toInt = 1 := rfl
        refine s_X12_earn w_I29 v0 v7 r27 (1 : Int32) k32  (by omega) (fun  I38 L39 w_I38 f_I38  => ?_)
        have q_I38 : FR Ws_X12_tread Z0 I0 Z31 I38 := q_I29.trans w0.1 w0.2.1 (f_I38.mono (by decide))
        intro x40 ex40
        have rx40 := i_rng x40
        first | (have tx40 : x40.toInt = v7.toInt + (1) := by (rw [ex40]; exact (i_add rfl (show (1 : Int32).toInt = 1 from rfl) (by omega) (by omega)))) | skip
        exact ih x40 Z31 I38 L39 w_I38 bd_Z31 q_I38 cp_Z31   (by omega)  (by omega)
      · skip
        first | (have t41 : v7.toInt = v2.toInt := (i_eq rfl rfl).mp c20) | (have t41 : v7.toInt = v2.toInt := (i_eq rfl rfl).mp c20) | skip
        unfold f_X12_tread_b142
        intro b42 eb42
        obtain ⟨x43, ex43, kb42, lb42⟩ := sh_f w_I.1 kv0 (j := 12) (k := 14) (m := 6) rfl
        cases eb42.symm.trans ex43
        have o44 : vp_in v1 6 := vi_of rfl (by omega) (by omega)
        refine ⟨o44, ?_⟩
        have t45 : 0 ≤ (I b42 v1.toNatClampNeg).toInt ∧ (I b42 v1.toNatClampNeg).toInt ≤ 50 := w_I.arr 12 12 kv0 eb42 kb42 rfl rfl _
        have t46 : (0 : Int32).toInt = 0 := rfl
        refine s_X12_lawOf w_I bd_Z v0 (0 : Int32) v7 v3 (I b42 v1.toNatClampNeg) v6 kv0  (by omega) (fun r47 Z51 I49 L50 w_I49 bd_Z51 f_I49 c_Z51 p48 => ?_)
        have q_I49 : FR Ws_X12_tread Z0 I0 Z51 I49 := q_I.trans w0.1 w0.2.1 (f_I49.mono (by decide))
        have cp_Z51 : CP Z0 Z51 := cp_Z.trans q_I.1 c_Z51
        have x_Z51 := f_I49.1
        have k52 := (f_I49.1 _ _ kv0).1
        have k53 := (f_I49.1 _ _ kb42).1
        have l54 := (f_I49.1 _ _ kb42).2.trans lb42
        have k55 := (f_I49.1 _ _ kv0).1
        have e56 := (f_I49.2.1 v0 12 12 kv0 (by decide) (by decide)).trans eb42
        have rr47 := i_rng r47
        have t57 : (1 : Int32).toInt = 1 := rfl
        refine s_X12_earn w_I49 v0 v7 r47 (1 : Int32) k52  (by omega) (fun  I58 L59 w_I58 f_I58  => ?_)
        have q_I58 : FR Ws_X12_tread Z0 I0 Z51 I58 := q_I49.trans w0.1 w0.2.1 (f_I58.mono (by decide))
        intro x60 ex60
        have rx60 := i_rng x60
        first | (have tx60 : x60.toInt = v7.toInt + (1) := by (rw [ex60]; exact (i_add rfl (show (1 : Int32).toInt = 1 from rfl) (by omega) (by omega)))) | skip
        exact ih x60 Z51 I58 L59 w_I58 bd_Z51 q_I58 cp_Z51   (by omega)  (by omega)
set_option maxHeartbeats 4000000 in
set_option maxRecDepth 100000 in
theorem s_X12_tread {B : Nat × Nat} {T : Nat} {Z : jZ} {I : jI} {L : jL} (w_I : WD Z I) (bd_Z : BUD B Z T) (v0 : Nat) (v1 : Int32) (v2 : Int32) (kv0 : jk Z v0 12) {Q : Int32 → jZ → jI → jL → Prop} (hQ : ∀ (r : Int32) (Z' : jZ) (I' : jI) (L' : jL), WD Z' I' → BUD B Z' T → FR Ws_X12_tread Z I Z' I' → CP Z Z' → Q r Z' I' L') : f_X12_tread B v0 v1 v2 Z I L Q := by
  unfold f_X12_tread
  have q_I : FR Ws_X12_tread Z I Z I := FR.rf
  have cp_Z : CP Z Z := CP.rf
  have rv1 := i_rng v1
  have rv2 := i_rng v2
  intro I61 eI61
  have t62 : (0 : Int32).toInt = 0 := rfl
  have w_I61 : WD Z I61 := by rw [eI61]; exact WD_putF w_I 12 22 kv0 (by decide) (by decide) trivial
  have f_I61 : FR [(12, 22)] Z I Z I61 := by rw [eI61]; exact FR_putF kv0 (by decide) List.mem_cons_self
  have q_I61 : FR Ws_X12_tread Z I Z I61 := q_I.trans w_I.1 w_I.2.1 (f_I61.mono (by decide))
  first | (have u63 : (I61 v0 22).toInt = (0) := by (rw [eI61, show jpI I v0 22 (0 : Int32) v0 22 = (0 : Int32) from jpI_at] <;> exact (show (0 : Int32).toInt = 0 from rfl))) | skip
  refine s_X12_isOne w_I61 v0 v1 kv0   (fun r64 p65 => ?_)
  have rr64 := i_rng r64
  refine ⟨fun c66 => ?_, fun c66 => ?_⟩
  · skip
    first | (have t67 : r64.toInt = (0) := (i_eq rfl (show (0 : Int32).toInt = 0 from rfl)).mp c66) | (have t67 : r64.toInt = (0 : Int32).toInt := (i_eq rfl rfl).mp c66) | skip
    have t68 : (-1 : Int32).toInt = -1 := rfl
    exact hQ (-1 : Int32) Z I61 L w_I61 bd_Z q_I61 cp_Z 
  · skip
    first | (have t69 : ¬ (r64.toInt = (0)) := (not_congr (i_eq rfl (show (0 : Int32).toInt = 0 from rfl))).mp c66) | (have t69 : ¬ (r64.toInt = (0 : Int32).toInt) := (not_congr (i_eq rfl rfl)).mp c66) | skip
    refine s_X12_isStep w_I61 v0 v2 kv0   (fun r70 p71 => ?_)
    have rr70 := i_rng r70
    refine ⟨fun c72 => ?_, fun c72 => ?_⟩
    · skip
      first | (have t73 : ¬ (r70.toInt = (0)) := (not_congr (i_eq rfl (show (0 : Int32).toInt = 0 from rfl))).mp c72) | (have t73 : ¬ (r70.toInt = (0 : Int32).toInt) := (not_congr (i_eq rfl rfl)).mp c72) | skip
      intro b74 eb74
      obtain ⟨x75, ex75, kb74, lb74⟩ := sh_f w_I61.1 kv0 (j := 14) (k := 14) (m := 6) rfl
      cases eb74.symm.trans ex75
      have o76 : vp_in v1 6 := vi_of rfl (by omega) (by omega)
      refine ⟨o76, ?_⟩
      have t77 : -1 ≤ (I61 b74 v1.toNatClampNeg).toInt ∧ (I61 b74 v1.toNatClampNeg).toInt ≤ 23 := w_I61.arr 12 14 kv0 eb74 kb74 rfl rfl _
      intro x78 ex78
      have rx78 := i_rng x78
      first | (have tx78 : x78.toInt = (I61 b74 v1.toNatClampNeg).toInt := by (rw [ex78]; exact rfl)) | (have tx78 : x78.toInt = (I61 b74 v1.toNatClampNeg).toInt := by rw [ex78])
      refine s_X12_isMove w_I61 v0 v1 x78 v2 kv0  (by omega) (fun r79 p80 => ?_)
      have rr79 := i_rng r79
      refine ⟨fun c81 => ?_, fun c81 => ?_⟩
      · skip
        first | (have t82 : ¬ (r79.toInt = (0)) := (not_congr (i_eq rfl (show (0 : Int32).toInt = 0 from rfl))).mp c81) | (have t82 : ¬ (r79.toInt = (0 : Int32).toInt) := (not_congr (i_eq rfl rfl)).mp c81) | skip
        refine s_X12_effortOf w_I61 v0 v1 x78 v2 kv0  (by omega) (fun r83 p84 => ?_)
        have rr83 := i_rng r83
        refine s_X12_costOf w_I61 bd_Z v0 v1 x78 v2 kv0  (by omega) (fun r85 Z89 I87 L88 w_I87 bd_Z89 f_I87 c_Z89 p86 => ?_)
        have q_I87 : FR Ws_X12_tread Z I Z89 I87 := q_I61.trans w_I.1 w_I.2.1 (f_I87.mono (by decide))
        have cp_Z89 : CP Z Z89 := cp_Z.trans q_I61.1 c_Z89
        have x_Z89 := f_I87.1
        have k90 := (f_I87.1 _ _ kv0).1
        have k91 := (f_I87.1 _ _ kb74).1
        have l92 := (f_I87.1 _ _ kb74).2.trans lb74
        have k93 := (f_I87.1 _ _ kv0).1
        have e94 := (f_I87.2.1 v0 12 14 kv0 (by decide) (by decide)).trans eb74
        have u95 : (I87 v0 22).toInt = (I61 v0 22).toInt := by rw [f_I87.2.2.1 v0 12 22 kv0 (by decide) (by decide)]
        have rr85 := i_rng r85
        intro b96 eb96
        obtain ⟨x97, ex97, kb96, lb96⟩ := sh_f w_I87.1 k90 (j := 13) (k := 14) (m := 6) rfl
        cases eb96.symm.trans ex97
        have o98 : vp_in v1 6 := vi_of rfl (by omega) (by omega)
        refine ⟨o98, ?_⟩
        refine s_X12_mainOf w_I87 v0 v2 k90  (by omega) (fun r99 p100 => ?_)
        have rr99 := i_rng r99
        refine s_X12_has w_I87 (I87 b96 v1.toNatClampNeg) r99    (fun r101  => ?_)
        have rr101 := i_rng r101
        refine ⟨fun c102 => ?_, fun c102 => ?_⟩
        · skip
          first | (have t103 : r101.toInt = (0) := (i_eq rfl (show (0 : Int32).toInt = 0 from rfl)).mp c102) | (have t103 : r101.toInt = (0 : Int32).toInt := (i_eq rfl rfl).mp c102) | skip
          intro b104 eb104
          obtain ⟨x105, ex105, kb104, lb104⟩ := sh_f w_I87.1 k90 (j := 15) (k := 14) (m := 6) rfl
          cases eb104.symm.trans ex105
          have o106 : vp_in v1 6 := vi_of rfl (by omega) (by omega)
          refine ⟨o106, ?_⟩
          refine ⟨fun c107 => ?_, fun c107 => ?_⟩
          · skip
            first | (have t108 : r83.toInt ≤ (I87 b104 v1.toNatClampNeg).toInt := (i_le rfl rfl).mp c107) | (have t108 : r83.toInt ≤ (I87 b104 v1.toNatClampNeg).toInt := (i_le rfl rfl).mp c107) | skip
            intro b109 eb109
            obtain ⟨x110, ex110, kb109, lb109⟩ := sh_f w_I87.1 k90 (j := 16) (k := 14) (m := 6) rfl
            cases eb109.symm.trans ex110
            have o111 : vp_in v1 6 := vi_of rfl (by omega) (by omega)
            refine ⟨o111, ?_⟩
            refine ⟨fun c112 => ?_, fun c112 => ?_⟩
            · skip
              first | (have t113 : r85.toInt ≤ (I87 b109 v1.toNatClampNeg).toInt := (i_le rfl rfl).mp c112) | (have t113 : r85.toInt ≤ (I87 b109 v1.toNatClampNeg).toInt := (i_le rfl rfl).mp c112) | skip
              intro x114 ex114
              have rx114 := i_rng x114
              first | (have tx114 : x114.toInt = ((v2.toInt - x78.toInt) - (1)) := by (rw [ex114]; exact (i_sub (i_sub rfl rfl (by omega) (by omega)) (show (1 : Int32).toInt = 1 from rfl) (by omega) (by omega)))) | (have tx114 : x114.toInt = ((v2 - x78) - (1 : Int32)).toInt := by rw [ex114])
              intro x115 ex115
              have rx115 := i_rng x115
              first | (have tx115 : x115.toInt = (x78.toInt + (1)) := by (rw [ex115]; exact (i_add rfl (show (1 : Int32).toInt = 1 from rfl) (by omega) (by omega)))) | (have tx115 : x115.toInt = (x78 + (1 : Int32)).toInt := by rw [ex115])
              exact ⟨(v2.toInt + 1 - x115.toInt).toNat + 1, l_X12_tread_L121 w_I v0 v1 v2 kv0 x78 r83 r85 x114  hQ   _ x115 Z89 I87 L88 w_I87 bd_Z89 q_I87 cp_Z89   (by omega)  (by omega)⟩
            · skip
              first | (have t116 : ¬ (r85.toInt ≤ (I87 b109 v1.toNatClampNeg).toInt) := (not_congr (i_le rfl rfl)).mp c112) | (have t116 : ¬ (r85.toInt ≤ (I87 b109 v1.toNatClampNeg).toInt) := (not_congr (i_le rfl rfl)).mp c112) | skip
              have t117 : (-5 : Int32).toInt = -5 := rfl
              exact hQ (-5 : Int32) Z89 I87 L88 w_I87 bd_Z89 q_I87 cp_Z89 
          · skip
            first | (have t118 : ¬ (r83.toInt ≤ (I87 b104 v1.toNatClampNeg).toInt) := (not_congr (i_le rfl rfl)).mp c107) | (have t118 : ¬ (r83.toInt ≤ (I87 b104 v1.toNatClampNeg).toInt) := (not_congr (i_le rfl rfl)).mp c107) | skip
            have t119 : (-4 : Int32).toInt = -4 := rfl
            exact hQ (-4 : Int32) Z89 I87 L88 w_I87 bd_Z89 q_I87 cp_Z89 
        · skip
          first | (have t120 : ¬ (r101.toInt = (0)) := (not_congr (i_eq rfl (show (0 : Int32).toInt = 0 from rfl))).mp c102) | (have t120 : ¬ (r101.toInt = (0 : Int32).toInt) := (not_congr (i_eq rfl rfl)).mp c102) | skip
          have t121 : (-3 : Int32).toInt = -3 := rfl
          exact hQ (-3 : Int32) Z89 I87 L88 w_I87 bd_Z89 q_I87 cp_Z89 
      · skip
        first | (have t122 : r79.toInt = (0) := (i_eq rfl (show (0 : Int32).toInt = 0 from rfl)).mp c81) | (have t122 : r79.toInt = (0 : Int32).toInt := (i_eq rfl rfl).mp c81) | skip
        have t123 : (-2 : Int32).toInt = -2 := rfl
        exact hQ (-2 : Int32) Z I61 L w_I61 bd_Z q_I61 cp_Z 
    · skip
      first | (have t124 : r70.toInt = (0) := (i_eq rfl (show (0 : Int32).toInt = 0 from rfl)).mp c72) | (have t124 : r70.toInt = (0 : Int32).toInt := (i_eq rfl rfl).mp c72) | skip
      have t125 : (-1 : Int32).toInt = -1 := rfl
      exact hQ (-1 : Int32) Z I61 L w_I61 bd_Z q_I61 cp_Z 
def Ws_X12_rests : List (Nat × Nat) := [(12, 15), (12, 16), (12, 17), (12, 22), (12, 24), (12, 25), (12, 26), (12, 27), (12, 31), (12, 32), (12, 33), (12, 34), (12, 35)]
set_option maxHeartbeats 4000000 in
set_option maxRecDepth 100000 in
theorem s_X12_rests {B : Nat × Nat} {T : Nat} {Z : jZ} {I : jI} {L : jL} (w_I : WD Z I) (bd_Z : BUD B Z T) (v0 : Nat) (v1 : Int32) (v2 : Int32) (kv0 : jk Z v0 12) {Q : Int32 → jZ → jI → jL → Prop} (hQ : ∀ (r : Int32) (Z' : jZ) (I' : jI) (L' : jL), WD Z' I' → BUD B Z' T → FR Ws_X12_rests Z I Z' I' → CP Z Z' → Q r Z' I' L') : f_X12_rests B v0 v1 v2 Z I L Q := by
  unfold f_X12_rests
  have q_I : FR Ws_X12_rests Z I Z I := FR.rf
  have cp_Z : CP Z Z := CP.rf
  have rv1 := i_rng v1
  have rv2 := i_rng v2
  intro I1 eI1
  have t2 : (0 : Int32).toInt = 0 := rfl
  have w_I1 : WD Z I1 := by rw [eI1]; exact WD_putF w_I 12 22 kv0 (by decide) (by decide) trivial
  have f_I1 : FR [(12, 22)] Z I Z I1 := by rw [eI1]; exact FR_putF kv0 (by decide) List.mem_cons_self
  have q_I1 : FR Ws_X12_rests Z I Z I1 := q_I.trans w_I.1 w_I.2.1 (f_I1.mono (by decide))
  first | (have u3 : (I1 v0 22).toInt = (0) := by (rw [eI1, show jpI I v0 22 (0 : Int32) v0 22 = (0 : Int32) from jpI_at] <;> exact (show (0 : Int32).toInt = 0 from rfl))) | skip
  refine s_X12_isOne w_I1 v0 v1 kv0   (fun r4 p5 => ?_)
  have rr4 := i_rng r4
  refine ⟨fun c6 => ?_, fun c6 => ?_⟩
  · skip
    first | (have t7 : r4.toInt = (0) := (i_eq rfl (show (0 : Int32).toInt = 0 from rfl)).mp c6) | (have t7 : r4.toInt = (0 : Int32).toInt := (i_eq rfl rfl).mp c6) | skip
    have t8 : (-1 : Int32).toInt = -1 := rfl
    exact hQ (-1 : Int32) Z I1 L w_I1 bd_Z q_I1 cp_Z 
  · skip
    first | (have t9 : ¬ (r4.toInt = (0)) := (not_congr (i_eq rfl (show (0 : Int32).toInt = 0 from rfl))).mp c6) | (have t9 : ¬ (r4.toInt = (0 : Int32).toInt) := (not_congr (i_eq rfl rfl)).mp c6) | skip
    have t10 : (1 : Int32).toInt = 1 := rfl
    have t11 : (30 : Int32).toInt = 30 := rfl
    refine s_X12_in w_I1 v2 (1 : Int32) (30 : Int32)    (fun r12 p13 => ?_)
    have rr12 := i_rng r12
    refine ⟨fun c14 => ?_, fun c14 => ?_⟩
    · skip
      first | (have t15 : ¬ (r12.toInt = (0)) := (not_congr (i_eq rfl (show (0 : Int32).toInt = 0 from rfl))).mp c14) | (have t15 : ¬ (r12.toInt = (0 : Int32).toInt) := (not_congr (i_eq rfl rfl)).mp c14) | skip
      intro b16 eb16
      obtain ⟨x17, ex17, kb16, lb16⟩ := sh_f w_I1.1 kv0 (j := 14) (k := 14) (m := 6) rfl
      cases eb16.symm.trans ex17
      have o18 : vp_in v1 6 := vi_of rfl (by omega) (by omega)
      refine ⟨o18, ?_⟩
      have t19 : -1 ≤ (I1 b16 v1.toNatClampNeg).toInt ∧ (I1 b16 v1.toNatClampNeg).toInt ≤ 23 := w_I1.arr 12 14 kv0 eb16 kb16 rfl rfl _
      intro x20 ex20
      have rx20 := i_rng x20
      first | (have tx20 : x20.toInt = (I1 b16 v1.toNatClampNeg).toInt := by (rw [ex20]; exact rfl)) | (have tx20 : x20.toInt = (I1 b16 v1.toNatClampNeg).toInt := by rw [ex20])
      refine ⟨fun c21 => ?_, fun c21 => ?_⟩
      · skip
        first | (have t22 : ¬ (x20.toInt = (-1)) := (not_congr (i_eq rfl (show (-1 : Int32).toInt = -1 from rfl))).mp c21) | (have t22 : ¬ (x20.toInt = (-1 : Int32).toInt) := (not_congr (i_eq rfl rfl)).mp c21) | skip
        intro b23 eb23
        obtain ⟨x24, ex24, kb23, lb23⟩ := sh_f w_I1.1 kv0 (j := 12) (k := 14) (m := 6) rfl
        cases eb23.symm.trans ex24
        have o25 : vp_in v1 6 := vi_of rfl (by omega) (by omega)
        refine ⟨o25, ?_⟩
        have t26 : 0 ≤ (I1 b23 v1.toNatClampNeg).toInt ∧ (I1 b23 v1.toNatClampNeg).toInt ≤ 50 := w_I1.arr 12 12 kv0 eb23 kb23 rfl rfl _
        have t27 : (0 : Int32).toInt = 0 := rfl
        have t28 : (0 : Int32).toInt = 0 := rfl
        refine s_X12_lawOf w_I1 bd_Z v0 (0 : Int32) x20 x20 (I1 b23 v1.toNatClampNeg) (0 : Int32) kv0  (by omega) (fun r29 Z33 I31 L32 w_I31 bd_Z33 f_I31 c_Z33 p30 => ?_)
        have q_I31 : FR Ws_X12_rests Z I Z33 I31 := q_I1.trans w_I.1 w_I.2.1 (f_I31.mono (by decide))
        have cp_Z33 : CP Z Z33 := cp_Z.trans q_I1.1 c_Z33
        have x_Z33 := f_I31.1
        have k34 := (f_I31.1 _ _ kv0).1
        have k35 := (f_I31.1 _ _ kb16).1
        have l36 := (f_I31.1 _ _ kb16).2.trans lb16
        have k37 := (f_I31.1 _ _ kv0).1
        have e38 := (f_I31.2.1 v0 12 14 kv0 (by decide) (by decide)).trans eb16
        have k39 := (f_I31.1 _ _ kb23).1
        have l40 := (f_I31.1 _ _ kb23).2.trans lb23
        have k41 := (f_I31.1 _ _ kv0).1
        have e42 := (f_I31.2.1 v0 12 12 kv0 (by decide) (by decide)).trans eb23
        have u43 : (I31 v0 22).toInt = (I1 v0 22).toInt := by rw [f_I31.2.2.1 v0 12 22 kv0 (by decide) (by decide)]
        have rr29 := i_rng r29
        unfold f_X12_rests_b55
        intro b44 eb44
        obtain ⟨x45, ex45, kb44, lb44⟩ := sh_f w_I31.1 k34 (j := 16) (k := 14) (m := 6) rfl
        cases eb44.symm.trans ex45
        have o46 : vp_in v1 6 := vi_of rfl (by omega) (by omega)
        refine ⟨o46, ?_⟩
        refine ⟨fun c47 => ?_, fun c47 => ?_⟩
        · skip
          first | (have t48 : r29.toInt ≤ (I31 b44 v1.toNatClampNeg).toInt := (i_le rfl rfl).mp c47) | (have t48 : r29.toInt ≤ (I31 b44 v1.toNatClampNeg).toInt := (i_le rfl rfl).mp c47) | skip
          intro b49 eb49
          obtain rfl : b44 = b49 := Option.some.inj (eb44.symm.trans eb49)
          have o50 : vp_in v1 6 := vi_of rfl (by omega) (by omega)
          refine ⟨o50, ?_⟩
          have o51 : vp_in v1 6 := vi_of rfl (by omega) (by omega)
          refine ⟨o51, ?_⟩
          intro I52 eI52
          try (have t53 : ((I31 b44 v1.toNatClampNeg) - r29).toInt = ((I31 b44 v1.toNatClampNeg).toInt - r29.toInt) := (i_sub rfl rfl (by omega) (by omega)))
          have w_I52 : WD Z33 I52 := by rw [eI52]; exact WD_putA w_I31 12 16 k34 eb44 kb44 rfl rfl (by decide) trivial
          have f_I52 : FR [(12, 16)] Z33 I31 Z33 I52 := by rw [eI52]; exact FR_upA w_I31.2.1 k34 eb44 kb44 rfl rfl List.mem_cons_self
          have q_I52 : FR Ws_X12_rests Z I Z33 I52 := q_I31.trans w_I.1 w_I.2.1 (f_I52.mono (by decide))
          have u54 : (I52 v0 22).toInt = (I31 v0 22).toInt := by rw [f_I52.2.2.1 v0 12 22 k34 (by decide) (by decide)]
          intro b55 eb55
          obtain ⟨x56, ex56, kb55, lb55⟩ := sh_f w_I52.1 k34 (j := 15) (k := 14) (m := 6) rfl
          cases eb55.symm.trans ex56
          intro b57 eb57
          obtain ⟨x58, ex58, kb57, lb57⟩ := sh_f w_I52.1 k34 (j := 9) (k := 14) (m := 6) rfl
          cases eb57.symm.trans ex58
          have o59 : vp_in v1 6 := vi_of rfl (by omega) (by omega)
          refine ⟨o59, ?_⟩
          have t60 : 0 ≤ (I52 b57 v1.toNatClampNeg).toInt ∧ (I52 b57 v1.toNatClampNeg).toInt ≤ 120 := w_I52.arr 12 9 k34 eb57 kb57 rfl rfl _
          intro b61 eb61
          obtain rfl : b55 = b61 := Option.some.inj (eb55.symm.trans eb61)
          have o62 : vp_in v1 6 := vi_of rfl (by omega) (by omega)
          refine ⟨o62, ?_⟩
          have o63 : vp_in v1 6 := vi_of rfl (by omega) (by omega)
          refine ⟨o63, ?_⟩
          intro I64 eI64
          try (have t65 : (if ((I52 b55 v1.toNatClampNeg) + v2) < (I52 b57 v1.toNatClampNeg) then ((I52 b55 v1.toNatClampNeg) + v2) else (I52 b57 v1.toNatClampNeg)).toInt = (min (I52 b57 v1.toNatClampNeg).toInt ((I52 b55 v1.toNatClampNeg).toInt + v2.toInt)) := (i_min rfl (i_add rfl rfl (by omega) (by omega))))
          have w_I64 : WD Z33 I64 := by rw [eI64]; exact WD_putA w_I52 12 15 k34 eb55 kb55 rfl rfl (by decide) trivial
          have f_I64 : FR [(12, 15)] Z33 I52 Z33 I64 := by rw [eI64]; exact FR_upA w_I52.2.1 k34 eb55 kb55 rfl rfl List.mem_cons_self
          have q_I64 : FR Ws_X12_rests Z I Z33 I64 := q_I52.trans w_I.1 w_I.2.1 (f_I64.mono (by decide))
          have u66 : (I64 v0 22).toInt = (I52 v0 22).toInt := by rw [f_I64.2.2.1 v0 12 22 k34 (by decide) (by decide)]
          refine ⟨fun c67 => ?_, fun c67 => ?_⟩
          · skip
            first | (have t68 : x20.toInt = (-1) := (i_eq rfl (show (-1 : Int32).toInt = -1 from rfl)).mp c67) | (have t68 : x20.toInt = (-1 : Int32).toInt := (i_eq rfl rfl).mp c67) | skip
            exact hQ r29 Z33 I64 L32 w_I64 bd_Z33 q_I64 cp_Z33 
          · skip
            first | (have t69 : ¬ (x20.toInt = (-1)) := (not_congr (i_eq rfl (show (-1 : Int32).toInt = -1 from rfl))).mp c67) | (have t69 : ¬ (x20.toInt = (-1 : Int32).toInt) := (not_congr (i_eq rfl rfl)).mp c67) | skip
            have t70 : (1 : Int32).toInt = 1 := rfl
            refine s_X12_earn w_I64 v0 x20 r29 (1 : Int32) k34  (by omega) (fun  I71 L72 w_I71 f_I71  => ?_)
            have q_I71 : FR Ws_X12_rests Z I Z33 I71 := q_I64.trans w_I.1 w_I.2.1 (f_I71.mono (by decide))
            have u73 : (I71 v0 22).toInt = (I64 v0 22).toInt := by rw [f_I71.2.2.1 v0 12 22 k34 (by decide) (by decide)]
            exact hQ r29 Z33 I71 L72 w_I71 bd_Z33 q_I71 cp_Z33 
        · skip
          first | (have t74 : ¬ (r29.toInt ≤ (I31 b44 v1.toNatClampNeg).toInt) := (not_congr (i_le rfl rfl)).mp c47) | (have t74 : ¬ (r29.toInt ≤ (I31 b44 v1.toNatClampNeg).toInt) := (not_congr (i_le rfl rfl)).mp c47) | skip
          have t75 : (-5 : Int32).toInt = -5 := rfl
          exact hQ (-5 : Int32) Z33 I31 L32 w_I31 bd_Z33 q_I31 cp_Z33 
      · skip
        first | (have t76 : x20.toInt = (-1) := (i_eq rfl (show (-1 : Int32).toInt = -1 from rfl)).mp c21) | (have t76 : x20.toInt = (-1 : Int32).toInt := (i_eq rfl rfl).mp c21) | skip
        unfold f_X12_rests_b55
        intro b77 eb77
        obtain ⟨x78, ex78, kb77, lb77⟩ := sh_f w_I1.1 kv0 (j := 16) (k := 14) (m := 6) rfl
        cases eb77.symm.trans ex78
        have o79 : vp_in v1 6 := vi_of rfl (by omega) (by omega)
        refine ⟨o79, ?_⟩
        refine ⟨fun c80 => ?_, fun c80 => ?_⟩
        · skip
          first | (have t81 : (0) ≤ (I1 b77 v1.toNatClampNeg).toInt := (i_le (show (0 : Int32).toInt = 0 from rfl) rfl).mp c80) | (have t81 : (0 : Int32).toInt ≤ (I1 b77 v1.toNatClampNeg).toInt := (i_le rfl rfl).mp c80) | skip
          intro b82 eb82
          obtain rfl : b77 = b82 := Option.some.inj (eb77.symm.trans eb82)
          have o83 : vp_in v1 6 := vi_of rfl (by omega) (by omega)
          refine ⟨o83, ?_⟩
          have o84 : vp_in v1 6 := vi_of rfl (by omega) (by omega)
          refine ⟨o84, ?_⟩
          intro I85 eI85
          try (have t86 : ((I1 b77 v1.toNatClampNeg) - (0 : Int32)).toInt = ((I1 b77 v1.toNatClampNeg).toInt - (0)) := (i_sub rfl (show (0 : Int32).toInt = 0 from rfl) (by omega) (by omega)))
          have w_I85 : WD Z I85 := by rw [eI85]; exact WD_putA w_I1 12 16 kv0 eb77 kb77 rfl rfl (by decide) trivial
          have f_I85 : FR [(12, 16)] Z I1 Z I85 := by rw [eI85]; exact FR_upA w_I1.2.1 kv0 eb77 kb77 rfl rfl List.mem_cons_self
          have q_I85 : FR Ws_X12_rests Z I Z I85 := q_I1.trans w_I.1 w_I.2.1 (f_I85.mono (by decide))
          have u87 : (I85 v0 22).toInt = (I1 v0 22).toInt := by rw [f_I85.2.2.1 v0 12 22 kv0 (by decide) (by decide)]
          intro b88 eb88
          obtain ⟨x89, ex89, kb88, lb88⟩ := sh_f w_I85.1 kv0 (j := 15) (k := 14) (m := 6) rfl
          cases eb88.symm.trans ex89
          intro b90 eb90
          obtain ⟨x91, ex91, kb90, lb90⟩ := sh_f w_I85.1 kv0 (j := 9) (k := 14) (m := 6) rfl
          cases eb90.symm.trans ex91
          have o92 : vp_in v1 6 := vi_of rfl (by omega) (by omega)
          refine ⟨o92, ?_⟩
          have t93 : 0 ≤ (I85 b90 v1.toNatClampNeg).toInt ∧ (I85 b90 v1.toNatClampNeg).toInt ≤ 120 := w_I85.arr 12 9 kv0 eb90 kb90 rfl rfl _
          intro b94 eb94
          obtain rfl : b88 = b94 := Option.some.inj (eb88.symm.trans eb94)
          have o95 : vp_in v1 6 := vi_of rfl (by omega) (by omega)
          refine ⟨o95, ?_⟩
          have o96 : vp_in v1 6 := vi_of rfl (by omega) (by omega)
          refine ⟨o96, ?_⟩
          intro I97 eI97
          try (have t98 : (if ((I85 b88 v1.toNatClampNeg) + v2) < (I85 b90 v1.toNatClampNeg) then ((I85 b88 v1.toNatClampNeg) + v2) else (I85 b90 v1.toNatClampNeg)).toInt = (min (I85 b90 v1.toNatClampNeg).toInt ((I85 b88 v1.toNatClampNeg).toInt + v2.toInt)) := (i_min rfl (i_add rfl rfl (by omega) (by omega))))
          have w_I97 : WD Z I97 := by rw [eI97]; exact WD_putA w_I85 12 15 kv0 eb88 kb88 rfl rfl (by decide) trivial
          have f_I97 : FR [(12, 15)] Z I85 Z I97 := by rw [eI97]; exact FR_upA w_I85.2.1 kv0 eb88 kb88 rfl rfl List.mem_cons_self
          have q_I97 : FR Ws_X12_rests Z I Z I97 := q_I85.trans w_I.1 w_I.2.1 (f_I97.mono (by decide))
          have u99 : (I97 v0 22).toInt = (I85 v0 22).toInt := by rw [f_I97.2.2.1 v0 12 22 kv0 (by decide) (by decide)]
          refine ⟨fun c100 => ?_, fun c100 => ?_⟩
          · skip
            first | (have t101 : x20.toInt = (-1) := (i_eq rfl (show (-1 : Int32).toInt = -1 from rfl)).mp c100) | (have t101 : x20.toInt = (-1 : Int32).toInt := (i_eq rfl rfl).mp c100) | skip
            have t102 : (0 : Int32).toInt = 0 := rfl
            exact hQ (0 : Int32) Z I97 L w_I97 bd_Z q_I97 cp_Z 
          · skip
            first | (have t103 : ¬ (x20.toInt = (-1)) := (not_congr (i_eq rfl (show (-1 : Int32).toInt = -1 from rfl))).mp c100) | (have t103 : ¬ (x20.toInt = (-1 : Int32).toInt) := (not_congr (i_eq rfl rfl)).mp c100) | skip
            have t104 : (0 : Int32).toInt = 0 := rfl
            have t105 : (1 : Int32).toInt = 1 := rfl
            refine s_X12_earn w_I97 v0 x20 (0 : Int32) (1 : Int32) kv0  (by omega) (fun  I106 L107 w_I106 f_I106  => ?_)
            have q_I106 : FR Ws_X12_rests Z I Z I106 := q_I97.trans w_I.1 w_I.2.1 (f_I106.mono (by decide))
            have u108 : (I106 v0 22).toInt = (I97 v0 22).toInt := by rw [f_I106.2.2.1 v0 12 22 kv0 (by decide) (by decide)]
            have t109 : (0 : Int32).toInt = 0 := rfl
            exact hQ (0 : Int32) Z I106 L107 w_I106 bd_Z q_I106 cp_Z 
        · skip
          first | (have t110 : ¬ ((0) ≤ (I1 b77 v1.toNatClampNeg).toInt) := (not_congr (i_le (show (0 : Int32).toInt = 0 from rfl) rfl)).mp c80) | (have t110 : ¬ ((0 : Int32).toInt ≤ (I1 b77 v1.toNatClampNeg).toInt) := (not_congr (i_le rfl rfl)).mp c80) | skip
          have t111 : (-5 : Int32).toInt = -5 := rfl
          exact hQ (-5 : Int32) Z I1 L w_I1 bd_Z q_I1 cp_Z 
    · skip
      first | (have t112 : r12.toInt = (0) := (i_eq rfl (show (0 : Int32).toInt = 0 from rfl)).mp c14) | (have t112 : r12.toInt = (0 : Int32).toInt := (i_eq rfl rfl).mp c14) | skip
      have t113 : (-1 : Int32).toInt = -1 := rfl
      exact hQ (-1 : Int32) Z I1 L w_I1 bd_Z q_I1 cp_Z 
end
section

set_option maxHeartbeats 4000000 in
set_option maxRecDepth 100000 in
theorem l9_X10_append_L16 {Z : jZ} {I0 : jI} {Q : Int32 → jI → jL → Prop} (w0 : WD Z I0) (v0 : Nat) (v1 : Int32) (kv0 : jk Z v0 10) (hQ : ∀ (r : Int32) (I' : jI) (L' : jL), WD Z I' → FR Ws_X10_append Z I0 Z I' → ((r.toInt = 1 ∧ (I0 v0 1).toInt + 4 ≤ 80 ∧ (I' v0 1).toInt = (I0 v0 1).toInt + 4) ∨ (r.toInt = 0 ∧ 80 < (I0 v0 1).toInt + 4 ∧ (I' v0 1).toInt = (I0 v0 1).toInt)) → Q r I' L') : ∀ (n : Nat) (v2 : Int32) (I : jI) (L : jL), WD Z I → FR Ws_X10_append Z I0 Z I →   (-8 ≤ v2.toInt ∧ v2.toInt ≤ 24 ∧ v2.toInt % 8 = 0 ∧ (I v0 1).toInt + (v2.toInt + 8) / 8 = (I0 v0 1).toInt + 4 ∧ (I0 v0 1).toInt + 4 ≤ 80) → v2.toInt + 8 < (n : Int) → f_X10_append_L16  Z Q n v0 v1 v2 I L := by
  intro n
  induction n with
  | zero =>
    intro v2 I L w_I q_I   li  me
    exfalso
    omega
  | succ n ih =>
    intro v2 I L w_I q_I   li  me
    unfold f_X10_append_L16
    have rv2 := i_rng v2
    have rv1 := i_rng v1
    have t1 : 0 ≤ (I v0 1).toInt ∧ (I v0 1).toInt ≤ 80 := w_I.fld 10 1 kv0 (by decide)
    refine ⟨fun c2 => ?_, fun c2 => ?_⟩
    · skip
      first | (have t3 : v2.toInt < (0) := (i_lt rfl (show (0 : Int32).toInt = 0 from rfl)).mp c2) | (have t3 : v2.toInt < (0 : Int32).toInt := (i_lt rfl rfl).mp c2) | skip
      have t4 : (1 : Int32).toInt = 1 := rfl
      exact hQ (1 : Int32) I L w_I q_I (by omega)
    · skip
      first | (have t5 : ¬ (v2.toInt < (0)) := (not_congr (i_lt rfl (show (0 : Int32).toInt = 0 from rfl))).mp c2) | (have t5 : ¬ (v2.toInt < (0 : Int32).toInt) := (not_congr (i_lt rfl rfl)).mp c2) | skip
      intro b6 eb6
      obtain ⟨x7, ex7, kb6, lb6⟩ := sh_f w_I.1 kv0 (j := 0) (k := 13) (m := 80) rfl
      cases eb6.symm.trans ex7
      have t9 : 0 ≤ (I v0 1).toInt ∧ (I v0 1).toInt ≤ 80 := w_I.fld 10 1 kv0 (by decide)
      have o10 : vp_in (I v0 1) 80 := vi_of rfl (by omega) (by omega)
      refine ⟨o10, ?_⟩
      intro I11 eI11
      have w_I11 : WD Z I11 := by rw [eI11]; exact WD_putA w_I 10 0 kv0 eb6 kb6 rfl rfl (by decide) trivial
      have f_I11 : FR [(10, 0)] Z I Z I11 := by rw [eI11]; exact FR_upA w_I.2.1 kv0 eb6 kb6 rfl rfl List.mem_cons_self
      have q_I11 : FR Ws_X10_append Z I0 Z I11 := q_I.trans w0.1 w0.2.1 (f_I11.mono (by decide))
      have u12 : (I11 v0 1).toInt = (I v0 1).toInt := by rw [f_I11.2.2.1 v0 10 1 kv0 (by decide) (by decide)]
      have t14 : 0 ≤ (I11 v0 1).toInt ∧ (I11 v0 1).toInt ≤ 80 := w_I11.fld 10 1 kv0 (by decide)
      intro I15 eI15
      try (have t16 : ((I11 v0 1) + (1 : Int32)).toInt = ((I11 v0 1).toInt + (1)) := (i_add rfl (show (1 : Int32).toInt = 1 from rfl) (by omega) (by omega)))
      have w_I15 : WD Z I15 := by rw [eI15]; exact WD_putF w_I11 10 1 kv0 (by decide) (by decide) (by constructor <;> omega)
      have f_I15 : FR [(10, 1)] Z I11 Z I15 := by rw [eI15]; exact FR_putF kv0 (by decide) List.mem_cons_self
      have q_I15 : FR Ws_X10_append Z I0 Z I15 := q_I11.trans w0.1 w0.2.1 (f_I15.mono (by decide))
      first | (have u17 : (I15 v0 1).toInt = ((I11 v0 1).toInt + (1)) := by (rw [eI15, show jpI I11 v0 1 ((I11 v0 1) + (1 : Int32)) v0 1 = ((I11 v0 1) + (1 : Int32)) from jpI_at] <;> exact (i_add rfl (show (1 : Int32).toInt = 1 from rfl) (by omega) (by omega)))) | skip
      intro x18 ex18
      have rx18 := i_rng x18
      first | (have tx18 : x18.toInt = v2.toInt + (-8) := by (rw [ex18]; exact (i_add rfl (show (-8 : Int32).toInt = -8 from rfl) (by omega) (by omega)))) | skip
      exact ih x18 I15 L w_I15 q_I15   (by omega)  (by omega)
set_option maxHeartbeats 4000000 in
set_option maxRecDepth 100000 in
theorem s9_X10_append {Z : jZ} {I : jI} {L : jL} (w_I : WD Z I) (v0 : Nat) (v1 : Int32) (kv0 : jk Z v0 10) {Q : Int32 → jI → jL → Prop} (hQ : ∀ (r : Int32) (I' : jI) (L' : jL), WD Z I' → FR Ws_X10_append Z I Z I' → ((r.toInt = 1 ∧ (I v0 1).toInt + 4 ≤ 80 ∧ (I' v0 1).toInt = (I v0 1).toInt + 4) ∨ (r.toInt = 0 ∧ 80 < (I v0 1).toInt + 4 ∧ (I' v0 1).toInt = (I v0 1).toInt)) → Q r I' L') : f_X10_append v0 v1 Z I L Q := by
  unfold f_X10_append
  have q_I : FR Ws_X10_append Z I Z I := FR.rf
  have rv1 := i_rng v1
  have t19 : 0 ≤ (I v0 1).toInt ∧ (I v0 1).toInt ≤ 80 := w_I.fld 10 1 kv0 (by decide)
  have t21 : 0 ≤ (I v0 1).toInt ∧ (I v0 1).toInt ≤ 80 := w_I.fld 10 1 kv0 (by decide)
  refine ⟨fun c22 => ?_, fun c22 => ?_⟩
  · skip
    first | (have t23 : ((I v0 1).toInt + (4)) ≤ (80) := (i_le (i_add rfl (show (4 : Int32).toInt = 4 from rfl) (by omega) (by omega)) (show (80 : Int32).toInt = 80 from rfl)).mp c22) | (have t23 : ((I v0 1) + (4 : Int32)).toInt ≤ (80 : Int32).toInt := (i_le rfl rfl).mp c22) | skip
    have t24 : (24 : Int32).toInt = 24 := rfl
    exact ⟨((24 : Int32).toInt + 8).toNat + 1, l9_X10_append_L16 w_I v0 v1 kv0   hQ   _ (24 : Int32) I L w_I q_I   (by omega)  (by omega)⟩
  · skip
    first | (have t25 : ¬ (((I v0 1).toInt + (4)) ≤ (80)) := (not_congr (i_le (i_add rfl (show (4 : Int32).toInt = 4 from rfl) (by omega) (by omega)) (show (80 : Int32).toInt = 80 from rfl))).mp c22) | (have t25 : ¬ (((I v0 1) + (4 : Int32)).toInt ≤ (80 : Int32).toInt) := (not_congr (i_le rfl rfl)).mp c22) | skip
    have t26 : (0 : Int32).toInt = 0 := rfl
    exact hQ (0 : Int32) I L w_I q_I (by omega)

set_option maxHeartbeats 4000000 in
set_option maxRecDepth 100000 in
theorem s9_X10_cut {Z : jZ} {I : jI} {L : jL} (w_I : WD Z I) (v0 : Nat) (v1 : Int32) (kv0 : jk Z v0 10) {Q : Int32 → jI → jL → Prop} (hQ : ∀ (r : Int32) (I' : jI) (L' : jL), WD Z I' → FR Ws_X10_cut Z I Z I' → ((r.toInt = 1 ∧ 0 ≤ v1.toInt ∧ v1.toInt ≤ (I v0 1).toInt ∧ (I' v0 1).toInt = v1.toInt) ∨ (r.toInt = 0 ∧ ¬ (0 ≤ v1.toInt ∧ v1.toInt ≤ (I v0 1).toInt) ∧ (I' v0 1).toInt = (I v0 1).toInt)) → Q r I' L') : f_X10_cut v0 v1 Z I L Q := by
  unfold f_X10_cut
  have q_I : FR Ws_X10_cut Z I Z I := FR.rf
  have rv1 := i_rng v1
  have t1 : 0 ≤ (I v0 1).toInt ∧ (I v0 1).toInt ≤ 80 := w_I.fld 10 1 kv0 (by decide)
  refine ⟨fun c2 => ?_, fun c2 => ?_⟩
  · skip
    first | (have t3 : v1.toInt < (0) := (i_lt rfl (show (0 : Int32).toInt = 0 from rfl)).mp c2) | (have t3 : v1.toInt < (0 : Int32).toInt := (i_lt rfl rfl).mp c2) | skip
    have t4 : (0 : Int32).toInt = 0 := rfl
    exact hQ (0 : Int32) I L w_I q_I (by omega)
  · skip
    first | (have t5 : ¬ (v1.toInt < (0)) := (not_congr (i_lt rfl (show (0 : Int32).toInt = 0 from rfl))).mp c2) | (have t5 : ¬ (v1.toInt < (0 : Int32).toInt) := (not_congr (i_lt rfl rfl)).mp c2) | skip
    have t7 : 0 ≤ (I v0 1).toInt ∧ (I v0 1).toInt ≤ 80 := w_I.fld 10 1 kv0 (by decide)
    refine ⟨fun c8 => ?_, fun c8 => ?_⟩
    · skip
      first | (have t9 : v1.toInt ≤ (I v0 1).toInt := (i_le rfl rfl).mp c8) | (have t9 : v1.toInt ≤ (I v0 1).toInt := (i_le rfl rfl).mp c8) | skip
      intro I10 eI10
      have w_I10 : WD Z I10 := by rw [eI10]; exact WD_putF w_I 10 1 kv0 (by decide) (by decide) (by constructor <;> omega)
      have f_I10 : FR [(10, 1)] Z I Z I10 := by rw [eI10]; exact FR_putF kv0 (by decide) List.mem_cons_self
      have q_I10 : FR Ws_X10_cut Z I Z I10 := q_I.trans w_I.1 w_I.2.1 (f_I10.mono (by decide))
      first | (have u11 : (I10 v0 1).toInt = v1.toInt := by (rw [eI10, show jpI I v0 1 v1 v0 1 = v1 from jpI_at] <;> exact rfl)) | skip
      have t12 : (1 : Int32).toInt = 1 := rfl
      exact hQ (1 : Int32) I10 L w_I10 q_I10 (by omega)
    · skip
      first | (have t13 : ¬ (v1.toInt ≤ (I v0 1).toInt) := (not_congr (i_le rfl rfl)).mp c8) | (have t13 : ¬ (v1.toInt ≤ (I v0 1).toInt) := (not_congr (i_le rfl rfl)).mp c8) | skip
      have t14 : (0 : Int32).toInt = 0 := rfl
      exact hQ (0 : Int32) I L w_I q_I (by omega)

set_option maxHeartbeats 4000000 in
set_option maxRecDepth 100000 in
theorem s9_X10_clear {Z : jZ} {I : jI} {L : jL} (w_I : WD Z I) (v0 : Nat) (kv0 : jk Z v0 10) {Q : jI → jL → Prop} (hQ : ∀  (I' : jI) (L' : jL), WD Z I' → FR Ws_X10_clear Z I Z I' → (I' v0 1).toInt = 0 → Q I' L') : f_X10_clear v0 Z I L Q := by
  unfold f_X10_clear
  have q_I : FR Ws_X10_clear Z I Z I := FR.rf
  have t1 : 0 ≤ (I v0 1).toInt ∧ (I v0 1).toInt ≤ 80 := w_I.fld 10 1 kv0 (by decide)
  intro I2 eI2
  have t3 : (0 : Int32).toInt = 0 := rfl
  have w_I2 : WD Z I2 := by rw [eI2]; exact WD_putF w_I 10 1 kv0 (by decide) (by decide) (by constructor <;> omega)
  have f_I2 : FR [(10, 1)] Z I Z I2 := by rw [eI2]; exact FR_putF kv0 (by decide) List.mem_cons_self
  have q_I2 : FR Ws_X10_clear Z I Z I2 := q_I.trans w_I.1 w_I.2.1 (f_I2.mono (by decide))
  first | (have u4 : (I2 v0 1).toInt = (0) := by (rw [eI2, show jpI I v0 1 (0 : Int32) v0 1 = (0 : Int32) from jpI_at] <;> exact (show (0 : Int32).toInt = 0 from rfl))) | skip
  exact hQ  I2 L w_I2 q_I2 (by omega)

set_option maxHeartbeats 4000000 in
set_option maxRecDepth 100000 in
theorem s9_X11_sign {Z : jZ} {I : jI} {L : jL} (w_I : WD Z I) (v0 : Nat) (v1 : Int32) (kv0 : jk Z v0 11) (uT : Nat) (huT : jr Z v0 0 = some uT) {Q : Int32 → jI → jL → Prop} (hQ : ∀ (r : Int32) (I' : jI) (L' : jL), WD Z I' → FR Ws_X11_sign Z I Z I' → ((r.toInt = (I uT 1).toInt + 4 ∧ (I uT 1).toInt + 4 ≤ 80 ∧ (I' uT 1).toInt = (I uT 1).toInt + 4) ∨ (r.toInt = -1 ∧ 80 < (I uT 1).toInt + 4 ∧ (I' uT 1).toInt = (I uT 1).toInt)) → Q r I' L') : f_X11_sign v0 v1 Z I L Q := by
  unfold f_X11_sign
  have q_I : FR Ws_X11_sign Z I Z I := FR.rf
  have rv1 := i_rng v1
  have kuT : jk Z uT 10 := by obtain ⟨b9, e9, k9⟩ := sh_o w_I.1 kv0 (j := 0) (k := 10) rfl; cases huT.symm.trans e9; exact k9
  have t1 : 0 ≤ (I uT 1).toInt ∧ (I uT 1).toInt ≤ 80 := w_I.fld 10 1 kuT (by decide)
  intro b2 eb2
  obtain rfl : uT = b2 := Option.some.inj (huT.symm.trans eb2)
  refine s9_X10_append w_I uT v1 kuT   (fun r3 I5 L6 w_I5 f_I5 p4 => ?_)
  have q_I5 : FR Ws_X11_sign Z I Z I5 := q_I.trans w_I.1 w_I.2.1 (f_I5.mono (by decide))
  have rr3 := i_rng r3
  refine ⟨fun c7 => ?_, fun c7 => ?_⟩
  · skip
    first | (have t8 : r3.toInt = (0) := (i_eq rfl (show (0 : Int32).toInt = 0 from rfl)).mp c7) | (have t8 : r3.toInt = (0 : Int32).toInt := (i_eq rfl rfl).mp c7) | skip
    have t9 : (-1 : Int32).toInt = -1 := rfl
    exact hQ (-1 : Int32) I5 L6 w_I5 q_I5 (by omega)
  · skip
    first | (have t10 : ¬ (r3.toInt = (0)) := (not_congr (i_eq rfl (show (0 : Int32).toInt = 0 from rfl))).mp c7) | (have t10 : ¬ (r3.toInt = (0 : Int32).toInt) := (not_congr (i_eq rfl rfl)).mp c7) | skip
    intro b11 eb11
    obtain rfl : uT = b11 := Option.some.inj (huT.symm.trans eb11)
    have t13 : 0 ≤ (I5 uT 1).toInt ∧ (I5 uT 1).toInt ≤ 80 := w_I5.fld 10 1 kuT (by decide)
    exact hQ (I5 uT 1) I5 L6 w_I5 q_I5 (by omega)

set_option maxHeartbeats 4000000 in
set_option maxRecDepth 100000 in
theorem s9_X11_end {Z : jZ} {I : jI} {L : jL} (w_I : WD Z I) (v0 : Nat) (v1 : Int32) (kv0 : jk Z v0 11) (uT : Nat) (huT : jr Z v0 0 = some uT) {Q : Int32 → jI → jL → Prop} (hQ : ∀ (r : Int32) (I' : jI) (L' : jL), WD Z I' → FR Ws_X11_end Z I Z I' → ((r.toInt = 1 ∧ 0 ≤ v1.toInt ∧ v1.toInt ≤ (I uT 1).toInt ∧ (I' uT 1).toInt = v1.toInt) ∨ (r.toInt = 0 ∧ ¬ (0 ≤ v1.toInt ∧ v1.toInt ≤ (I uT 1).toInt) ∧ (I' uT 1).toInt = (I uT 1).toInt)) → Q r I' L') : f_X11_end v0 v1 Z I L Q := by
  unfold f_X11_end
  have q_I : FR Ws_X11_end Z I Z I := FR.rf
  have rv1 := i_rng v1
  have kuT : jk Z uT 10 := by obtain ⟨b9, e9, k9⟩ := sh_o w_I.1 kv0 (j := 0) (k := 10) rfl; cases huT.symm.trans e9; exact k9
  have t1 : 0 ≤ (I uT 1).toInt ∧ (I uT 1).toInt ≤ 80 := w_I.fld 10 1 kuT (by decide)
  intro b2 eb2
  obtain rfl : uT = b2 := Option.some.inj (huT.symm.trans eb2)
  refine s9_X10_cut w_I uT v1 kuT   (fun r3 I5 L6 w_I5 f_I5 p4 => ?_)
  have q_I5 : FR Ws_X11_end Z I Z I5 := q_I.trans w_I.1 w_I.2.1 (f_I5.mono (by decide))
  have rr3 := i_rng r3
  exact hQ r3 I5 L6 w_I5 q_I5 (by omega)

set_option maxHeartbeats 4000000 in
set_option maxRecDepth 100000 in
theorem l9_X11_stairs_L76 {Z : jZ} {I0 : jI} {Q : Int32 → jI → jL → Prop} (w0 : WD Z I0) (v0 : Nat) (kv0 : jk Z v0 11) (uT : Nat) (huT : jr Z v0 0 = some uT) (v1 : Int32) (hQ : ∀ (r : Int32) (I' : jI) (L' : jL), WD Z I' → FR Ws_X11_stairs Z I0 Z I' → (I' uT 1).toInt = 0 → Q r I' L') : ∀ (n : Nat) (v2 : Int32) (I : jI) (L : jL), WD Z I → FR Ws_X11_stairs Z I0 Z I →   (0 ≤ v2.toInt ∧ v2.toInt ≤ 2 ∧ (I uT 1).toInt = 0) → 2 - v2.toInt < (n : Int) → f_X11_stairs_L76  Z Q n v0 v1 v2 I L := by
  intro n
  induction n with
  | zero =>
    intro v2 I L w_I q_I   li  me
    exfalso
    omega
  | succ n ih =>
    intro v2 I L w_I q_I   li  me
    unfold f_X11_stairs_L76
    have rv2 := i_rng v2
    have rv1 := i_rng v1
    have kuT : jk Z uT 10 := by obtain ⟨b9, e9, k9⟩ := sh_o w_I.1 kv0 (j := 0) (k := 10) rfl; cases huT.symm.trans e9; exact k9
    have t1 : 0 ≤ (I uT 1).toInt ∧ (I uT 1).toInt ≤ 80 := w_I.fld 10 1 kuT (by decide)
    intro b2 eb2
    obtain ⟨x3, ex3, kb2, lb2⟩ := sh_f w_I.1 kv0 (j := 8) (k := 17) (m := 2) rfl
    cases eb2.symm.trans ex3
    refine ⟨fun c4 => ?_, fun c4 => ?_⟩
    · skip
      first | (have t5 : (2) ≤ v2.toInt := (i_le (show (2 : Int32).toInt = 2 from rfl) rfl).mp c4) | (have t5 : (2 : Int32).toInt ≤ v2.toInt := (i_le rfl rfl).mp c4) | skip
      exact hQ v1 I L w_I q_I (by omega)
    · skip
      first | (have t6 : ¬ ((2) ≤ v2.toInt) := (not_congr (i_le (show (2 : Int32).toInt = 2 from rfl) rfl)).mp c4) | (have t6 : ¬ ((2 : Int32).toInt ≤ v2.toInt) := (not_congr (i_le rfl rfl)).mp c4) | skip
      intro b7 eb7
      obtain rfl : b2 = b7 := Option.some.inj (eb2.symm.trans eb7)
      have o8 : vp_in v2 2 := vi_of rfl (by omega) (by omega)
      refine ⟨o8, ?_⟩
      intro b9 eb9
      obtain ⟨x11, ex11, kb9⟩ := w_I.1.2.2.1 b2 kb2 _ (vp_lt (by rw [lb2]; exact o8))
      cases eb9.symm.trans ex11
      intro I12 eI12
      have t13 : (0 : Int32).toInt = 0 := rfl
      have w_I12 : WD Z I12 := by rw [eI12]; exact WD_putF w_I 2 8 kb9 (by decide) (by decide) trivial
      have f_I12 : FR [(2, 8)] Z I Z I12 := by rw [eI12]; exact FR_putF kb9 (by decide) List.mem_cons_self
      have q_I12 : FR Ws_X11_stairs Z I0 Z I12 := q_I.trans w0.1 w0.2.1 (f_I12.mono (by decide))
      have u14 : (I12 uT 1).toInt = (I uT 1).toInt := by rw [f_I12.2.2.1 uT 10 1 kuT (by decide) (by decide)]
      first | (have u15 : (I12 b9 8).toInt = (0) := by (rw [eI12, show jpI I b9 8 (0 : Int32) b9 8 = (0 : Int32) from jpI_at] <;> exact (show (0 : Int32).toInt = 0 from rfl))) | skip
      intro x16 ex16
      have rx16 := i_rng x16
      first | (have tx16 : x16.toInt = v2.toInt + (1) := by (rw [ex16]; exact (i_add rfl (show (1 : Int32).toInt = 1 from rfl) (by omega) (by omega)))) | skip
      exact ih x16 I12 L w_I12 q_I12   (by omega)  (by omega)
set_option maxHeartbeats 4000000 in
set_option maxRecDepth 100000 in
theorem l9_X11_stairs_L38 {Z : jZ} {I0 : jI} {Q : Int32 → jI → jL → Prop} (w0 : WD Z I0) (v0 : Nat) (kv0 : jk Z v0 11) (uT : Nat) (huT : jr Z v0 0 = some uT) (v1 : Int32) (hQ : ∀ (r : Int32) (I' : jI) (L' : jL), WD Z I' → FR Ws_X11_stairs Z I0 Z I' → (I' uT 1).toInt = 0 → Q r I' L') : ∀ (n : Nat) (v2 : Int32) (I : jI) (L : jL), WD Z I → FR Ws_X11_stairs Z I0 Z I →   (0 ≤ v2.toInt ∧ v2.toInt ≤ 6 ∧ (I uT 1).toInt = 0) → 6 - v2.toInt < (n : Int) → f_X11_stairs_L38  Z Q n v0 v1 v2 I L := by
  intro n
  induction n with
  | zero =>
    intro v2 I L w_I q_I   li  me
    exfalso
    omega
  | succ n ih =>
    intro v2 I L w_I q_I   li  me
    unfold f_X11_stairs_L38
    have rv2 := i_rng v2
    have rv1 := i_rng v1
    have kuT : jk Z uT 10 := by obtain ⟨b9, e9, k9⟩ := sh_o w_I.1 kv0 (j := 0) (k := 10) rfl; cases huT.symm.trans e9; exact k9
    have t17 : 0 ≤ (I uT 1).toInt ∧ (I uT 1).toInt ≤ 80 := w_I.fld 10 1 kuT (by decide)
    have t19 : 0 ≤ (I v0 4).toInt ∧ (I v0 4).toInt ≤ 6 := w_I.fld 11 4 kv0 (by decide)
    refine ⟨fun c20 => ?_, fun c20 => ?_⟩
    · skip
      first | (have t21 : (I v0 4).toInt ≤ v2.toInt := (i_le rfl rfl).mp c20) | (have t21 : (I v0 4).toInt ≤ v2.toInt := (i_le rfl rfl).mp c20) | skip
      intro b22 eb22
      obtain ⟨x23, ex23, kb22, lb22⟩ := sh_f w_I.1 kv0 (j := 5) (k := 14) (m := 8) rfl
      cases eb22.symm.trans ex23
      have t24 : (0 : Int32).toInt = 0 := rfl
      refine s_J7_fill_53178 w_I b22 (0 : Int32) kb22 v0 11 5 kv0 eb22 (by decide) rfl (by omega) (by intro i; first | trivial | exact p1 i _ | exact p2 i _ | (constructor <;> decide)) (fun  I25 L26 w_I25 f_I25  => ?_)
      have q_I25 : FR Ws_X11_stairs Z I0 Z I25 := q_I.trans w0.1 w0.2.1 (f_I25.mono (by first | decide | (intro p hp; simp at hp ⊢; omega) | simp))
      have ut9 : (I25 uT 1).toInt = (I uT 1).toInt := by rw [f_I25.2.2.1 uT 10 1 kuT (by decide) (by decide)]
      have t27 : (0 : Int32).toInt = 0 := rfl
      exact ⟨(2 - (0 : Int32).toInt).toNat + 1, l9_X11_stairs_L76 w0 v0 kv0 uT huT v1  hQ   _ (0 : Int32) I25 L26 w_I25 q_I25   (by omega)  (by omega)⟩
    · skip
      first | (have t28 : ¬ ((I v0 4).toInt ≤ v2.toInt) := (not_congr (i_le rfl rfl)).mp c20) | (have t28 : ¬ ((I v0 4).toInt ≤ v2.toInt) := (not_congr (i_le rfl rfl)).mp c20) | skip
      refine s_X11_find w_I v0 v2 kv0   (fun r29 p30 => ?_)
      refine ⟨fun c32 => ?_, fun b31 c32 => ?_⟩
      · skip
        unfold f_X11_stairs_b60
        intro x33 ex33
        have rx33 := i_rng x33
        first | (have tx33 : x33.toInt = v2.toInt + (1) := by (rw [ex33]; exact (i_add rfl (show (1 : Int32).toInt = 1 from rfl) (by omega) (by omega)))) | skip
        exact ih x33 I L w_I q_I   (by omega)  (by omega)
      · skip
        have kb31 : jk Z b31 5 := by first | exact p30 b31 c32 | exact (p30 b31 c32).1 | exact (p30.1 b31 c32).1
        refine s_X5_startAnew w_I b31 kb31   (fun  I34 L35 w_I34 f_I34  => ?_)
        have q_I34 : FR Ws_X11_stairs Z I0 Z I34 := q_I.trans w0.1 w0.2.1 (f_I34.mono (by decide))
        have u36 : (I34 uT 1).toInt = (I uT 1).toInt := by rw [f_I34.2.2.1 uT 10 1 kuT (by decide) (by decide)]
        have u37 : (I34 v0 4).toInt = (I v0 4).toInt := by rw [f_I34.2.2.1 v0 11 4 kv0 (by decide) (by decide)]
        unfold f_X11_stairs_b60
        intro x38 ex38
        have rx38 := i_rng x38
        first | (have tx38 : x38.toInt = v2.toInt + (1) := by (rw [ex38]; exact (i_add rfl (show (1 : Int32).toInt = 1 from rfl) (by omega) (by omega)))) | skip
        exact ih x38 I34 L35 w_I34 q_I34   (by omega)  (by omega)
set_option maxHeartbeats 4000000 in
set_option maxRecDepth 100000 in
theorem s9_X11_stairs {Z : jZ} {I : jI} {L : jL} (w_I : WD Z I) (v0 : Nat) (kv0 : jk Z v0 11) (uT : Nat) (huT : jr Z v0 0 = some uT) {Q : Int32 → jI → jL → Prop} (hQ : ∀ (r : Int32) (I' : jI) (L' : jL), WD Z I' → FR Ws_X11_stairs Z I Z I' → (I' uT 1).toInt = 0 → Q r I' L') : f_X11_stairs v0 Z I L Q := by
  unfold f_X11_stairs
  have q_I : FR Ws_X11_stairs Z I Z I := FR.rf
  have kuT : jk Z uT 10 := by obtain ⟨b9, e9, k9⟩ := sh_o w_I.1 kv0 (j := 0) (k := 10) rfl; cases huT.symm.trans e9; exact k9
  have t39 : 0 ≤ (I uT 1).toInt ∧ (I uT 1).toInt ≤ 80 := w_I.fld 10 1 kuT (by decide)
  intro b40 eb40
  obtain ⟨x41, ex41, kb40⟩ := sh_o w_I.1 kv0 (j := 1) (k := 9) rfl
  cases eb40.symm.trans ex41
  intro b42 eb42
  obtain rfl : uT = b42 := Option.some.inj (huT.symm.trans eb42)
  refine s_X9_read w_I b40 uT kb40 kuT   (fun r43 I44 L45 w_I44 f_I44  => ?_)
  have q_I44 : FR Ws_X11_stairs Z I Z I44 := q_I.trans w_I.1 w_I.2.1 (f_I44.mono (by decide))
  have u46 : (I44 uT 1).toInt = (I uT 1).toInt := by rw [f_I44.2.2.1 uT 10 1 kuT (by decide) (by decide)]
  have rr43 := i_rng r43
  intro b47 eb47
  obtain rfl : uT = b47 := Option.some.inj (huT.symm.trans eb47)
  refine s9_X10_clear w_I44 uT kuT   (fun  I49 L50 w_I49 f_I49 p48 => ?_)
  have q_I49 : FR Ws_X11_stairs Z I Z I49 := q_I44.trans w_I.1 w_I.2.1 (f_I49.mono (by decide))
  refine ⟨fun c51 => ?_, fun c51 => ?_⟩
  · skip
    first | (have t52 : (0) ≤ r43.toInt := (i_le (show (0 : Int32).toInt = 0 from rfl) rfl).mp c51) | (have t52 : (0 : Int32).toInt ≤ r43.toInt := (i_le rfl rfl).mp c51) | skip
    intro b53 eb53
    obtain ⟨x54, ex54, kb53⟩ := sh_o w_I49.1 kv0 (j := 2) (k := 8) rfl
    cases eb53.symm.trans ex54
    intro b55 eb55
    obtain rfl : b40 = b55 := Option.some.inj (eb40.symm.trans eb55)
    refine s_X8_build w_I49 b53 b40 kb53 kb40   (fun  I56 L57 w_I56 f_I56  => ?_)
    have q_I56 : FR Ws_X11_stairs Z I Z I56 := q_I49.trans w_I.1 w_I.2.1 (f_I56.mono (by decide))
    have u58 : (I56 uT 1).toInt = (I49 uT 1).toInt := by rw [f_I56.2.2.1 uT 10 1 kuT (by decide) (by decide)]
    have t59 : (0 : Int32).toInt = 0 := rfl
    exact ⟨(6 - (0 : Int32).toInt).toNat + 1, l9_X11_stairs_L38 w_I v0 kv0 uT huT r43  hQ   _ (0 : Int32) I56 L57 w_I56 q_I56   (by omega)  (by omega)⟩
  · skip
    first | (have t60 : ¬ ((0) ≤ r43.toInt) := (not_congr (i_le (show (0 : Int32).toInt = 0 from rfl) rfl)).mp c51) | (have t60 : ¬ ((0 : Int32).toInt ≤ r43.toInt) := (not_congr (i_le rfl rfl)).mp c51) | skip
    exact hQ r43 I49 L50 w_I49 q_I49 (by omega)

set_option maxHeartbeats 4000000 in
set_option maxRecDepth 100000 in
theorem l9_X12_sign_L20 {Z : jZ} {I0 : jI} {Q : Int32 → jI → jL → Prop} (w0 : WD Z I0) (v0 : Nat) (v1 : Int32) (kv0 : jk Z v0 12) (hQ : ∀ (r : Int32) (I' : jI) (L' : jL), WD Z I' → FR Ws_X12_sign Z I0 Z I' → ((r.toInt = (I0 v0 19).toInt + 4 ∧ (I0 v0 19).toInt + 4 ≤ 80 ∧ (I' v0 19).toInt = (I0 v0 19).toInt + 4) ∨ (r.toInt = -1 ∧ 80 < (I0 v0 19).toInt + 4 ∧ (I' v0 19).toInt = (I0 v0 19).toInt)) → Q r I' L') : ∀ (n : Nat) (v2 : Int32) (I : jI) (L : jL), WD Z I → FR Ws_X12_sign Z I0 Z I →   (-1 ≤ v2.toInt ∧ v2.toInt ≤ 3 ∧ 0 ≤ (I0 v0 19).toInt ∧ (I v0 19).toInt + v2.toInt + 1 = (I0 v0 19).toInt + 4 ∧ (I0 v0 19).toInt + 4 ≤ 80) → v2.toInt + 1 < (n : Int) → f_X12_sign_L20  Z Q n v0 v1 v2 I L := by
  intro n
  induction n with
  | zero =>
    intro v2 I L w_I q_I   li  me
    exfalso
    omega
  | succ n ih =>
    intro v2 I L w_I q_I   li  me
    unfold f_X12_sign_L20
    have rv2 := i_rng v2
    have rv1 := i_rng v1
    have t1 : 0 ≤ (I v0 19).toInt ∧ (I v0 19).toInt ≤ 80 := w_I.fld 12 19 kv0 (by decide)
    refine ⟨fun c2 => ?_, fun c2 => ?_⟩
    · skip
      first | (have t3 : v2.toInt < (0) := (i_lt rfl (show (0 : Int32).toInt = 0 from rfl)).mp c2) | (have t3 : v2.toInt < (0 : Int32).toInt := (i_lt rfl rfl).mp c2) | skip
      have t5 : 0 ≤ (I v0 19).toInt ∧ (I v0 19).toInt ≤ 80 := w_I.fld 12 19 kv0 (by decide)
      exact hQ (I v0 19) I L w_I q_I (by omega)
    · skip
      first | (have t6 : ¬ (v2.toInt < (0)) := (not_congr (i_lt rfl (show (0 : Int32).toInt = 0 from rfl))).mp c2) | (have t6 : ¬ (v2.toInt < (0 : Int32).toInt) := (not_congr (i_lt rfl rfl)).mp c2) | skip
      intro b7 eb7
      obtain ⟨x8, ex8, kb7, lb7⟩ := sh_f w_I.1 kv0 (j := 18) (k := 13) (m := 80) rfl
      cases eb7.symm.trans ex8
      have t10 : 0 ≤ (I v0 19).toInt ∧ (I v0 19).toInt ≤ 80 := w_I.fld 12 19 kv0 (by decide)
      intro I11 eI11
      try (have t12 : ((I v0 19) + (1 : Int32)).toInt = ((I v0 19).toInt + (1)) := (i_add rfl (show (1 : Int32).toInt = 1 from rfl) (by omega) (by omega)))
      have w_I11 : WD Z I11 := by rw [eI11]; exact WD_putF w_I 12 19 kv0 (by decide) (by decide) (by constructor <;> omega)
      have f_I11 : FR [(12, 19)] Z I Z I11 := by rw [eI11]; exact FR_putF kv0 (by decide) List.mem_cons_self
      have q_I11 : FR Ws_X12_sign Z I0 Z I11 := q_I.trans w0.1 w0.2.1 (f_I11.mono (by decide))
      first | (have u13 : (I11 v0 19).toInt = ((I v0 19).toInt + (1)) := by (rw [eI11, show jpI I v0 19 ((I v0 19) + (1 : Int32)) v0 19 = ((I v0 19) + (1 : Int32)) from jpI_at] <;> exact (i_add rfl (show (1 : Int32).toInt = 1 from rfl) (by omega) (by omega)))) | skip
      have o14 : vp_in (I v0 19) 80 := vi_of rfl (by omega) (by omega)
      refine ⟨o14, ?_⟩
      intro I15 eI15
      have w_I15 : WD Z I15 := by rw [eI15]; exact WD_putA w_I11 12 18 kv0 eb7 kb7 rfl rfl (by decide) trivial
      have f_I15 : FR [(12, 18)] Z I11 Z I15 := by rw [eI15]; exact FR_upA w_I11.2.1 kv0 eb7 kb7 rfl rfl List.mem_cons_self
      have q_I15 : FR Ws_X12_sign Z I0 Z I15 := q_I11.trans w0.1 w0.2.1 (f_I15.mono (by decide))
      have u16 : (I15 v0 19).toInt = (I11 v0 19).toInt := by rw [f_I15.2.2.1 v0 12 19 kv0 (by decide) (by decide)]
      intro x17 ex17
      have rx17 := i_rng x17
      first | (have tx17 : x17.toInt = v2.toInt + (-1) := by (rw [ex17]; exact (i_add rfl (show (-1 : Int32).toInt = -1 from rfl) (by omega) (by omega)))) | skip
      exact ih x17 I15 L w_I15 q_I15   (by omega)  (by omega)
set_option maxHeartbeats 4000000 in
set_option maxRecDepth 100000 in
theorem s9_X12_sign {Z : jZ} {I : jI} {L : jL} (w_I : WD Z I) (v0 : Nat) (v1 : Int32) (kv0 : jk Z v0 12) {Q : Int32 → jI → jL → Prop} (hQ : ∀ (r : Int32) (I' : jI) (L' : jL), WD Z I' → FR Ws_X12_sign Z I Z I' → ((r.toInt = (I v0 19).toInt + 4 ∧ (I v0 19).toInt + 4 ≤ 80 ∧ (I' v0 19).toInt = (I v0 19).toInt + 4) ∨ (r.toInt = -1 ∧ 80 < (I v0 19).toInt + 4 ∧ (I' v0 19).toInt = (I v0 19).toInt)) → Q r I' L') : f_X12_sign v0 v1 Z I L Q := by
  unfold f_X12_sign
  have q_I : FR Ws_X12_sign Z I Z I := FR.rf
  have rv1 := i_rng v1
  have t18 : 0 ≤ (I v0 19).toInt ∧ (I v0 19).toInt ≤ 80 := w_I.fld 12 19 kv0 (by decide)
  intro I19 eI19
  have t20 : (0 : Int32).toInt = 0 := rfl
  have w_I19 : WD Z I19 := by rw [eI19]; exact WD_putF w_I 12 22 kv0 (by decide) (by decide) trivial
  have f_I19 : FR [(12, 22)] Z I Z I19 := by rw [eI19]; exact FR_putF kv0 (by decide) List.mem_cons_self
  have q_I19 : FR Ws_X12_sign Z I Z I19 := q_I.trans w_I.1 w_I.2.1 (f_I19.mono (by decide))
  have u21 : (I19 v0 19).toInt = (I v0 19).toInt := by rw [f_I19.2.2.1 v0 12 19 kv0 (by decide) (by decide)]
  first | (have u22 : (I19 v0 22).toInt = (0) := by (rw [eI19, show jpI I v0 22 (0 : Int32) v0 22 = (0 : Int32) from jpI_at] <;> exact (show (0 : Int32).toInt = 0 from rfl))) | skip
  have t24 : 0 ≤ (I19 v0 19).toInt ∧ (I19 v0 19).toInt ≤ 80 := w_I19.fld 12 19 kv0 (by decide)
  refine ⟨fun c25 => ?_, fun c25 => ?_⟩
  · skip
    first | (have t26 : ((I19 v0 19).toInt + (4)) ≤ (80) := (i_le (i_add rfl (show (4 : Int32).toInt = 4 from rfl) (by omega) (by omega)) (show (80 : Int32).toInt = 80 from rfl)).mp c25) | (have t26 : ((I19 v0 19) + (4 : Int32)).toInt ≤ (80 : Int32).toInt := (i_le rfl rfl).mp c25) | skip
    have t27 : (3 : Int32).toInt = 3 := rfl
    exact ⟨((3 : Int32).toInt + 1).toNat + 1, l9_X12_sign_L20 w_I v0 v1 kv0   hQ   _ (3 : Int32) I19 L w_I19 q_I19   (by omega)  (by omega)⟩
  · skip
    first | (have t28 : ¬ (((I19 v0 19).toInt + (4)) ≤ (80)) := (not_congr (i_le (i_add rfl (show (4 : Int32).toInt = 4 from rfl) (by omega) (by omega)) (show (80 : Int32).toInt = 80 from rfl))).mp c25) | (have t28 : ¬ (((I19 v0 19) + (4 : Int32)).toInt ≤ (80 : Int32).toInt) := (not_congr (i_le rfl rfl)).mp c25) | skip
    have t29 : (-1 : Int32).toInt = -1 := rfl
    exact hQ (-1 : Int32) I19 L w_I19 q_I19 (by omega)

set_option maxHeartbeats 4000000 in
set_option maxRecDepth 100000 in
theorem s9_X12_end {Z : jZ} {I : jI} {L : jL} (w_I : WD Z I) (v0 : Nat) (v1 : Int32) (kv0 : jk Z v0 12) {Q : Int32 → jI → jL → Prop} (hQ : ∀ (r : Int32) (I' : jI) (L' : jL), WD Z I' → FR Ws_X12_end Z I Z I' → ((r.toInt = 1 ∧ 0 ≤ v1.toInt ∧ v1.toInt ≤ (I v0 19).toInt ∧ (I' v0 19).toInt = v1.toInt) ∨ (r.toInt = 0 ∧ ¬ (0 ≤ v1.toInt ∧ v1.toInt ≤ (I v0 19).toInt) ∧ (I' v0 19).toInt = (I v0 19).toInt)) → Q r I' L') : f_X12_end v0 v1 Z I L Q := by
  unfold f_X12_end
  have q_I : FR Ws_X12_end Z I Z I := FR.rf
  have rv1 := i_rng v1
  have t1 : 0 ≤ (I v0 19).toInt ∧ (I v0 19).toInt ≤ 80 := w_I.fld 12 19 kv0 (by decide)
  intro I2 eI2
  have t3 : (0 : Int32).toInt = 0 := rfl
  have w_I2 : WD Z I2 := by rw [eI2]; exact WD_putF w_I 12 22 kv0 (by decide) (by decide) trivial
  have f_I2 : FR [(12, 22)] Z I Z I2 := by rw [eI2]; exact FR_putF kv0 (by decide) List.mem_cons_self
  have q_I2 : FR Ws_X12_end Z I Z I2 := q_I.trans w_I.1 w_I.2.1 (f_I2.mono (by decide))
  have u4 : (I2 v0 19).toInt = (I v0 19).toInt := by rw [f_I2.2.2.1 v0 12 19 kv0 (by decide) (by decide)]
  first | (have u5 : (I2 v0 22).toInt = (0) := by (rw [eI2, show jpI I v0 22 (0 : Int32) v0 22 = (0 : Int32) from jpI_at] <;> exact (show (0 : Int32).toInt = 0 from rfl))) | skip
  have t7 : 0 ≤ (I2 v0 19).toInt ∧ (I2 v0 19).toInt ≤ 80 := w_I2.fld 12 19 kv0 (by decide)
  have t8 : (0 : Int32).toInt = 0 := rfl
  refine s_X12_in w_I2 v1 (0 : Int32) (I2 v0 19)    (fun r9 p10 => ?_)
  have rr9 := i_rng r9
  refine ⟨fun c11 => ?_, fun c11 => ?_⟩
  · skip
    first | (have t12 : ¬ (r9.toInt = (0)) := (not_congr (i_eq rfl (show (0 : Int32).toInt = 0 from rfl))).mp c11) | (have t12 : ¬ (r9.toInt = (0 : Int32).toInt) := (not_congr (i_eq rfl rfl)).mp c11) | skip
    intro I13 eI13
    have w_I13 : WD Z I13 := by rw [eI13]; exact WD_putF w_I2 12 19 kv0 (by decide) (by decide) (by constructor <;> omega)
    have f_I13 : FR [(12, 19)] Z I2 Z I13 := by rw [eI13]; exact FR_putF kv0 (by decide) List.mem_cons_self
    have q_I13 : FR Ws_X12_end Z I Z I13 := q_I2.trans w_I.1 w_I.2.1 (f_I13.mono (by decide))
    have u14 : (I13 v0 22).toInt = (I2 v0 22).toInt := by rw [f_I13.2.2.1 v0 12 22 kv0 (by decide) (by decide)]
    first | (have u15 : (I13 v0 19).toInt = v1.toInt := by (rw [eI13, show jpI I2 v0 19 v1 v0 19 = v1 from jpI_at] <;> exact rfl)) | skip
    have t16 : (1 : Int32).toInt = 1 := rfl
    exact hQ (1 : Int32) I13 L w_I13 q_I13 (by omega)
  · skip
    first | (have t17 : r9.toInt = (0) := (i_eq rfl (show (0 : Int32).toInt = 0 from rfl)).mp c11) | (have t17 : r9.toInt = (0 : Int32).toInt := (i_eq rfl rfl).mp c11) | skip
    have t18 : (0 : Int32).toInt = 0 := rfl
    exact hQ (0 : Int32) I2 L w_I2 q_I2 (by omega)

set_option maxHeartbeats 4000000 in
set_option maxRecDepth 100000 in
theorem l9_X12_stairs_L301 {B : Nat × Nat} {T : Nat} {Z0 : jZ} {I0 : jI} {Q : Int32 → jZ → jI → jL → Prop} (w0 : WD Z0 I0) (v0 : Nat) (kv0 : jk Z0 v0 12) (v1 : Int32) (hQ : ∀ (r : Int32) (Z' : jZ) (I' : jI) (L' : jL), WD Z' I' → BUD B Z' T → FR Ws_X12_stairs Z0 I0 Z' I' → CP Z0 Z' → (I' v0 19).toInt = 0 → Q r Z' I' L') : ∀ (n : Nat) (v3 : Int32) (Z : jZ) (I : jI) (L : jL), WD Z I → BUD B Z T → FR Ws_X12_stairs Z0 I0 Z I → CP Z0 Z →   (0 ≤ v3.toInt ∧ v3.toInt ≤ 6 ∧ (I v0 19).toInt = 0) → 6 - v3.toInt < (n : Int) → f_X12_stairs_L301 B  Q n v0 v1 v3 Z I L := by
  intro n
  induction n with
  | zero =>
    intro v3 Z I L w_I bd_Z q_I cp_Z   li  me
    exfalso
    omega
  | succ n ih =>
    intro v3 Z I L w_I bd_Z q_I cp_Z   li  me
    unfold f_X12_stairs_L301
    have rv3 := i_rng v3
    have rv1 := i_rng v1
    have kv0_0 := kv0
    have kv0 := (q_I.1 _ _ kv0).1
    have t1 : 0 ≤ (I v0 19).toInt ∧ (I v0 19).toInt ≤ 80 := w_I.fld 12 19 kv0 (by decide)
    have xq_I := q_I.1
    have t3 : 0 ≤ (I v0 8).toInt ∧ (I v0 8).toInt ≤ 6 := w_I.fld 12 8 kv0 (by decide)
    refine ⟨fun c4 => ?_, fun c4 => ?_⟩
    · skip
      first | (have t5 : (I v0 8).toInt ≤ v3.toInt := (i_le rfl rfl).mp c4) | (have t5 : (I v0 8).toInt ≤ v3.toInt := (i_le rfl rfl).mp c4) | skip
      exact hQ v1 Z I L w_I bd_Z q_I cp_Z (by omega)
    · skip
      first | (have t6 : ¬ ((I v0 8).toInt ≤ v3.toInt) := (not_congr (i_le rfl rfl)).mp c4) | (have t6 : ¬ ((I v0 8).toInt ≤ v3.toInt) := (not_congr (i_le rfl rfl)).mp c4) | skip
      intro b7 eb7
      obtain ⟨x8, ex8, kb7, lb7⟩ := sh_f w_I.1 kv0 (j := 14) (k := 14) (m := 6) rfl
      cases eb7.symm.trans ex8
      have o9 : vp_in v3 6 := vi_of rfl (by omega) (by omega)
      refine ⟨o9, ?_⟩
      intro I10 eI10
      have t11 : (-1 : Int32).toInt = -1 := rfl
      have w_I10 : WD Z I10 := by rw [eI10]; exact WD_putA w_I 12 14 kv0 eb7 kb7 rfl rfl (by decide) (by constructor <;> omega)
      have f_I10 : FR [(12, 14)] Z I Z I10 := by rw [eI10]; exact FR_upA w_I.2.1 kv0 eb7 kb7 rfl rfl List.mem_cons_self
      have q_I10 : FR Ws_X12_stairs Z0 I0 Z I10 := q_I.trans w0.1 w0.2.1 (f_I10.mono (by decide))
      have u12 : (I10 v0 19).toInt = (I v0 19).toInt := by rw [f_I10.2.2.1 v0 12 19 kv0 (by decide) (by decide)]
      have u13 : (I10 v0 8).toInt = (I v0 8).toInt := by rw [f_I10.2.2.1 v0 12 8 kv0 (by decide) (by decide)]
      intro b14 eb14
      obtain ⟨x15, ex15, kb14, lb14⟩ := sh_f w_I10.1 kv0 (j := 15) (k := 14) (m := 6) rfl
      cases eb14.symm.trans ex15
      intro b16 eb16
      obtain ⟨x17, ex17, kb16, lb16⟩ := sh_f w_I10.1 kv0 (j := 9) (k := 14) (m := 6) rfl
      cases eb16.symm.trans ex17
      have o18 : vp_in v3 6 := vi_of rfl (by omega) (by omega)
      refine ⟨o18, ?_⟩
      have t19 : 0 ≤ (I10 b16 v3.toNatClampNeg).toInt ∧ (I10 b16 v3.toNatClampNeg).toInt ≤ 120 := w_I10.arr 12 9 kv0 eb16 kb16 rfl rfl _
      have o20 : vp_in v3 6 := vi_of rfl (by omega) (by omega)
      refine ⟨o20, ?_⟩
      intro I21 eI21
      have w_I21 : WD Z I21 := by rw [eI21]; exact WD_putA w_I10 12 15 kv0 eb14 kb14 rfl rfl (by decide) trivial
      have f_I21 : FR [(12, 15)] Z I10 Z I21 := by rw [eI21]; exact FR_upA w_I10.2.1 kv0 eb14 kb14 rfl rfl List.mem_cons_self
      have q_I21 : FR Ws_X12_stairs Z0 I0 Z I21 := q_I10.trans w0.1 w0.2.1 (f_I21.mono (by decide))
      have u22 : (I21 v0 19).toInt = (I10 v0 19).toInt := by rw [f_I21.2.2.1 v0 12 19 kv0 (by decide) (by decide)]
      have u23 : (I21 v0 8).toInt = (I10 v0 8).toInt := by rw [f_I21.2.2.1 v0 12 8 kv0 (by decide) (by decide)]
      intro b24 eb24
      obtain ⟨x25, ex25, kb24, lb24⟩ := sh_f w_I21.1 kv0 (j := 16) (k := 14) (m := 6) rfl
      cases eb24.symm.trans ex25
      intro b26 eb26
      obtain ⟨x27, ex27, kb26, lb26⟩ := sh_f w_I21.1 kv0 (j := 10) (k := 14) (m := 6) rfl
      cases eb26.symm.trans ex27
      have o28 : vp_in v3 6 := vi_of rfl (by omega) (by omega)
      refine ⟨o28, ?_⟩
      have t29 : 0 ≤ (I21 b26 v3.toNatClampNeg).toInt ∧ (I21 b26 v3.toNatClampNeg).toInt ≤ 999 := w_I21.arr 12 10 kv0 eb26 kb26 rfl rfl _
      have o30 : vp_in v3 6 := vi_of rfl (by omega) (by omega)
      refine ⟨o30, ?_⟩
      intro I31 eI31
      have w_I31 : WD Z I31 := by rw [eI31]; exact WD_putA w_I21 12 16 kv0 eb24 kb24 rfl rfl (by decide) trivial
      have f_I31 : FR [(12, 16)] Z I21 Z I31 := by rw [eI31]; exact FR_upA w_I21.2.1 kv0 eb24 kb24 rfl rfl List.mem_cons_self
      have q_I31 : FR Ws_X12_stairs Z0 I0 Z I31 := q_I21.trans w0.1 w0.2.1 (f_I31.mono (by decide))
      have u32 : (I31 v0 19).toInt = (I21 v0 19).toInt := by rw [f_I31.2.2.1 v0 12 19 kv0 (by decide) (by decide)]
      have u33 : (I31 v0 8).toInt = (I21 v0 8).toInt := by rw [f_I31.2.2.1 v0 12 8 kv0 (by decide) (by decide)]
      intro x34 ex34
      have rx34 := i_rng x34
      first | (have tx34 : x34.toInt = v3.toInt + (1) := by (rw [ex34]; exact (i_add rfl (show (1 : Int32).toInt = 1 from rfl) (by omega) (by omega)))) | skip
      exact ih x34 Z I31 L w_I31 bd_Z q_I31 cp_Z   (by omega)  (by omega)
set_option maxHeartbeats 4000000 in
set_option maxRecDepth 100000 in
theorem l9_X12_stairs_L280 {B : Nat × Nat} {T : Nat} {Z0 : jZ} {I0 : jI} {Q : Int32 → jZ → jI → jL → Prop} (w0 : WD Z0 I0) (v0 : Nat) (kv0 : jk Z0 v0 12) (v1 : Int32) (hQ : ∀ (r : Int32) (Z' : jZ) (I' : jI) (L' : jL), WD Z' I' → BUD B Z' T → FR Ws_X12_stairs Z0 I0 Z' I' → CP Z0 Z' → (I' v0 19).toInt = 0 → Q r Z' I' L') : ∀ (n : Nat) (v3 : Int32) (Z : jZ) (I : jI) (L : jL), WD Z I → BUD B Z T → FR Ws_X12_stairs Z0 I0 Z I → CP Z0 Z →   (0 ≤ v3.toInt ∧ v3.toInt ≤ 8 ∧ (I v0 19).toInt = 0) → 8 - v3.toInt < (n : Int) → f_X12_stairs_L280 B  Q n v0 v1 v3 Z I L := by
  intro n
  induction n with
  | zero =>
    intro v3 Z I L w_I bd_Z q_I cp_Z   li  me
    exfalso
    omega
  | succ n ih =>
    intro v3 Z I L w_I bd_Z q_I cp_Z   li  me
    unfold f_X12_stairs_L280
    have rv3 := i_rng v3
    have rv1 := i_rng v1
    have kv0_0 := kv0
    have kv0 := (q_I.1 _ _ kv0).1
    have t35 : 0 ≤ (I v0 19).toInt ∧ (I v0 19).toInt ≤ 80 := w_I.fld 12 19 kv0 (by decide)
    have xq_I := q_I.1
    refine ⟨fun c36 => ?_, fun c36 => ?_⟩
    · skip
      first | (have t37 : (8) ≤ v3.toInt := (i_le (show (8 : Int32).toInt = 8 from rfl) rfl).mp c36) | (have t37 : (8 : Int32).toInt ≤ v3.toInt := (i_le rfl rfl).mp c36) | skip
      have t38 : (0 : Int32).toInt = 0 := rfl
      exact ⟨(6 - (0 : Int32).toInt).toNat + 1, l9_X12_stairs_L301 w0 v0 kv0_0 v1  hQ   _ (0 : Int32) Z I L w_I bd_Z q_I cp_Z   (by omega)  (by omega)⟩
    · skip
      first | (have t39 : ¬ ((8) ≤ v3.toInt) := (not_congr (i_le (show (8 : Int32).toInt = 8 from rfl) rfl)).mp c36) | (have t39 : ¬ ((8 : Int32).toInt ≤ v3.toInt) := (not_congr (i_le rfl rfl)).mp c36) | skip
      intro b40 eb40
      obtain ⟨x41, ex41, kb40, lb40⟩ := sh_f w_I.1 kv0 (j := 17) (k := 14) (m := 8) rfl
      cases eb40.symm.trans ex41
      have o42 : vp_in v3 8 := vi_of rfl (by omega) (by omega)
      refine ⟨o42, ?_⟩
      intro I43 eI43
      have t44 : (0 : Int32).toInt = 0 := rfl
      have w_I43 : WD Z I43 := by rw [eI43]; exact WD_putA w_I 12 17 kv0 eb40 kb40 rfl rfl (by decide) trivial
      have f_I43 : FR [(12, 17)] Z I Z I43 := by rw [eI43]; exact FR_upA w_I.2.1 kv0 eb40 kb40 rfl rfl List.mem_cons_self
      have q_I43 : FR Ws_X12_stairs Z0 I0 Z I43 := q_I.trans w0.1 w0.2.1 (f_I43.mono (by decide))
      have u45 : (I43 v0 19).toInt = (I v0 19).toInt := by rw [f_I43.2.2.1 v0 12 19 kv0 (by decide) (by decide)]
      intro x46 ex46
      have rx46 := i_rng x46
      first | (have tx46 : x46.toInt = v3.toInt + (1) := by (rw [ex46]; exact (i_add rfl (show (1 : Int32).toInt = 1 from rfl) (by omega) (by omega)))) | skip
      exact ih x46 Z I43 L w_I43 bd_Z q_I43 cp_Z   (by omega)  (by omega)
set_option maxHeartbeats 4000000 in
set_option maxRecDepth 100000 in
theorem l9_X12_stairs_L185 {B : Nat × Nat} {T : Nat} {Z0 : jZ} {I0 : jI} {Q : Int32 → jZ → jI → jL → Prop} (w0 : WD Z0 I0) (v0 : Nat) (kv0 : jk Z0 v0 12) (v1 : Int32) (v3 : Int32) (hQ : ∀ (r : Int32) (Z' : jZ) (I' : jI) (L' : jL), WD Z' I' → BUD B Z' T → FR Ws_X12_stairs Z0 I0 Z' I' → CP Z0 Z' → (I' v0 19).toInt = 0 → Q r Z' I' L') {K131 : Nat → Int32 → Int32 → jZ → jI → jL → Prop} {N131 : Int} (hK131 : ∀ (v3 : Int32) (Z : jZ) (I : jI) (L : jL), WD Z I → BUD B Z T → FR Ws_X12_stairs Z0 I0 Z I → CP Z0 Z →   (0 ≤ v3.toInt ∧ v3.toInt ≤ 24 ∧ v1.toInt ≤ 24 ∧ (I v0 19).toInt = 0) → 24 - v3.toInt < N131 → K131 v0 v1 v3 Z I L) : ∀ (n : Nat) (v4 : Int32) (Z : jZ) (I : jI) (L : jL), WD Z I → BUD B Z T → FR Ws_X12_stairs Z0 I0 Z I → CP Z0 Z →   (0 ≤ v3.toInt ∧ v3.toInt ≤ 23 ∧ v1.toInt ≤ 24 ∧ 0 ≤ v4.toInt ∧ v4.toInt ≤ 8 ∧ (I v0 19).toInt = 0) → 24 - v3.toInt ≤ N131 → 8 - v4.toInt < (n : Int) → f_X12_stairs_L185 B K131 Q n v0 v1 v3 v4 Z I L := by
  intro n
  induction n with
  | zero =>
    intro v4 Z I L w_I bd_Z q_I cp_Z   li hm131 me
    exfalso
    omega
  | succ n ih =>
    intro v4 Z I L w_I bd_Z q_I cp_Z   li hm131 me
    unfold f_X12_stairs_L185
    have rv4 := i_rng v4
    have rv1 := i_rng v1
    have rv3 := i_rng v3
    have kv0_0 := kv0
    have kv0 := (q_I.1 _ _ kv0).1
    have t47 : 0 ≤ (I v0 19).toInt ∧ (I v0 19).toInt ≤ 80 := w_I.fld 12 19 kv0 (by decide)
    have xq_I := q_I.1
    refine ⟨fun c48 => ?_, fun c48 => ?_⟩
    · skip
      first | (have t49 : (8) ≤ v4.toInt := (i_le (show (8 : Int32).toInt = 8 from rfl) rfl).mp c48) | (have t49 : (8 : Int32).toInt ≤ v4.toInt := (i_le rfl rfl).mp c48) | skip
      intro b50 eb50
      obtain ⟨x51, ex51, kb50, lb50⟩ := sh_f w_I.1 kv0 (j := 4) (k := 16) (m := 24) rfl
      cases eb50.symm.trans ex51
      intro b52 eb52
      obtain ⟨x53, ex53, kb52, lb52⟩ := sh_f w_I.1 kv0 (j := 28) (k := 14) (m := 120) rfl
      cases eb52.symm.trans ex53
      have o54 : vp_in (((5 : Int32) * v3) + (4 : Int32)) 120 := vi_of (i_add (i_mul (show (5 : Int32).toInt = 5 from rfl) rfl (by omega) (by omega)) (show (4 : Int32).toInt = 4 from rfl) (by omega) (by omega)) (by omega) (by omega)
      refine ⟨o54, ?_⟩
      have t56 := i_nat (x := (((5 : Int32) * v3) + (4 : Int32))) (i_add (i_mul (show (5 : Int32).toInt = 5 from rfl) rfl (by omega) (by omega)) (show (4 : Int32).toInt = 4 from rfl) (by omega) (by omega)) (by omega)
      have h55 : ((((5 : Int32) * v3) + (4 : Int32)).toNatClampNeg % 5 = 0 → 0 ≤ (I b52 (((5 : Int32) * v3) + (4 : Int32)).toNatClampNeg).toInt ∧ (I b52 (((5 : Int32) * v3) + (4 : Int32)).toNatClampNeg).toInt ≤ 30) ∧ ((((5 : Int32) * v3) + (4 : Int32)).toNatClampNeg % 5 = 1 → 0 ≤ (I b52 (((5 : Int32) * v3) + (4 : Int32)).toNatClampNeg).toInt ∧ (I b52 (((5 : Int32) * v3) + (4 : Int32)).toNatClampNeg).toInt ≤ 9) ∧ ((((5 : Int32) * v3) + (4 : Int32)).toNatClampNeg % 5 = 2 → 0 ≤ (I b52 (((5 : Int32) * v3) + (4 : Int32)).toNatClampNeg).toInt ∧ (I b52 (((5 : Int32) * v3) + (4 : Int32)).toNatClampNeg).toInt ≤ 20) := w_I.arr 12 28 kv0 eb52 kb52 rfl rfl _
      first | (have h551 := h55.1 (by omega)) | (have h551 := h55.2.1 (by omega)) | (have h551 := h55.2.2 (by omega)) | skip
      clear h55
      refine ⟨fun c57 => ?_, fun c57 => ?_⟩
      · skip
        first | (have t58 : ¬ ((I b52 (((5 : Int32) * v3) + (4 : Int32)).toNatClampNeg).toInt = (1)) := (not_congr (i_eq rfl (show (1 : Int32).toInt = 1 from rfl))).mp c57) | (have t58 : ¬ ((I b52 (((5 : Int32) * v3) + (4 : Int32)).toNatClampNeg).toInt = (1 : Int32).toInt) := (not_congr (i_eq rfl rfl)).mp c57) | skip
        unfold f_X12_stairs_b256
        have o59 : vp_in v3 (jlen Z b50) := vi_of rfl (by omega) (by omega)
        refine ⟨o59, ?_⟩
        intro I60 eI60
        have t61 : (0 : Int32).toInt = 0 := rfl
        have w_I60 : WD Z I60 := by rw [eI60]; exact WD_putA w_I 12 4 kv0 eb50 kb50 rfl rfl (by decide) trivial
        have f_I60 : FR [(12, 4)] Z I Z I60 := by rw [eI60]; exact FR_upA w_I.2.1 kv0 eb50 kb50 rfl rfl List.mem_cons_self
        have q_I60 : FR Ws_X12_stairs Z0 I0 Z I60 := q_I.trans w0.1 w0.2.1 (f_I60.mono (by decide))
        have u62 : (I60 v0 19).toInt = (I v0 19).toInt := by rw [f_I60.2.2.1 v0 12 19 kv0 (by decide) (by decide)]
        intro x63 ex63
        have rx63 := i_rng x63
        first | (have tx63 : x63.toInt = v3.toInt + (1) := by (rw [ex63]; exact (i_add rfl (show (1 : Int32).toInt = 1 from rfl) (by omega) (by omega)))) | skip
        exact hK131 x63 Z I60 L w_I60 bd_Z q_I60 cp_Z   (by omega)  (by omega)
      · skip
        first | (have t64 : (I b52 (((5 : Int32) * v3) + (4 : Int32)).toNatClampNeg).toInt = (1) := (i_eq rfl (show (1 : Int32).toInt = 1 from rfl)).mp c57) | (have t64 : (I b52 (((5 : Int32) * v3) + (4 : Int32)).toNatClampNeg).toInt = (1 : Int32).toInt := (i_eq rfl rfl).mp c57) | skip
        unfold f_X12_stairs_b256
        have o65 : vp_in v3 (jlen Z b50) := vi_of rfl (by omega) (by omega)
        refine ⟨o65, ?_⟩
        intro I66 eI66
        have t67 : (1 : Int32).toInt = 1 := rfl
        have w_I66 : WD Z I66 := by rw [eI66]; exact WD_putA w_I 12 4 kv0 eb50 kb50 rfl rfl (by decide) trivial
        have f_I66 : FR [(12, 4)] Z I Z I66 := by rw [eI66]; exact FR_upA w_I.2.1 kv0 eb50 kb50 rfl rfl List.mem_cons_self
        have q_I66 : FR Ws_X12_stairs Z0 I0 Z I66 := q_I.trans w0.1 w0.2.1 (f_I66.mono (by decide))
        have u68 : (I66 v0 19).toInt = (I v0 19).toInt := by rw [f_I66.2.2.1 v0 12 19 kv0 (by decide) (by decide)]
        intro x69 ex69
        have rx69 := i_rng x69
        first | (have tx69 : x69.toInt = v3.toInt + (1) := by (rw [ex69]; exact (i_add rfl (show (1 : Int32).toInt = 1 from rfl) (by omega) (by omega)))) | skip
        exact hK131 x69 Z I66 L w_I66 bd_Z q_I66 cp_Z   (by omega)  (by omega)
    · skip
      first | (have t70 : ¬ ((8) ≤ v4.toInt) := (not_congr (i_le (show (8 : Int32).toInt = 8 from rfl) rfl)).mp c48) | (have t70 : ¬ ((8 : Int32).toInt ≤ v4.toInt) := (not_congr (i_le rfl rfl)).mp c48) | skip
      intro b71 eb71
      obtain ⟨x72, ex72, kb71, lb71⟩ := sh_f w_I.1 kv0 (j := 5) (k := 14) (m := 192) rfl
      cases eb71.symm.trans ex72
      intro b73 eb73
      obtain ⟨x74, ex74, kb73, lb73⟩ := sh_f w_I.1 kv0 (j := 28) (k := 14) (m := 120) rfl
      cases eb73.symm.trans ex74
      have o75 : vp_in (((5 : Int32) * v3) + (3 : Int32)) 120 := vi_of (i_add (i_mul (show (5 : Int32).toInt = 5 from rfl) rfl (by omega) (by omega)) (show (3 : Int32).toInt = 3 from rfl) (by omega) (by omega)) (by omega) (by omega)
      refine ⟨o75, ?_⟩
      have t77 := i_nat (x := (((5 : Int32) * v3) + (3 : Int32))) (i_add (i_mul (show (5 : Int32).toInt = 5 from rfl) rfl (by omega) (by omega)) (show (3 : Int32).toInt = 3 from rfl) (by omega) (by omega)) (by omega)
      have h76 : ((((5 : Int32) * v3) + (3 : Int32)).toNatClampNeg % 5 = 0 → 0 ≤ (I b73 (((5 : Int32) * v3) + (3 : Int32)).toNatClampNeg).toInt ∧ (I b73 (((5 : Int32) * v3) + (3 : Int32)).toNatClampNeg).toInt ≤ 30) ∧ ((((5 : Int32) * v3) + (3 : Int32)).toNatClampNeg % 5 = 1 → 0 ≤ (I b73 (((5 : Int32) * v3) + (3 : Int32)).toNatClampNeg).toInt ∧ (I b73 (((5 : Int32) * v3) + (3 : Int32)).toNatClampNeg).toInt ≤ 9) ∧ ((((5 : Int32) * v3) + (3 : Int32)).toNatClampNeg % 5 = 2 → 0 ≤ (I b73 (((5 : Int32) * v3) + (3 : Int32)).toNatClampNeg).toInt ∧ (I b73 (((5 : Int32) * v3) + (3 : Int32)).toNatClampNeg).toInt ≤ 20) := w_I.arr 12 28 kv0 eb73 kb73 rfl rfl _
      first | (have h761 := h76.1 (by omega)) | (have h761 := h76.2.1 (by omega)) | (have h761 := h76.2.2 (by omega)) | skip
      clear h76
      refine ⟨fun c78 => ?_, fun c78 => ?_⟩
      · skip
        first | (have t79 : ¬ (v4.toInt = (I b73 (((5 : Int32) * v3) + (3 : Int32)).toNatClampNeg).toInt) := (not_congr (i_eq rfl rfl)).mp c78) | (have t79 : ¬ (v4.toInt = (I b73 (((5 : Int32) * v3) + (3 : Int32)).toNatClampNeg).toInt) := (not_congr (i_eq rfl rfl)).mp c78) | skip
        unfold f_X12_stairs_b225
        have o80 : vp_in (((8 : Int32) * v3) + v4) (jlen Z b71) := vi_of (i_add (i_mul (show (8 : Int32).toInt = 8 from rfl) rfl (by omega) (by omega)) rfl (by omega) (by omega)) (by omega) (by omega)
        refine ⟨o80, ?_⟩
        intro I81 eI81
        have t82 : (0 : Int32).toInt = 0 := rfl
        have w_I81 : WD Z I81 := by rw [eI81]; exact WD_putA w_I 12 5 kv0 eb71 kb71 rfl rfl (by decide) trivial
        have f_I81 : FR [(12, 5)] Z I Z I81 := by rw [eI81]; exact FR_upA w_I.2.1 kv0 eb71 kb71 rfl rfl List.mem_cons_self
        have q_I81 : FR Ws_X12_stairs Z0 I0 Z I81 := q_I.trans w0.1 w0.2.1 (f_I81.mono (by decide))
        have u83 : (I81 v0 19).toInt = (I v0 19).toInt := by rw [f_I81.2.2.1 v0 12 19 kv0 (by decide) (by decide)]
        intro x84 ex84
        have rx84 := i_rng x84
        first | (have tx84 : x84.toInt = v4.toInt + (1) := by (rw [ex84]; exact (i_add rfl (show (1 : Int32).toInt = 1 from rfl) (by omega) (by omega)))) | skip
        exact ih x84 Z I81 L w_I81 bd_Z q_I81 cp_Z   (by omega) (by omega) (by omega)
      · skip
        first | (have t85 : v4.toInt = (I b73 (((5 : Int32) * v3) + (3 : Int32)).toNatClampNeg).toInt := (i_eq rfl rfl).mp c78) | (have t85 : v4.toInt = (I b73 (((5 : Int32) * v3) + (3 : Int32)).toNatClampNeg).toInt := (i_eq rfl rfl).mp c78) | skip
        unfold f_X12_stairs_b225
        have o86 : vp_in (((8 : Int32) * v3) + v4) (jlen Z b71) := vi_of (i_add (i_mul (show (8 : Int32).toInt = 8 from rfl) rfl (by omega) (by omega)) rfl (by omega) (by omega)) (by omega) (by omega)
        refine ⟨o86, ?_⟩
        intro I87 eI87
        have t88 : (720 : Int32).toInt = 720 := rfl
        have w_I87 : WD Z I87 := by rw [eI87]; exact WD_putA w_I 12 5 kv0 eb71 kb71 rfl rfl (by decide) trivial
        have f_I87 : FR [(12, 5)] Z I Z I87 := by rw [eI87]; exact FR_upA w_I.2.1 kv0 eb71 kb71 rfl rfl List.mem_cons_self
        have q_I87 : FR Ws_X12_stairs Z0 I0 Z I87 := q_I.trans w0.1 w0.2.1 (f_I87.mono (by decide))
        have u89 : (I87 v0 19).toInt = (I v0 19).toInt := by rw [f_I87.2.2.1 v0 12 19 kv0 (by decide) (by decide)]
        intro x90 ex90
        have rx90 := i_rng x90
        first | (have tx90 : x90.toInt = v4.toInt + (1) := by (rw [ex90]; exact (i_add rfl (show (1 : Int32).toInt = 1 from rfl) (by omega) (by omega)))) | skip
        exact ih x90 Z I87 L w_I87 bd_Z q_I87 cp_Z   (by omega) (by omega) (by omega)
set_option maxHeartbeats 4000000 in
set_option maxRecDepth 100000 in
theorem l9_X12_stairs_L131 {B : Nat × Nat} {T : Nat} {Z0 : jZ} {I0 : jI} {Q : Int32 → jZ → jI → jL → Prop} (w0 : WD Z0 I0) (v0 : Nat) (kv0 : jk Z0 v0 12) (v1 : Int32) (hQ : ∀ (r : Int32) (Z' : jZ) (I' : jI) (L' : jL), WD Z' I' → BUD B Z' T → FR Ws_X12_stairs Z0 I0 Z' I' → CP Z0 Z' → (I' v0 19).toInt = 0 → Q r Z' I' L') : ∀ (n : Nat) (v3 : Int32) (Z : jZ) (I : jI) (L : jL), WD Z I → BUD B Z T → FR Ws_X12_stairs Z0 I0 Z I → CP Z0 Z →   (0 ≤ v3.toInt ∧ v3.toInt ≤ 24 ∧ v1.toInt ≤ 24 ∧ (I v0 19).toInt = 0) → 24 - v3.toInt < (n : Int) → f_X12_stairs_L131 B  Q n v0 v1 v3 Z I L := by
  intro n
  induction n with
  | zero =>
    intro v3 Z I L w_I bd_Z q_I cp_Z   li  me
    exfalso
    omega
  | succ n ih =>
    intro v3 Z I L w_I bd_Z q_I cp_Z   li  me
    unfold f_X12_stairs_L131
    have rv3 := i_rng v3
    have rv1 := i_rng v1
    have kv0_0 := kv0
    have kv0 := (q_I.1 _ _ kv0).1
    have t91 : 0 ≤ (I v0 19).toInt ∧ (I v0 19).toInt ≤ 80 := w_I.fld 12 19 kv0 (by decide)
    have xq_I := q_I.1
    refine ⟨fun c92 => ?_, fun c92 => ?_⟩
    · skip
      first | (have t93 : v1.toInt ≤ v3.toInt := (i_le rfl rfl).mp c92) | (have t93 : v1.toInt ≤ v3.toInt := (i_le rfl rfl).mp c92) | skip
      intro I94 eI94
      try (have t95 : ((I v0 7) + (1 : Int32)).toInt = ((I v0 7).toInt + (1)) := (i_add rfl (show (1 : Int32).toInt = 1 from rfl) (by omega) (by omega)))
      have w_I94 : WD Z I94 := by rw [eI94]; exact WD_putF w_I 12 7 kv0 (by decide) (by decide) trivial
      have f_I94 : FR [(12, 7)] Z I Z I94 := by rw [eI94]; exact FR_putF kv0 (by decide) List.mem_cons_self
      have q_I94 : FR Ws_X12_stairs Z0 I0 Z I94 := q_I.trans w0.1 w0.2.1 (f_I94.mono (by decide))
      have u96 : (I94 v0 19).toInt = (I v0 19).toInt := by rw [f_I94.2.2.1 v0 12 19 kv0 (by decide) (by decide)]
      first | (have u97 : (I94 v0 7).toInt = ((I v0 7).toInt + (1)) := by (rw [eI94, show jpI I v0 7 ((I v0 7) + (1 : Int32)) v0 7 = ((I v0 7) + (1 : Int32)) from jpI_at] <;> exact (i_add rfl (show (1 : Int32).toInt = 1 from rfl) (by omega) (by omega)))) | skip
      intro I98 eI98
      have t99 : (0 : Int32).toInt = 0 := rfl
      have w_I98 : WD Z I98 := by rw [eI98]; exact WD_putF w_I94 12 52 kv0 (by decide) (by decide) (by constructor <;> omega)
      have f_I98 : FR [(12, 52)] Z I94 Z I98 := by rw [eI98]; exact FR_putF kv0 (by decide) List.mem_cons_self
      have q_I98 : FR Ws_X12_stairs Z0 I0 Z I98 := q_I94.trans w0.1 w0.2.1 (f_I98.mono (by decide))
      have u100 : (I98 v0 19).toInt = (I94 v0 19).toInt := by rw [f_I98.2.2.1 v0 12 19 kv0 (by decide) (by decide)]
      have u101 : (I98 v0 7).toInt = (I94 v0 7).toInt := by rw [f_I98.2.2.1 v0 12 7 kv0 (by decide) (by decide)]
      first | (have u102 : (I98 v0 52).toInt = (0) := by (rw [eI98, show jpI I94 v0 52 (0 : Int32) v0 52 = (0 : Int32) from jpI_at] <;> exact (show (0 : Int32).toInt = 0 from rfl))) | skip
      have t103 : (0 : Int32).toInt = 0 := rfl
      exact ⟨(8 - (0 : Int32).toInt).toNat + 1, l9_X12_stairs_L280 w0 v0 kv0_0 v1  hQ   _ (0 : Int32) Z I98 L w_I98 bd_Z q_I98 cp_Z   (by omega)  (by omega)⟩
    · skip
      first | (have t104 : ¬ (v1.toInt ≤ v3.toInt) := (not_congr (i_le rfl rfl)).mp c92) | (have t104 : ¬ (v1.toInt ≤ v3.toInt) := (not_congr (i_le rfl rfl)).mp c92) | skip
      intro b105 eb105
      obtain ⟨x106, ex106, kb105, lb105⟩ := sh_f w_I.1 kv0 (j := 1) (k := 14) (m := 24) rfl
      cases eb105.symm.trans ex106
      intro b107 eb107
      obtain ⟨x108, ex108, kb107, lb107⟩ := sh_f w_I.1 kv0 (j := 28) (k := 14) (m := 120) rfl
      cases eb107.symm.trans ex108
      have o109 : vp_in ((5 : Int32) * v3) 120 := vi_of (i_mul (show (5 : Int32).toInt = 5 from rfl) rfl (by omega) (by omega)) (by omega) (by omega)
      refine ⟨o109, ?_⟩
      have t111 := i_nat (x := ((5 : Int32) * v3)) (i_mul (show (5 : Int32).toInt = 5 from rfl) rfl (by omega) (by omega)) (by omega)
      have h110 : (((5 : Int32) * v3).toNatClampNeg % 5 = 0 → 0 ≤ (I b107 ((5 : Int32) * v3).toNatClampNeg).toInt ∧ (I b107 ((5 : Int32) * v3).toNatClampNeg).toInt ≤ 30) ∧ (((5 : Int32) * v3).toNatClampNeg % 5 = 1 → 0 ≤ (I b107 ((5 : Int32) * v3).toNatClampNeg).toInt ∧ (I b107 ((5 : Int32) * v3).toNatClampNeg).toInt ≤ 9) ∧ (((5 : Int32) * v3).toNatClampNeg % 5 = 2 → 0 ≤ (I b107 ((5 : Int32) * v3).toNatClampNeg).toInt ∧ (I b107 ((5 : Int32) * v3).toNatClampNeg).toInt ≤ 20) := w_I.arr 12 28 kv0 eb107 kb107 rfl rfl _
      first | (have h1101 := h110.1 (by omega)) | (have h1101 := h110.2.1 (by omega)) | (have h1101 := h110.2.2 (by omega)) | skip
      clear h110
      have o112 : vp_in v3 24 := vi_of rfl (by omega) (by omega)
      refine ⟨o112, ?_⟩
      intro I113 eI113
      have w_I113 : WD Z I113 := by rw [eI113]; exact WD_putA w_I 12 1 kv0 eb105 kb105 rfl rfl (by decide) (by constructor <;> omega)
      have f_I113 : FR [(12, 1)] Z I Z I113 := by rw [eI113]; exact FR_upA w_I.2.1 kv0 eb105 kb105 rfl rfl List.mem_cons_self
      have q_I113 : FR Ws_X12_stairs Z0 I0 Z I113 := q_I.trans w0.1 w0.2.1 (f_I113.mono (by decide))
      have u114 : (I113 v0 19).toInt = (I v0 19).toInt := by rw [f_I113.2.2.1 v0 12 19 kv0 (by decide) (by decide)]
      intro b115 eb115
      obtain ⟨x116, ex116, kb115, lb115⟩ := sh_f w_I113.1 kv0 (j := 2) (k := 14) (m := 24) rfl
      cases eb115.symm.trans ex116
      intro b117 eb117
      obtain rfl : b107 = b117 := Option.some.inj (eb107.symm.trans eb117)
      have o118 : vp_in (((5 : Int32) * v3) + (1 : Int32)) 120 := vi_of (i_add (i_mul (show (5 : Int32).toInt = 5 from rfl) rfl (by omega) (by omega)) (show (1 : Int32).toInt = 1 from rfl) (by omega) (by omega)) (by omega) (by omega)
      refine ⟨o118, ?_⟩
      have t120 := i_nat (x := (((5 : Int32) * v3) + (1 : Int32))) (i_add (i_mul (show (5 : Int32).toInt = 5 from rfl) rfl (by omega) (by omega)) (show (1 : Int32).toInt = 1 from rfl) (by omega) (by omega)) (by omega)
      have h119 : ((((5 : Int32) * v3) + (1 : Int32)).toNatClampNeg % 5 = 0 → 0 ≤ (I113 b107 (((5 : Int32) * v3) + (1 : Int32)).toNatClampNeg).toInt ∧ (I113 b107 (((5 : Int32) * v3) + (1 : Int32)).toNatClampNeg).toInt ≤ 30) ∧ ((((5 : Int32) * v3) + (1 : Int32)).toNatClampNeg % 5 = 1 → 0 ≤ (I113 b107 (((5 : Int32) * v3) + (1 : Int32)).toNatClampNeg).toInt ∧ (I113 b107 (((5 : Int32) * v3) + (1 : Int32)).toNatClampNeg).toInt ≤ 9) ∧ ((((5 : Int32) * v3) + (1 : Int32)).toNatClampNeg % 5 = 2 → 0 ≤ (I113 b107 (((5 : Int32) * v3) + (1 : Int32)).toNatClampNeg).toInt ∧ (I113 b107 (((5 : Int32) * v3) + (1 : Int32)).toNatClampNeg).toInt ≤ 20) := w_I113.arr 12 28 kv0 eb107 kb107 rfl rfl _
      first | (have h1191 := h119.1 (by omega)) | (have h1191 := h119.2.1 (by omega)) | (have h1191 := h119.2.2 (by omega)) | skip
      clear h119
      have o121 : vp_in v3 24 := vi_of rfl (by omega) (by omega)
      refine ⟨o121, ?_⟩
      intro I122 eI122
      have w_I122 : WD Z I122 := by rw [eI122]; exact WD_putA w_I113 12 2 kv0 eb115 kb115 rfl rfl (by decide) (by constructor <;> omega)
      have f_I122 : FR [(12, 2)] Z I113 Z I122 := by rw [eI122]; exact FR_upA w_I113.2.1 kv0 eb115 kb115 rfl rfl List.mem_cons_self
      have q_I122 : FR Ws_X12_stairs Z0 I0 Z I122 := q_I113.trans w0.1 w0.2.1 (f_I122.mono (by decide))
      have u123 : (I122 v0 19).toInt = (I113 v0 19).toInt := by rw [f_I122.2.2.1 v0 12 19 kv0 (by decide) (by decide)]
      intro b124 eb124
      obtain ⟨x125, ex125, kb124, lb124⟩ := sh_f w_I122.1 kv0 (j := 3) (k := 14) (m := 24) rfl
      cases eb124.symm.trans ex125
      intro b126 eb126
      obtain rfl : b107 = b126 := Option.some.inj (eb107.symm.trans eb126)
      have o127 : vp_in (((5 : Int32) * v3) + (2 : Int32)) 120 := vi_of (i_add (i_mul (show (5 : Int32).toInt = 5 from rfl) rfl (by omega) (by omega)) (show (2 : Int32).toInt = 2 from rfl) (by omega) (by omega)) (by omega) (by omega)
      refine ⟨o127, ?_⟩
      have t129 := i_nat (x := (((5 : Int32) * v3) + (2 : Int32))) (i_add (i_mul (show (5 : Int32).toInt = 5 from rfl) rfl (by omega) (by omega)) (show (2 : Int32).toInt = 2 from rfl) (by omega) (by omega)) (by omega)
      have h128 : ((((5 : Int32) * v3) + (2 : Int32)).toNatClampNeg % 5 = 0 → 0 ≤ (I122 b107 (((5 : Int32) * v3) + (2 : Int32)).toNatClampNeg).toInt ∧ (I122 b107 (((5 : Int32) * v3) + (2 : Int32)).toNatClampNeg).toInt ≤ 30) ∧ ((((5 : Int32) * v3) + (2 : Int32)).toNatClampNeg % 5 = 1 → 0 ≤ (I122 b107 (((5 : Int32) * v3) + (2 : Int32)).toNatClampNeg).toInt ∧ (I122 b107 (((5 : Int32) * v3) + (2 : Int32)).toNatClampNeg).toInt ≤ 9) ∧ ((((5 : Int32) * v3) + (2 : Int32)).toNatClampNeg % 5 = 2 → 0 ≤ (I122 b107 (((5 : Int32) * v3) + (2 : Int32)).toNatClampNeg).toInt ∧ (I122 b107 (((5 : Int32) * v3) + (2 : Int32)).toNatClampNeg).toInt ≤ 20) := w_I122.arr 12 28 kv0 eb107 kb107 rfl rfl _
      first | (have h1281 := h128.1 (by omega)) | (have h1281 := h128.2.1 (by omega)) | (have h1281 := h128.2.2 (by omega)) | skip
      clear h128
      have o130 : vp_in v3 24 := vi_of rfl (by omega) (by omega)
      refine ⟨o130, ?_⟩
      intro I131 eI131
      have w_I131 : WD Z I131 := by rw [eI131]; exact WD_putA w_I122 12 3 kv0 eb124 kb124 rfl rfl (by decide) (by constructor <;> omega)
      have f_I131 : FR [(12, 3)] Z I122 Z I131 := by rw [eI131]; exact FR_upA w_I122.2.1 kv0 eb124 kb124 rfl rfl List.mem_cons_self
      have q_I131 : FR Ws_X12_stairs Z0 I0 Z I131 := q_I122.trans w0.1 w0.2.1 (f_I131.mono (by decide))
      have u132 : (I131 v0 19).toInt = (I122 v0 19).toInt := by rw [f_I131.2.2.1 v0 12 19 kv0 (by decide) (by decide)]
      have t133 : (0 : Int32).toInt = 0 := rfl
      exact ⟨(8 - (0 : Int32).toInt).toNat + 1, l9_X12_stairs_L185 w0 v0 kv0_0 v1 v3  hQ ih  _ (0 : Int32) Z I131 L w_I131 bd_Z q_I131 cp_Z   (by omega) (by omega) (by omega)⟩
set_option maxHeartbeats 4000000 in
set_option maxRecDepth 100000 in
theorem l9_X12_stairs_L39 {B : Nat × Nat} {T : Nat} {Z0 : jZ} {I0 : jI} {Q : Int32 → jZ → jI → jL → Prop} (w0 : WD Z0 I0) (v0 : Nat) (kv0 : jk Z0 v0 12) (hQ : ∀ (r : Int32) (Z' : jZ) (I' : jI) (L' : jL), WD Z' I' → BUD B Z' T → FR Ws_X12_stairs Z0 I0 Z' I' → CP Z0 Z' → (I' v0 19).toInt = 0 → Q r Z' I' L') (uR : Nat) : ∀ (n : Nat) (v1 : Int32) (v2 : Int32) (Z : jZ) (I : jI) (L : jL), WD Z I → BUD B Z T → FR Ws_X12_stairs Z0 I0 Z I → CP Z0 Z →  jr Z v0 23 = some uR → jk Z uR 13 → (0 ≤ (I v0 26).toInt ∧ (I v0 26).toInt ≤ (I v0 24).toInt ∧ (I v0 26).toInt ≤ (I v0 25).toInt ∧ (I v0 24).toInt ≤ (jlen Z uR : Int) ∧ jlen Z uR ≤ 80 ∧ 0 ≤ v1.toInt ∧ v1.toInt ≤ 24 ∧ (I v0 19).toInt = 0) → (if (I v0 27).toInt = -1 then 2 * (25 - v1.toInt) + 1 else 0) < (n : Int) → f_X12_stairs_L39 B  Q n v0 v1 v2 Z I L := by
  intro n
  induction n with
  | zero =>
    intro v1 v2 Z I L w_I bd_Z q_I cp_Z  huR kuR li  me
    exfalso
    omega
  | succ n ih =>
    intro v1 v2 Z I L w_I bd_Z q_I cp_Z  huR kuR li  me
    unfold f_X12_stairs_L39
    have rv1 := i_rng v1
    have rv2 := i_rng v2
    have kv0_0 := kv0
    have kv0 := (q_I.1 _ _ kv0).1
    have t134 : 0 ≤ (I v0 19).toInt ∧ (I v0 19).toInt ≤ 80 := w_I.fld 12 19 kv0 (by decide)
    have xq_I := q_I.1
    refine ⟨fun c135 => ?_, fun c135 => ?_⟩
    · skip
      first | (have t136 : v2.toInt = (0) := (i_eq rfl (show (0 : Int32).toInt = 0 from rfl)).mp c135) | (have t136 : v2.toInt = (0 : Int32).toInt := (i_eq rfl rfl).mp c135) | skip
      unfold f_X12_stairs_b83
      refine ⟨fun c137 => ?_, fun c137 => ?_⟩
      · skip
        first | (have t138 : (I v0 24).toInt ≤ (I v0 26).toInt := (i_le rfl rfl).mp c137) | (have t138 : (I v0 24).toInt ≤ (I v0 26).toInt := (i_le rfl rfl).mp c137) | skip
        unfold f_X12_stairs_b102
        refine s_X12_fine w_I v0 kv0   (fun r139 p140 => ?_)
        have rr139 := i_rng r139
        refine ⟨fun c141 => ?_, fun c141 => ?_⟩
        · skip
          first | (have t142 : ¬ (r139.toInt = (0)) := (not_congr (i_eq rfl (show (0 : Int32).toInt = 0 from rfl))).mp c141) | (have t142 : ¬ (r139.toInt = (0 : Int32).toInt) := (not_congr (i_eq rfl rfl)).mp c141) | skip
          refine ⟨fun c143 => ?_, fun c143 => ?_⟩
          · skip
            first | (have t144 : (2) ≤ v1.toInt := (i_le (show (2 : Int32).toInt = 2 from rfl) rfl).mp c143) | (have t144 : (2 : Int32).toInt ≤ v1.toInt := (i_le rfl rfl).mp c143) | skip
            intro I145 eI145
            have w_I145 : WD Z I145 := by rw [eI145]; exact WD_putF w_I 12 0 kv0 (by decide) (by decide) (by constructor <;> omega)
            have f_I145 : FR [(12, 0)] Z I Z I145 := by rw [eI145]; exact FR_putF kv0 (by decide) List.mem_cons_self
            have q_I145 : FR Ws_X12_stairs Z0 I0 Z I145 := q_I.trans w0.1 w0.2.1 (f_I145.mono (by decide))
            have u146 : (I145 v0 19).toInt = (I v0 19).toInt := by rw [f_I145.2.2.1 v0 12 19 kv0 (by decide) (by decide)]
            have u147 : (I145 v0 24).toInt = (I v0 24).toInt := by rw [f_I145.2.2.1 v0 12 24 kv0 (by decide) (by decide)]
            have u148 : (I145 v0 25).toInt = (I v0 25).toInt := by rw [f_I145.2.2.1 v0 12 25 kv0 (by decide) (by decide)]
            have u149 : (I145 v0 26).toInt = (I v0 26).toInt := by rw [f_I145.2.2.1 v0 12 26 kv0 (by decide) (by decide)]
            have u150 : (I145 v0 27).toInt = (I v0 27).toInt := by rw [f_I145.2.2.1 v0 12 27 kv0 (by decide) (by decide)]
            first | (have u151 : (I145 v0 0).toInt = v1.toInt := by (rw [eI145, show jpI I v0 0 v1 v0 0 = v1 from jpI_at] <;> exact rfl)) | skip
            have t152 : (0 : Int32).toInt = 0 := rfl
            exact ⟨(24 - (0 : Int32).toInt).toNat + 1, l9_X12_stairs_L131 w0 v0 kv0_0 v1  hQ   _ (0 : Int32) Z I145 L w_I145 bd_Z q_I145 cp_Z   (by omega)  (by omega)⟩
          · skip
            first | (have t153 : ¬ ((2) ≤ v1.toInt) := (not_congr (i_le (show (2 : Int32).toInt = 2 from rfl) rfl)).mp c143) | (have t153 : ¬ ((2 : Int32).toInt ≤ v1.toInt) := (not_congr (i_le rfl rfl)).mp c143) | skip
            have t154 : (-100 : Int32).toInt = -100 := rfl
            exact hQ (-100 : Int32) Z I L w_I bd_Z q_I cp_Z (by omega)
        · skip
          first | (have t155 : r139.toInt = (0) := (i_eq rfl (show (0 : Int32).toInt = 0 from rfl)).mp c141) | (have t155 : r139.toInt = (0 : Int32).toInt := (i_eq rfl rfl).mp c141) | skip
          try (have t156 : ((-1 : Int32) - (I v0 27)).toInt = ((-1) - (I v0 27).toInt) := (i_sub (show (-1 : Int32).toInt = -1 from rfl) rfl (by omega) (by omega)))
          exact hQ ((-1 : Int32) - (I v0 27)) Z I L w_I bd_Z q_I cp_Z (by omega)
      · skip
        first | (have t157 : ¬ ((I v0 24).toInt ≤ (I v0 26).toInt) := (not_congr (i_le rfl rfl)).mp c137) | (have t157 : ¬ ((I v0 24).toInt ≤ (I v0 26).toInt) := (not_congr (i_le rfl rfl)).mp c137) | skip
        refine s_X12_fault w_I v0 (I v0 26) kv0   (fun  I159 L160 w_I159 f_I159 p158 => ?_)
        have q_I159 : FR Ws_X12_stairs Z0 I0 Z I159 := q_I.trans w0.1 w0.2.1 (f_I159.mono (by decide))
        have u161 : (I159 v0 19).toInt = (I v0 19).toInt := by rw [f_I159.2.2.1 v0 12 19 kv0 (by decide) (by decide)]
        have u162 : (I159 v0 24).toInt = (I v0 24).toInt := by rw [f_I159.2.2.1 v0 12 24 kv0 (by decide) (by decide)]
        have u163 : (I159 v0 25).toInt = (I v0 25).toInt := by rw [f_I159.2.2.1 v0 12 25 kv0 (by decide) (by decide)]
        have u164 : (I159 v0 26).toInt = (I v0 26).toInt := by rw [f_I159.2.2.1 v0 12 26 kv0 (by decide) (by decide)]
        unfold f_X12_stairs_b102
        refine s_X12_fine w_I159 v0 kv0   (fun r165 p166 => ?_)
        have rr165 := i_rng r165
        refine ⟨fun c167 => ?_, fun c167 => ?_⟩
        · skip
          first | (have t168 : ¬ (r165.toInt = (0)) := (not_congr (i_eq rfl (show (0 : Int32).toInt = 0 from rfl))).mp c167) | (have t168 : ¬ (r165.toInt = (0 : Int32).toInt) := (not_congr (i_eq rfl rfl)).mp c167) | skip
          refine ⟨fun c169 => ?_, fun c169 => ?_⟩
          · skip
            first | (have t170 : (2) ≤ v1.toInt := (i_le (show (2 : Int32).toInt = 2 from rfl) rfl).mp c169) | (have t170 : (2 : Int32).toInt ≤ v1.toInt := (i_le rfl rfl).mp c169) | skip
            intro I171 eI171
            have w_I171 : WD Z I171 := by rw [eI171]; exact WD_putF w_I159 12 0 kv0 (by decide) (by decide) (by constructor <;> omega)
            have f_I171 : FR [(12, 0)] Z I159 Z I171 := by rw [eI171]; exact FR_putF kv0 (by decide) List.mem_cons_self
            have q_I171 : FR Ws_X12_stairs Z0 I0 Z I171 := q_I159.trans w0.1 w0.2.1 (f_I171.mono (by decide))
            have u172 : (I171 v0 19).toInt = (I159 v0 19).toInt := by rw [f_I171.2.2.1 v0 12 19 kv0 (by decide) (by decide)]
            have u173 : (I171 v0 24).toInt = (I159 v0 24).toInt := by rw [f_I171.2.2.1 v0 12 24 kv0 (by decide) (by decide)]
            have u174 : (I171 v0 25).toInt = (I159 v0 25).toInt := by rw [f_I171.2.2.1 v0 12 25 kv0 (by decide) (by decide)]
            have u175 : (I171 v0 26).toInt = (I159 v0 26).toInt := by rw [f_I171.2.2.1 v0 12 26 kv0 (by decide) (by decide)]
            have u176 : (I171 v0 27).toInt = (I159 v0 27).toInt := by rw [f_I171.2.2.1 v0 12 27 kv0 (by decide) (by decide)]
            first | (have u177 : (I171 v0 0).toInt = v1.toInt := by (rw [eI171, show jpI I159 v0 0 v1 v0 0 = v1 from jpI_at] <;> exact rfl)) | skip
            have t178 : (0 : Int32).toInt = 0 := rfl
            exact ⟨(24 - (0 : Int32).toInt).toNat + 1, l9_X12_stairs_L131 w0 v0 kv0_0 v1  hQ   _ (0 : Int32) Z I171 L160 w_I171 bd_Z q_I171 cp_Z   (by omega)  (by omega)⟩
          · skip
            first | (have t179 : ¬ ((2) ≤ v1.toInt) := (not_congr (i_le (show (2 : Int32).toInt = 2 from rfl) rfl)).mp c169) | (have t179 : ¬ ((2 : Int32).toInt ≤ v1.toInt) := (not_congr (i_le rfl rfl)).mp c169) | skip
            have t180 : (-100 : Int32).toInt = -100 := rfl
            exact hQ (-100 : Int32) Z I159 L160 w_I159 bd_Z q_I159 cp_Z (by omega)
        · skip
          first | (have t181 : r165.toInt = (0) := (i_eq rfl (show (0 : Int32).toInt = 0 from rfl)).mp c167) | (have t181 : r165.toInt = (0 : Int32).toInt := (i_eq rfl rfl).mp c167) | skip
          try (have t182 : ((-1 : Int32) - (I159 v0 27)).toInt = ((-1) - (I159 v0 27).toInt) := (i_sub (show (-1 : Int32).toInt = -1 from rfl) rfl (by omega) (by omega)))
          exact hQ ((-1 : Int32) - (I159 v0 27)) Z I159 L160 w_I159 bd_Z q_I159 cp_Z (by omega)
    · skip
      first | (have t183 : ¬ (v2.toInt = (0)) := (not_congr (i_eq rfl (show (0 : Int32).toInt = 0 from rfl))).mp c135) | (have t183 : ¬ (v2.toInt = (0 : Int32).toInt) := (not_congr (i_eq rfl rfl)).mp c135) | skip
      refine s_X12_fine w_I v0 kv0   (fun r184 p185 => ?_)
      have rr184 := i_rng r184
      refine ⟨fun c186 => ?_, fun c186 => ?_⟩
      · skip
        first | (have t187 : r184.toInt = (0) := (i_eq rfl (show (0 : Int32).toInt = 0 from rfl)).mp c186) | (have t187 : r184.toInt = (0 : Int32).toInt := (i_eq rfl rfl).mp c186) | skip
        unfold f_X12_stairs_b83
        refine ⟨fun c188 => ?_, fun c188 => ?_⟩
        · skip
          first | (have t189 : (I v0 24).toInt ≤ (I v0 26).toInt := (i_le rfl rfl).mp c188) | (have t189 : (I v0 24).toInt ≤ (I v0 26).toInt := (i_le rfl rfl).mp c188) | skip
          unfold f_X12_stairs_b102
          refine s_X12_fine w_I v0 kv0   (fun r190 p191 => ?_)
          have rr190 := i_rng r190
          refine ⟨fun c192 => ?_, fun c192 => ?_⟩
          · skip
            first | (have t193 : ¬ (r190.toInt = (0)) := (not_congr (i_eq rfl (show (0 : Int32).toInt = 0 from rfl))).mp c192) | (have t193 : ¬ (r190.toInt = (0 : Int32).toInt) := (not_congr (i_eq rfl rfl)).mp c192) | skip
            refine ⟨fun c194 => ?_, fun c194 => ?_⟩
            · skip
              first | (have t195 : (2) ≤ v1.toInt := (i_le (show (2 : Int32).toInt = 2 from rfl) rfl).mp c194) | (have t195 : (2 : Int32).toInt ≤ v1.toInt := (i_le rfl rfl).mp c194) | skip
              intro I196 eI196
              have w_I196 : WD Z I196 := by rw [eI196]; exact WD_putF w_I 12 0 kv0 (by decide) (by decide) (by constructor <;> omega)
              have f_I196 : FR [(12, 0)] Z I Z I196 := by rw [eI196]; exact FR_putF kv0 (by decide) List.mem_cons_self
              have q_I196 : FR Ws_X12_stairs Z0 I0 Z I196 := q_I.trans w0.1 w0.2.1 (f_I196.mono (by decide))
              have u197 : (I196 v0 19).toInt = (I v0 19).toInt := by rw [f_I196.2.2.1 v0 12 19 kv0 (by decide) (by decide)]
              have u198 : (I196 v0 24).toInt = (I v0 24).toInt := by rw [f_I196.2.2.1 v0 12 24 kv0 (by decide) (by decide)]
              have u199 : (I196 v0 25).toInt = (I v0 25).toInt := by rw [f_I196.2.2.1 v0 12 25 kv0 (by decide) (by decide)]
              have u200 : (I196 v0 26).toInt = (I v0 26).toInt := by rw [f_I196.2.2.1 v0 12 26 kv0 (by decide) (by decide)]
              have u201 : (I196 v0 27).toInt = (I v0 27).toInt := by rw [f_I196.2.2.1 v0 12 27 kv0 (by decide) (by decide)]
              first | (have u202 : (I196 v0 0).toInt = v1.toInt := by (rw [eI196, show jpI I v0 0 v1 v0 0 = v1 from jpI_at] <;> exact rfl)) | skip
              have t203 : (0 : Int32).toInt = 0 := rfl
              exact ⟨(24 - (0 : Int32).toInt).toNat + 1, l9_X12_stairs_L131 w0 v0 kv0_0 v1  hQ   _ (0 : Int32) Z I196 L w_I196 bd_Z q_I196 cp_Z   (by omega)  (by omega)⟩
            · skip
              first | (have t204 : ¬ ((2) ≤ v1.toInt) := (not_congr (i_le (show (2 : Int32).toInt = 2 from rfl) rfl)).mp c194) | (have t204 : ¬ ((2 : Int32).toInt ≤ v1.toInt) := (not_congr (i_le rfl rfl)).mp c194) | skip
              have t205 : (-100 : Int32).toInt = -100 := rfl
              exact hQ (-100 : Int32) Z I L w_I bd_Z q_I cp_Z (by omega)
          · skip
            first | (have t206 : r190.toInt = (0) := (i_eq rfl (show (0 : Int32).toInt = 0 from rfl)).mp c192) | (have t206 : r190.toInt = (0 : Int32).toInt := (i_eq rfl rfl).mp c192) | skip
            try (have t207 : ((-1 : Int32) - (I v0 27)).toInt = ((-1) - (I v0 27).toInt) := (i_sub (show (-1 : Int32).toInt = -1 from rfl) rfl (by omega) (by omega)))
            exact hQ ((-1 : Int32) - (I v0 27)) Z I L w_I bd_Z q_I cp_Z (by omega)
        · skip
          first | (have t208 : ¬ ((I v0 24).toInt ≤ (I v0 26).toInt) := (not_congr (i_le rfl rfl)).mp c188) | (have t208 : ¬ ((I v0 24).toInt ≤ (I v0 26).toInt) := (not_congr (i_le rfl rfl)).mp c188) | skip
          refine s_X12_fault w_I v0 (I v0 26) kv0   (fun  I210 L211 w_I210 f_I210 p209 => ?_)
          have q_I210 : FR Ws_X12_stairs Z0 I0 Z I210 := q_I.trans w0.1 w0.2.1 (f_I210.mono (by decide))
          have u212 : (I210 v0 19).toInt = (I v0 19).toInt := by rw [f_I210.2.2.1 v0 12 19 kv0 (by decide) (by decide)]
          have u213 : (I210 v0 24).toInt = (I v0 24).toInt := by rw [f_I210.2.2.1 v0 12 24 kv0 (by decide) (by decide)]
          have u214 : (I210 v0 25).toInt = (I v0 25).toInt := by rw [f_I210.2.2.1 v0 12 25 kv0 (by decide) (by decide)]
          have u215 : (I210 v0 26).toInt = (I v0 26).toInt := by rw [f_I210.2.2.1 v0 12 26 kv0 (by decide) (by decide)]
          unfold f_X12_stairs_b102
          refine s_X12_fine w_I210 v0 kv0   (fun r216 p217 => ?_)
          have rr216 := i_rng r216
          refine ⟨fun c218 => ?_, fun c218 => ?_⟩
          · skip
            first | (have t219 : ¬ (r216.toInt = (0)) := (not_congr (i_eq rfl (show (0 : Int32).toInt = 0 from rfl))).mp c218) | (have t219 : ¬ (r216.toInt = (0 : Int32).toInt) := (not_congr (i_eq rfl rfl)).mp c218) | skip
            refine ⟨fun c220 => ?_, fun c220 => ?_⟩
            · skip
              first | (have t221 : (2) ≤ v1.toInt := (i_le (show (2 : Int32).toInt = 2 from rfl) rfl).mp c220) | (have t221 : (2 : Int32).toInt ≤ v1.toInt := (i_le rfl rfl).mp c220) | skip
              intro I222 eI222
              have w_I222 : WD Z I222 := by rw [eI222]; exact WD_putF w_I210 12 0 kv0 (by decide) (by decide) (by constructor <;> omega)
              have f_I222 : FR [(12, 0)] Z I210 Z I222 := by rw [eI222]; exact FR_putF kv0 (by decide) List.mem_cons_self
              have q_I222 : FR Ws_X12_stairs Z0 I0 Z I222 := q_I210.trans w0.1 w0.2.1 (f_I222.mono (by decide))
              have u223 : (I222 v0 19).toInt = (I210 v0 19).toInt := by rw [f_I222.2.2.1 v0 12 19 kv0 (by decide) (by decide)]
              have u224 : (I222 v0 24).toInt = (I210 v0 24).toInt := by rw [f_I222.2.2.1 v0 12 24 kv0 (by decide) (by decide)]
              have u225 : (I222 v0 25).toInt = (I210 v0 25).toInt := by rw [f_I222.2.2.1 v0 12 25 kv0 (by decide) (by decide)]
              have u226 : (I222 v0 26).toInt = (I210 v0 26).toInt := by rw [f_I222.2.2.1 v0 12 26 kv0 (by decide) (by decide)]
              have u227 : (I222 v0 27).toInt = (I210 v0 27).toInt := by rw [f_I222.2.2.1 v0 12 27 kv0 (by decide) (by decide)]
              first | (have u228 : (I222 v0 0).toInt = v1.toInt := by (rw [eI222, show jpI I210 v0 0 v1 v0 0 = v1 from jpI_at] <;> exact rfl)) | skip
              have t229 : (0 : Int32).toInt = 0 := rfl
              exact ⟨(24 - (0 : Int32).toInt).toNat + 1, l9_X12_stairs_L131 w0 v0 kv0_0 v1  hQ   _ (0 : Int32) Z I222 L211 w_I222 bd_Z q_I222 cp_Z   (by omega)  (by omega)⟩
            · skip
              first | (have t230 : ¬ ((2) ≤ v1.toInt) := (not_congr (i_le (show (2 : Int32).toInt = 2 from rfl) rfl)).mp c220) | (have t230 : ¬ ((2 : Int32).toInt ≤ v1.toInt) := (not_congr (i_le rfl rfl)).mp c220) | skip
              have t231 : (-100 : Int32).toInt = -100 := rfl
              exact hQ (-100 : Int32) Z I210 L211 w_I210 bd_Z q_I210 cp_Z (by omega)
          · skip
            first | (have t232 : r216.toInt = (0) := (i_eq rfl (show (0 : Int32).toInt = 0 from rfl)).mp c218) | (have t232 : r216.toInt = (0 : Int32).toInt := (i_eq rfl rfl).mp c218) | skip
            try (have t233 : ((-1 : Int32) - (I210 v0 27)).toInt = ((-1) - (I210 v0 27).toInt) := (i_sub (show (-1 : Int32).toInt = -1 from rfl) rfl (by omega) (by omega)))
            exact hQ ((-1 : Int32) - (I210 v0 27)) Z I210 L211 w_I210 bd_Z q_I210 cp_Z (by omega)
      · skip
        first | (have t234 : ¬ (r184.toInt = (0)) := (not_congr (i_eq rfl (show (0 : Int32).toInt = 0 from rfl))).mp c186) | (have t234 : ¬ (r184.toInt = (0 : Int32).toInt) := (not_congr (i_eq rfl rfl)).mp c186) | skip
        refine ⟨fun c235 => ?_, fun c235 => ?_⟩
        · skip
          first | (have t236 : ¬ (v1.toInt = (24)) := (not_congr (i_eq rfl (show (24 : Int32).toInt = 24 from rfl))).mp c235) | (have t236 : ¬ (v1.toInt = (24 : Int32).toInt) := (not_congr (i_eq rfl rfl)).mp c235) | skip
          refine s_X12_readLine w_I v0 v1 kv0 uR huR kuR (by omega) (by omega) (fun r237 I239 L240 w_I239 f_I239 p238 => ?_)
          have q_I239 : FR Ws_X12_stairs Z0 I0 Z I239 := q_I.trans w0.1 w0.2.1 (f_I239.mono (by decide))
          have u241 : (I239 v0 19).toInt = (I v0 19).toInt := by rw [f_I239.2.2.1 v0 12 19 kv0 (by decide) (by decide)]
          have u242 : (I239 v0 24).toInt = (I v0 24).toInt := by rw [f_I239.2.2.1 v0 12 24 kv0 (by decide) (by decide)]
          have u243 : (I239 v0 25).toInt = (I v0 25).toInt := by rw [f_I239.2.2.1 v0 12 25 kv0 (by decide) (by decide)]
          have rr237 := i_rng r237
          have t244 : (59 : Int32).toInt = 59 := rfl
          refine s_X12_passes w_I239 v0 (59 : Int32) kv0 uR huR kuR (by omega) (by omega) (fun r245 I247 L248 w_I247 f_I247 p246 => ?_)
          have q_I247 : FR Ws_X12_stairs Z0 I0 Z I247 := q_I239.trans w0.1 w0.2.1 (f_I247.mono (by decide))
          have u249 : (I247 v0 19).toInt = (I239 v0 19).toInt := by rw [f_I247.2.2.1 v0 12 19 kv0 (by decide) (by decide)]
          have u250 : (I247 v0 24).toInt = (I239 v0 24).toInt := by rw [f_I247.2.2.1 v0 12 24 kv0 (by decide) (by decide)]
          have u251 : (I247 v0 25).toInt = (I239 v0 25).toInt := by rw [f_I247.2.2.1 v0 12 25 kv0 (by decide) (by decide)]
          have u252 : (I247 v0 27).toInt = (I239 v0 27).toInt := by rw [f_I247.2.2.1 v0 12 27 kv0 (by decide) (by decide)]
          have rr245 := i_rng r245
          exact ih r237 r245 Z I247 L248 w_I247 bd_Z q_I247 cp_Z  huR kuR (by omega)  (by omega)
        · skip
          first | (have t253 : v1.toInt = (24) := (i_eq rfl (show (24 : Int32).toInt = 24 from rfl)).mp c235) | (have t253 : v1.toInt = (24 : Int32).toInt := (i_eq rfl rfl).mp c235) | skip
          refine s_X12_fault w_I v0 (I v0 26) kv0   (fun  I255 L256 w_I255 f_I255 p254 => ?_)
          have q_I255 : FR Ws_X12_stairs Z0 I0 Z I255 := q_I.trans w0.1 w0.2.1 (f_I255.mono (by decide))
          have u257 : (I255 v0 19).toInt = (I v0 19).toInt := by rw [f_I255.2.2.1 v0 12 19 kv0 (by decide) (by decide)]
          have u258 : (I255 v0 24).toInt = (I v0 24).toInt := by rw [f_I255.2.2.1 v0 12 24 kv0 (by decide) (by decide)]
          have u259 : (I255 v0 25).toInt = (I v0 25).toInt := by rw [f_I255.2.2.1 v0 12 25 kv0 (by decide) (by decide)]
          have u260 : (I255 v0 26).toInt = (I v0 26).toInt := by rw [f_I255.2.2.1 v0 12 26 kv0 (by decide) (by decide)]
          unfold f_X12_stairs_b83
          refine ⟨fun c261 => ?_, fun c261 => ?_⟩
          · skip
            first | (have t262 : (I255 v0 24).toInt ≤ (I255 v0 26).toInt := (i_le rfl rfl).mp c261) | (have t262 : (I255 v0 24).toInt ≤ (I255 v0 26).toInt := (i_le rfl rfl).mp c261) | skip
            unfold f_X12_stairs_b102
            refine s_X12_fine w_I255 v0 kv0   (fun r263 p264 => ?_)
            have rr263 := i_rng r263
            refine ⟨fun c265 => ?_, fun c265 => ?_⟩
            · skip
              first | (have t266 : ¬ (r263.toInt = (0)) := (not_congr (i_eq rfl (show (0 : Int32).toInt = 0 from rfl))).mp c265) | (have t266 : ¬ (r263.toInt = (0 : Int32).toInt) := (not_congr (i_eq rfl rfl)).mp c265) | skip
              refine ⟨fun c267 => ?_, fun c267 => ?_⟩
              · skip
                first | (have t268 : (2) ≤ v1.toInt := (i_le (show (2 : Int32).toInt = 2 from rfl) rfl).mp c267) | (have t268 : (2 : Int32).toInt ≤ v1.toInt := (i_le rfl rfl).mp c267) | skip
                intro I269 eI269
                have w_I269 : WD Z I269 := by rw [eI269]; exact WD_putF w_I255 12 0 kv0 (by decide) (by decide) (by constructor <;> omega)
                have f_I269 : FR [(12, 0)] Z I255 Z I269 := by rw [eI269]; exact FR_putF kv0 (by decide) List.mem_cons_self
                have q_I269 : FR Ws_X12_stairs Z0 I0 Z I269 := q_I255.trans w0.1 w0.2.1 (f_I269.mono (by decide))
                have u270 : (I269 v0 19).toInt = (I255 v0 19).toInt := by rw [f_I269.2.2.1 v0 12 19 kv0 (by decide) (by decide)]
                have u271 : (I269 v0 24).toInt = (I255 v0 24).toInt := by rw [f_I269.2.2.1 v0 12 24 kv0 (by decide) (by decide)]
                have u272 : (I269 v0 25).toInt = (I255 v0 25).toInt := by rw [f_I269.2.2.1 v0 12 25 kv0 (by decide) (by decide)]
                have u273 : (I269 v0 26).toInt = (I255 v0 26).toInt := by rw [f_I269.2.2.1 v0 12 26 kv0 (by decide) (by decide)]
                have u274 : (I269 v0 27).toInt = (I255 v0 27).toInt := by rw [f_I269.2.2.1 v0 12 27 kv0 (by decide) (by decide)]
                first | (have u275 : (I269 v0 0).toInt = v1.toInt := by (rw [eI269, show jpI I255 v0 0 v1 v0 0 = v1 from jpI_at] <;> exact rfl)) | skip
                have t276 : (0 : Int32).toInt = 0 := rfl
                exact ⟨(24 - (0 : Int32).toInt).toNat + 1, l9_X12_stairs_L131 w0 v0 kv0_0 v1  hQ   _ (0 : Int32) Z I269 L256 w_I269 bd_Z q_I269 cp_Z   (by omega)  (by omega)⟩
              · skip
                first | (have t277 : ¬ ((2) ≤ v1.toInt) := (not_congr (i_le (show (2 : Int32).toInt = 2 from rfl) rfl)).mp c267) | (have t277 : ¬ ((2 : Int32).toInt ≤ v1.toInt) := (not_congr (i_le rfl rfl)).mp c267) | skip
                have t278 : (-100 : Int32).toInt = -100 := rfl
                exact hQ (-100 : Int32) Z I255 L256 w_I255 bd_Z q_I255 cp_Z (by omega)
            · skip
              first | (have t279 : r263.toInt = (0) := (i_eq rfl (show (0 : Int32).toInt = 0 from rfl)).mp c265) | (have t279 : r263.toInt = (0 : Int32).toInt := (i_eq rfl rfl).mp c265) | skip
              try (have t280 : ((-1 : Int32) - (I255 v0 27)).toInt = ((-1) - (I255 v0 27).toInt) := (i_sub (show (-1 : Int32).toInt = -1 from rfl) rfl (by omega) (by omega)))
              exact hQ ((-1 : Int32) - (I255 v0 27)) Z I255 L256 w_I255 bd_Z q_I255 cp_Z (by omega)
          · skip
            first | (have t281 : ¬ ((I255 v0 24).toInt ≤ (I255 v0 26).toInt) := (not_congr (i_le rfl rfl)).mp c261) | (have t281 : ¬ ((I255 v0 24).toInt ≤ (I255 v0 26).toInt) := (not_congr (i_le rfl rfl)).mp c261) | skip
            refine s_X12_fault w_I255 v0 (I255 v0 26) kv0   (fun  I283 L284 w_I283 f_I283 p282 => ?_)
            have q_I283 : FR Ws_X12_stairs Z0 I0 Z I283 := q_I255.trans w0.1 w0.2.1 (f_I283.mono (by decide))
            have u285 : (I283 v0 19).toInt = (I255 v0 19).toInt := by rw [f_I283.2.2.1 v0 12 19 kv0 (by decide) (by decide)]
            have u286 : (I283 v0 24).toInt = (I255 v0 24).toInt := by rw [f_I283.2.2.1 v0 12 24 kv0 (by decide) (by decide)]
            have u287 : (I283 v0 25).toInt = (I255 v0 25).toInt := by rw [f_I283.2.2.1 v0 12 25 kv0 (by decide) (by decide)]
            have u288 : (I283 v0 26).toInt = (I255 v0 26).toInt := by rw [f_I283.2.2.1 v0 12 26 kv0 (by decide) (by decide)]
            unfold f_X12_stairs_b102
            refine s_X12_fine w_I283 v0 kv0   (fun r289 p290 => ?_)
            have rr289 := i_rng r289
            refine ⟨fun c291 => ?_, fun c291 => ?_⟩
            · skip
              first | (have t292 : ¬ (r289.toInt = (0)) := (not_congr (i_eq rfl (show (0 : Int32).toInt = 0 from rfl))).mp c291) | (have t292 : ¬ (r289.toInt = (0 : Int32).toInt) := (not_congr (i_eq rfl rfl)).mp c291) | skip
              refine ⟨fun c293 => ?_, fun c293 => ?_⟩
              · skip
                first | (have t294 : (2) ≤ v1.toInt := (i_le (show (2 : Int32).toInt = 2 from rfl) rfl).mp c293) | (have t294 : (2 : Int32).toInt ≤ v1.toInt := (i_le rfl rfl).mp c293) | skip
                intro I295 eI295
                have w_I295 : WD Z I295 := by rw [eI295]; exact WD_putF w_I283 12 0 kv0 (by decide) (by decide) (by constructor <;> omega)
                have f_I295 : FR [(12, 0)] Z I283 Z I295 := by rw [eI295]; exact FR_putF kv0 (by decide) List.mem_cons_self
                have q_I295 : FR Ws_X12_stairs Z0 I0 Z I295 := q_I283.trans w0.1 w0.2.1 (f_I295.mono (by decide))
                have u296 : (I295 v0 19).toInt = (I283 v0 19).toInt := by rw [f_I295.2.2.1 v0 12 19 kv0 (by decide) (by decide)]
                have u297 : (I295 v0 24).toInt = (I283 v0 24).toInt := by rw [f_I295.2.2.1 v0 12 24 kv0 (by decide) (by decide)]
                have u298 : (I295 v0 25).toInt = (I283 v0 25).toInt := by rw [f_I295.2.2.1 v0 12 25 kv0 (by decide) (by decide)]
                have u299 : (I295 v0 26).toInt = (I283 v0 26).toInt := by rw [f_I295.2.2.1 v0 12 26 kv0 (by decide) (by decide)]
                have u300 : (I295 v0 27).toInt = (I283 v0 27).toInt := by rw [f_I295.2.2.1 v0 12 27 kv0 (by decide) (by decide)]
                first | (have u301 : (I295 v0 0).toInt = v1.toInt := by (rw [eI295, show jpI I283 v0 0 v1 v0 0 = v1 from jpI_at] <;> exact rfl)) | skip
                have t302 : (0 : Int32).toInt = 0 := rfl
                exact ⟨(24 - (0 : Int32).toInt).toNat + 1, l9_X12_stairs_L131 w0 v0 kv0_0 v1  hQ   _ (0 : Int32) Z I295 L284 w_I295 bd_Z q_I295 cp_Z   (by omega)  (by omega)⟩
              · skip
                first | (have t303 : ¬ ((2) ≤ v1.toInt) := (not_congr (i_le (show (2 : Int32).toInt = 2 from rfl) rfl)).mp c293) | (have t303 : ¬ ((2 : Int32).toInt ≤ v1.toInt) := (not_congr (i_le rfl rfl)).mp c293) | skip
                have t304 : (-100 : Int32).toInt = -100 := rfl
                exact hQ (-100 : Int32) Z I283 L284 w_I283 bd_Z q_I283 cp_Z (by omega)
            · skip
              first | (have t305 : r289.toInt = (0) := (i_eq rfl (show (0 : Int32).toInt = 0 from rfl)).mp c291) | (have t305 : r289.toInt = (0 : Int32).toInt := (i_eq rfl rfl).mp c291) | skip
              try (have t306 : ((-1 : Int32) - (I283 v0 27)).toInt = ((-1) - (I283 v0 27).toInt) := (i_sub (show (-1 : Int32).toInt = -1 from rfl) rfl (by omega) (by omega)))
              exact hQ ((-1 : Int32) - (I283 v0 27)) Z I283 L284 w_I283 bd_Z q_I283 cp_Z (by omega)
set_option maxHeartbeats 4000000 in
set_option maxRecDepth 100000 in
theorem s9_X12_stairs {B : Nat × Nat} {T : Nat} {Z : jZ} {I : jI} {L : jL} (w_I : WD Z I) (bd_Z : BUD B Z T) (v0 : Nat) (kv0 : jk Z v0 12) {Q : Int32 → jZ → jI → jL → Prop} (hQ : ∀ (r : Int32) (Z' : jZ) (I' : jI) (L' : jL), WD Z' I' → BUD B Z' T → FR Ws_X12_stairs Z I Z' I' → CP Z Z' → (I' v0 19).toInt = 0 → Q r Z' I' L') : f_X12_stairs B v0 Z I L Q := by
  unfold f_X12_stairs
  have q_I : FR Ws_X12_stairs Z I Z I := FR.rf
  have cp_Z : CP Z Z := CP.rf
  have t307 : 0 ≤ (I v0 19).toInt ∧ (I v0 19).toInt ≤ 80 := w_I.fld 12 19 kv0 (by decide)
  intro I308 eI308
  have t309 : (0 : Int32).toInt = 0 := rfl
  have w_I308 : WD Z I308 := by rw [eI308]; exact WD_putF w_I 12 22 kv0 (by decide) (by decide) trivial
  have f_I308 : FR [(12, 22)] Z I Z I308 := by rw [eI308]; exact FR_putF kv0 (by decide) List.mem_cons_self
  have q_I308 : FR Ws_X12_stairs Z I Z I308 := q_I.trans w_I.1 w_I.2.1 (f_I308.mono (by decide))
  have u310 : (I308 v0 19).toInt = (I v0 19).toInt := by rw [f_I308.2.2.1 v0 12 19 kv0 (by decide) (by decide)]
  first | (have u311 : (I308 v0 22).toInt = (0) := by (rw [eI308, show jpI I v0 22 (0 : Int32) v0 22 = (0 : Int32) from jpI_at] <;> exact (show (0 : Int32).toInt = 0 from rfl))) | skip
  intro b312 eb312
  obtain ⟨x313, ex313, kb312, lb312⟩ := sh_f w_I308.1 kv0 (j := 18) (k := 13) (m := 80) rfl
  cases eb312.symm.trans ex313
  have t315 : 0 ≤ (I308 v0 19).toInt ∧ (I308 v0 19).toInt ≤ 80 := w_I308.fld 12 19 kv0 (by decide)
  have t316 : (76 : Int32).toInt = 76 := rfl
  refine s_X12_begin w_I308 bd_Z v0 b312 (I308 v0 19) (76 : Int32) kv0 kb312 v0 12 18 kv0 eb312  (fun  Z320 I318 L319 w_I318 bd_Z320 f_I318 c_Z320 p317 => ?_)
  have q_I318 : FR Ws_X12_stairs Z I Z320 I318 := q_I308.trans w_I.1 w_I.2.1 (f_I318.mono (by decide))
  have cp_Z320 : CP Z Z320 := cp_Z.trans q_I308.1 c_Z320
  have x_Z320 := f_I318.1
  have k321 := (f_I318.1 _ _ kv0).1
  have k322 := (f_I318.1 _ _ kb312).1
  have l323 := (f_I318.1 _ _ kb312).2.trans lb312
  have k324 := (f_I318.1 _ _ kv0).1
  have e325 := (f_I318.2.1 v0 12 18 kv0 (by decide) (by decide)).trans eb312
  have u326 : (I318 v0 19).toInt = (I308 v0 19).toInt := by rw [f_I318.2.2.1 v0 12 19 kv0 (by decide) (by decide)]
  have u327 : (I318 v0 22).toInt = (I308 v0 22).toInt := by rw [f_I318.2.2.1 v0 12 22 kv0 (by decide) (by decide)]
  obtain ⟨p317_0, p317_1⟩ := p317
  have k328 := (f_I318.1 _ _ kb312).1
  have l329 := (f_I318.1 _ _ kb312).2
  have k330 := (f_I318.1 _ _ kv0).1
  have l331 := (f_I318.1 _ _ kb312).2.trans lb312
  intro I332 eI332
  have t333 : (0 : Int32).toInt = 0 := rfl
  have w_I332 : WD Z320 I332 := by rw [eI332]; exact WD_putF w_I318 12 19 k321 (by decide) (by decide) (by constructor <;> omega)
  have f_I332 : FR [(12, 19)] Z320 I318 Z320 I332 := by rw [eI332]; exact FR_putF k321 (by decide) List.mem_cons_self
  have q_I332 : FR Ws_X12_stairs Z I Z320 I332 := q_I318.trans w_I.1 w_I.2.1 (f_I332.mono (by decide))
  have u334 : (I332 v0 22).toInt = (I318 v0 22).toInt := by rw [f_I332.2.2.1 v0 12 22 k321 (by decide) (by decide)]
  have u335 : (I332 v0 24).toInt = (I318 v0 24).toInt := by rw [f_I332.2.2.1 v0 12 24 k330 (by decide) (by decide)]
  have u336 : (I332 v0 25).toInt = (I318 v0 25).toInt := by rw [f_I332.2.2.1 v0 12 25 k330 (by decide) (by decide)]
  have u337 : (I332 v0 26).toInt = (I318 v0 26).toInt := by rw [f_I332.2.2.1 v0 12 26 k330 (by decide) (by decide)]
  have u338 : (I332 v0 27).toInt = (I318 v0 27).toInt := by rw [f_I332.2.2.1 v0 12 27 k330 (by decide) (by decide)]
  first | (have u339 : (I332 v0 19).toInt = (0) := by (rw [eI332, show jpI I318 v0 19 (0 : Int32) v0 19 = (0 : Int32) from jpI_at] <;> exact (show (0 : Int32).toInt = 0 from rfl))) | skip
  refine ⟨fun c340 => ?_, fun c340 => ?_⟩
  · skip
    first | (have t341 : (I332 v0 24).toInt ≤ (0) := (i_le rfl (show (0 : Int32).toInt = 0 from rfl)).mp c340) | (have t341 : (I332 v0 24).toInt ≤ (0 : Int32).toInt := (i_le rfl rfl).mp c340) | skip
    unfold f_X12_stairs_b38
    have t342 : (0 : Int32).toInt = 0 := rfl
    have t343 : (0 : Int32).toInt = 0 := rfl
    exact ⟨((if (I332 v0 27).toInt = -1 then 2 * (25 - (0 : Int32).toInt) + 1 else 0)).toNat + 1, l9_X12_stairs_L39 w_I v0 kv0   hQ  b312 _ (0 : Int32) (0 : Int32) Z320 I332 L319 w_I332 bd_Z320 q_I332 cp_Z320  p317_0 k328 (by omega)  (by omega)⟩
  · skip
    first | (have t344 : ¬ ((I332 v0 24).toInt ≤ (0)) := (not_congr (i_le rfl (show (0 : Int32).toInt = 0 from rfl))).mp c340) | (have t344 : ¬ ((I332 v0 24).toInt ≤ (0 : Int32).toInt) := (not_congr (i_le rfl rfl)).mp c340) | skip
    unfold f_X12_stairs_b38
    have t345 : (0 : Int32).toInt = 0 := rfl
    have t346 : (1 : Int32).toInt = 1 := rfl
    exact ⟨((if (I332 v0 27).toInt = -1 then 2 * (25 - (0 : Int32).toInt) + 1 else 0)).toNat + 1, l9_X12_stairs_L39 w_I v0 kv0   hQ  b312 _ (0 : Int32) (1 : Int32) Z320 I332 L319 w_I332 bd_Z320 q_I332 cp_Z320  p317_0 k328 (by omega)  (by omega)⟩

set_option maxHeartbeats 4000000 in
set_option maxRecDepth 100000 in
theorem l9_X12_law_L85 {B : Nat × Nat} {T : Nat} {Z0 : jZ} {I0 : jI} {Q : Int32 → jZ → jI → jL → Prop} (w0 : WD Z0 I0) (v0 : Nat) (v1 : Int32) (kv0 : jk Z0 v0 12) (v2 : Int32) (hQ : ∀ (r : Int32) (Z' : jZ) (I' : jI) (L' : jL), WD Z' I' → BUD B Z' T → FR Ws_X12_law Z0 I0 Z' I' → CP Z0 Z' → (I' v0 19).toInt = 0 → Q r Z' I' L') : ∀ (n : Nat) (v3 : Int32) (Z : jZ) (I : jI) (L : jL), WD Z I → BUD B Z T → FR Ws_X12_law Z0 I0 Z I → CP Z0 Z →   (0 ≤ v3.toInt ∧ v3.toInt ≤ 40 ∧ v2.toInt ≤ 40 ∧ 0 ≤ v2.toInt ∧ 0 ≤ v1.toInt ∧ v1.toInt ≤ 1 ∧ (I v0 19).toInt = 0) → 40 - v3.toInt < (n : Int) → f_X12_law_L85 B  Q n v0 v1 v2 v3 Z I L := by
  intro n
  induction n with
  | zero =>
    intro v3 Z I L w_I bd_Z q_I cp_Z   li  me
    exfalso
    omega
  | succ n ih =>
    intro v3 Z I L w_I bd_Z q_I cp_Z   li  me
    unfold f_X12_law_L85
    have rv3 := i_rng v3
    have rv2 := i_rng v2
    have rv1 := i_rng v1
    have kv0_0 := kv0
    have kv0 := (q_I.1 _ _ kv0).1
    have t1 : 0 ≤ (I v0 19).toInt ∧ (I v0 19).toInt ≤ 80 := w_I.fld 12 19 kv0 (by decide)
    have xq_I := q_I.1
    refine ⟨fun c2 => ?_, fun c2 => ?_⟩
    · skip
      first | (have t3 : v2.toInt ≤ v3.toInt := (i_le rfl rfl).mp c2) | (have t3 : v2.toInt ≤ v3.toInt := (i_le rfl rfl).mp c2) | skip
      intro b4 eb4
      obtain ⟨x5, ex5, kb4, lb4⟩ := sh_f w_I.1 kv0 (j := 30) (k := 14) (m := 2) rfl
      cases eb4.symm.trans ex5
      have o6 : vp_in v1 2 := vi_of rfl (by omega) (by omega)
      refine ⟨o6, ?_⟩
      intro I7 eI7
      have w_I7 : WD Z I7 := by rw [eI7]; exact WD_putA w_I 12 30 kv0 eb4 kb4 rfl rfl (by decide) (by constructor <;> omega)
      have f_I7 : FR [(12, 30)] Z I Z I7 := by rw [eI7]; exact FR_upA w_I.2.1 kv0 eb4 kb4 rfl rfl List.mem_cons_self
      have q_I7 : FR Ws_X12_law Z0 I0 Z I7 := q_I.trans w0.1 w0.2.1 (f_I7.mono (by decide))
      have u8 : (I7 v0 19).toInt = (I v0 19).toInt := by rw [f_I7.2.2.1 v0 12 19 kv0 (by decide) (by decide)]
      have t9 : (0 : Int32).toInt = 0 := rfl
      exact hQ (0 : Int32) Z I7 L w_I7 bd_Z q_I7 cp_Z (by omega)
    · skip
      first | (have t10 : ¬ (v2.toInt ≤ v3.toInt) := (not_congr (i_le rfl rfl)).mp c2) | (have t10 : ¬ (v2.toInt ≤ v3.toInt) := (not_congr (i_le rfl rfl)).mp c2) | skip
      intro b11 eb11
      obtain ⟨x12, ex12, kb11, lb11⟩ := sh_f w_I.1 kv0 (j := 29) (k := 19) (m := 2) rfl
      cases eb11.symm.trans ex12
      have o13 : vp_in v1 2 := vi_of rfl (by omega) (by omega)
      refine ⟨o13, ?_⟩
      intro b14 eb14
      obtain ⟨x16, ex16, kb14, lb14⟩ := w_I.1.2.2.2 b11 kb11 _ (vp_lt (by rw [lb11]; exact o13))
      cases eb14.symm.trans ex16
      intro b17 eb17
      obtain ⟨x18, ex18, kb17, lb17⟩ := sh_f w_I.1 kv0 (j := 18) (k := 13) (m := 80) rfl
      cases eb17.symm.trans ex18
      have o19 : vp_in v3 80 := vi_of rfl (by omega) (by omega)
      refine ⟨o19, ?_⟩
      have o20 : vp_in v3 40 := vi_of rfl (by omega) (by omega)
      refine ⟨o20, ?_⟩
      intro I21 eI21
      have w_I21 : WD Z I21 := by rw [eI21]; exact WD_putA w_I 19 v1.toNatClampNeg kb11 eb14 kb14 rfl (by simp [jsr]) (by decide) trivial
      have m_I21 : (19, v1.toNatClampNeg) ∈ Ws_X12_law := by (have h9 := i_nat (x := v1) rfl (by omega); rcases (show v1.toNatClampNeg = 0 ∨ v1.toNatClampNeg = 1 by omega) with h | h <;> rw [h] <;> decide)
      have f_I21 : FR Ws_X12_law Z I Z I21 := by rw [eI21]; exact FR_upA w_I.2.1 kb11 eb14 kb14 rfl (by simp [jsr]) m_I21
      have q_I21 : FR Ws_X12_law Z0 I0 Z I21 := q_I.trans w0.1 w0.2.1 f_I21
      have ut9 : (I21 v0 19).toInt = (I v0 19).toInt := by rw [eI21]; exact congrArg Int32.toInt ((FR_upA (W := [(19, v1.toNatClampNeg)]) w_I.2.1 kb11 eb14 kb14 rfl (by simp [jsr]) List.mem_cons_self).2.2.1 v0 12 19 kv0 (by decide) (by simp))
      intro x22 ex22
      have rx22 := i_rng x22
      first | (have tx22 : x22.toInt = v3.toInt + (1) := by (rw [ex22]; exact (i_add rfl (show (1 : Int32).toInt = 1 from rfl) (by omega) (by omega)))) | skip
      exact ih x22 Z I21 L w_I21 bd_Z q_I21 cp_Z   (by omega)  (by omega)
set_option maxHeartbeats 4000000 in
set_option maxRecDepth 100000 in
theorem s9_X12_law {B : Nat × Nat} {T : Nat} {Z : jZ} {I : jI} {L : jL} (w_I : WD Z I) (bd_Z : BUD B Z T) (v0 : Nat) (v1 : Int32) (kv0 : jk Z v0 12) {Q : Int32 → jZ → jI → jL → Prop} (hQ : ∀ (r : Int32) (Z' : jZ) (I' : jI) (L' : jL), WD Z' I' → BUD B Z' T → FR Ws_X12_law Z I Z' I' → CP Z Z' → (I' v0 19).toInt = 0 → Q r Z' I' L') : f_X12_law B v0 v1 Z I L Q := by
  unfold f_X12_law
  have q_I : FR Ws_X12_law Z I Z I := FR.rf
  have cp_Z : CP Z Z := CP.rf
  have rv1 := i_rng v1
  have t23 : 0 ≤ (I v0 19).toInt ∧ (I v0 19).toInt ≤ 80 := w_I.fld 12 19 kv0 (by decide)
  intro I24 eI24
  have t25 : (0 : Int32).toInt = 0 := rfl
  have w_I24 : WD Z I24 := by rw [eI24]; exact WD_putF w_I 12 22 kv0 (by decide) (by decide) trivial
  have f_I24 : FR [(12, 22)] Z I Z I24 := by rw [eI24]; exact FR_putF kv0 (by decide) List.mem_cons_self
  have q_I24 : FR Ws_X12_law Z I Z I24 := q_I.trans w_I.1 w_I.2.1 (f_I24.mono (by decide))
  have u26 : (I24 v0 19).toInt = (I v0 19).toInt := by rw [f_I24.2.2.1 v0 12 19 kv0 (by decide) (by decide)]
  first | (have u27 : (I24 v0 22).toInt = (0) := by (rw [eI24, show jpI I v0 22 (0 : Int32) v0 22 = (0 : Int32) from jpI_at] <;> exact (show (0 : Int32).toInt = 0 from rfl))) | skip
  have t29 : 0 ≤ (I24 v0 19).toInt ∧ (I24 v0 19).toInt ≤ 80 := w_I24.fld 12 19 kv0 (by decide)
  intro x30 ex30
  have rx30 := i_rng x30
  first | (have tx30 : x30.toInt = (I24 v0 19).toInt := by (rw [ex30]; exact rfl)) | (have tx30 : x30.toInt = (I24 v0 19).toInt := by rw [ex30])
  intro b31 eb31
  obtain ⟨x32, ex32, kb31, lb31⟩ := sh_f w_I24.1 kv0 (j := 18) (k := 13) (m := 80) rfl
  cases eb31.symm.trans ex32
  have t33 : (40 : Int32).toInt = 40 := rfl
  refine s_X12_begin w_I24 bd_Z v0 b31 x30 (40 : Int32) kv0 kb31 v0 12 18 kv0 eb31  (fun  Z37 I35 L36 w_I35 bd_Z37 f_I35 c_Z37 p34 => ?_)
  have q_I35 : FR Ws_X12_law Z I Z37 I35 := q_I24.trans w_I.1 w_I.2.1 (f_I35.mono (by decide))
  have cp_Z37 : CP Z Z37 := cp_Z.trans q_I24.1 c_Z37
  have x_Z37 := f_I35.1
  have k38 := (f_I35.1 _ _ kv0).1
  have k39 := (f_I35.1 _ _ kb31).1
  have l40 := (f_I35.1 _ _ kb31).2.trans lb31
  have k41 := (f_I35.1 _ _ kv0).1
  have e42 := (f_I35.2.1 v0 12 18 kv0 (by decide) (by decide)).trans eb31
  have u43 : (I35 v0 19).toInt = (I24 v0 19).toInt := by rw [f_I35.2.2.1 v0 12 19 kv0 (by decide) (by decide)]
  have u44 : (I35 v0 22).toInt = (I24 v0 22).toInt := by rw [f_I35.2.2.1 v0 12 22 kv0 (by decide) (by decide)]
  obtain ⟨p34_0, p34_1⟩ := p34
  have k45 := (f_I35.1 _ _ kb31).1
  have l46 := (f_I35.1 _ _ kb31).2
  have k47 := (f_I35.1 _ _ kv0).1
  have l48 := (f_I35.1 _ _ kb31).2.trans lb31
  intro I49 eI49
  have t50 : (0 : Int32).toInt = 0 := rfl
  have w_I49 : WD Z37 I49 := by rw [eI49]; exact WD_putF w_I35 12 19 k38 (by decide) (by decide) (by constructor <;> omega)
  have f_I49 : FR [(12, 19)] Z37 I35 Z37 I49 := by rw [eI49]; exact FR_putF k38 (by decide) List.mem_cons_self
  have q_I49 : FR Ws_X12_law Z I Z37 I49 := q_I35.trans w_I.1 w_I.2.1 (f_I49.mono (by decide))
  have u51 : (I49 v0 22).toInt = (I35 v0 22).toInt := by rw [f_I49.2.2.1 v0 12 22 k38 (by decide) (by decide)]
  have u52 : (I49 v0 24).toInt = (I35 v0 24).toInt := by rw [f_I49.2.2.1 v0 12 24 k47 (by decide) (by decide)]
  have u53 : (I49 v0 25).toInt = (I35 v0 25).toInt := by rw [f_I49.2.2.1 v0 12 25 k47 (by decide) (by decide)]
  have u54 : (I49 v0 26).toInt = (I35 v0 26).toInt := by rw [f_I49.2.2.1 v0 12 26 k47 (by decide) (by decide)]
  have u55 : (I49 v0 27).toInt = (I35 v0 27).toInt := by rw [f_I49.2.2.1 v0 12 27 k47 (by decide) (by decide)]
  first | (have u56 : (I49 v0 19).toInt = (0) := by (rw [eI49, show jpI I35 v0 19 (0 : Int32) v0 19 = (0 : Int32) from jpI_at] <;> exact (show (0 : Int32).toInt = 0 from rfl))) | skip
  have t57 : (0 : Int32).toInt = 0 := rfl
  have t58 : (1 : Int32).toInt = 1 := rfl
  refine s_X12_in w_I49 v1 (0 : Int32) (1 : Int32)    (fun r59 p60 => ?_)
  have rr59 := i_rng r59
  refine ⟨fun c61 => ?_, fun c61 => ?_⟩
  · skip
    first | (have t62 : ¬ (r59.toInt = (0)) := (not_congr (i_eq rfl (show (0 : Int32).toInt = 0 from rfl))).mp c61) | (have t62 : ¬ (r59.toInt = (0 : Int32).toInt) := (not_congr (i_eq rfl rfl)).mp c61) | skip
    intro I63 eI63
    have t64 : (-1 : Int32).toInt = -1 := rfl
    have w_I63 : WD Z37 I63 := by rw [eI63]; exact WD_putF w_I49 12 31 k38 (by decide) (by decide) trivial
    have f_I63 : FR [(12, 31)] Z37 I49 Z37 I63 := by rw [eI63]; exact FR_putF k38 (by decide) List.mem_cons_self
    have q_I63 : FR Ws_X12_law Z I Z37 I63 := q_I49.trans w_I.1 w_I.2.1 (f_I63.mono (by decide))
    have u65 : (I63 v0 22).toInt = (I49 v0 22).toInt := by rw [f_I63.2.2.1 v0 12 22 k38 (by decide) (by decide)]
    have u66 : (I63 v0 24).toInt = (I49 v0 24).toInt := by rw [f_I63.2.2.1 v0 12 24 k47 (by decide) (by decide)]
    have u67 : (I63 v0 25).toInt = (I49 v0 25).toInt := by rw [f_I63.2.2.1 v0 12 25 k47 (by decide) (by decide)]
    have u68 : (I63 v0 26).toInt = (I49 v0 26).toInt := by rw [f_I63.2.2.1 v0 12 26 k47 (by decide) (by decide)]
    have u69 : (I63 v0 27).toInt = (I49 v0 27).toInt := by rw [f_I63.2.2.1 v0 12 27 k47 (by decide) (by decide)]
    have u70 : (I63 v0 19).toInt = (I49 v0 19).toInt := by rw [f_I63.2.2.1 v0 12 19 k38 (by decide) (by decide)]
    first | (have u71 : (I63 v0 31).toInt = (-1) := by (rw [eI63, show jpI I49 v0 31 (-1 : Int32) v0 31 = (-1 : Int32) from jpI_at] <;> exact (show (-1 : Int32).toInt = -1 from rfl))) | skip
    refine ⟨fun c72 => ?_, fun c72 => ?_⟩
    · skip
      first | (have t73 : x30.toInt ≤ (0) := (i_le rfl (show (0 : Int32).toInt = 0 from rfl)).mp c72) | (have t73 : x30.toInt ≤ (0 : Int32).toInt := (i_le rfl rfl).mp c72) | skip
      unfold f_X12_law_b83
      have t74 : (0 : Int32).toInt = 0 := rfl
      exact ⟨(40 - (0 : Int32).toInt).toNat + 1, l9_X12_law_L85 w_I v0 v1 kv0 x30  hQ   _ (0 : Int32) Z37 I63 L36 w_I63 bd_Z37 q_I63 cp_Z37   (by omega)  (by omega)⟩
    · skip
      first | (have t75 : ¬ (x30.toInt ≤ (0)) := (not_congr (i_le rfl (show (0 : Int32).toInt = 0 from rfl))).mp c72) | (have t75 : ¬ (x30.toInt ≤ (0 : Int32).toInt) := (not_congr (i_le rfl rfl)).mp c72) | skip
      have t76 : (0 : Int32).toInt = 0 := rfl
      refine (hs12 100) 0 (by decide) Z37 I63 L36 w_I63 v0 (0 : Int32) k38 b31 p34_0 k45 (by omega) (by omega) (by omega) (by omega) _ (fun r77 I79 L80 w_I79 f_I79 p81 => ?_)
      have q_I79 : FR Ws_X12_law Z I Z37 I79 := q_I63.trans w_I.1 w_I.2.1 (f_I79.mono (by decide))
      have u82 : (I79 v0 22).toInt = (I63 v0 22).toInt := by rw [f_I79.2.2.1 v0 12 22 k38 (by decide) (by decide)]
      have u83 : (I79 v0 24).toInt = (I63 v0 24).toInt := by rw [f_I79.2.2.1 v0 12 24 k47 (by decide) (by decide)]
      have u84 : (I79 v0 25).toInt = (I63 v0 25).toInt := by rw [f_I79.2.2.1 v0 12 25 k47 (by decide) (by decide)]
      have u85 : (I79 v0 19).toInt = (I63 v0 19).toInt := by rw [f_I79.2.2.1 v0 12 19 k38 (by decide) (by decide)]
      have u86 : (I79 v0 31).toInt = (I63 v0 31).toInt := by rw [f_I79.2.2.1 v0 12 31 k38 (by decide) (by decide)]
      have rr77 := i_rng r77
      refine ⟨fun c87 => ?_, fun c87 => ?_⟩
      · skip
        first | (have t88 : x30.toInt ≤ (I79 v0 26).toInt := (i_le rfl rfl).mp c87) | (have t88 : x30.toInt ≤ (I79 v0 26).toInt := (i_le rfl rfl).mp c87) | skip
        unfold f_X12_law_b69
        refine s_X12_fine w_I79 v0 k38   (fun r89 p90 => ?_)
        have rr89 := i_rng r89
        refine ⟨fun c91 => ?_, fun c91 => ?_⟩
        · skip
          first | (have t92 : ¬ (r89.toInt = (0)) := (not_congr (i_eq rfl (show (0 : Int32).toInt = 0 from rfl))).mp c91) | (have t92 : ¬ (r89.toInt = (0 : Int32).toInt) := (not_congr (i_eq rfl rfl)).mp c91) | skip
          unfold f_X12_law_b83
          have t93 : (0 : Int32).toInt = 0 := rfl
          exact ⟨(40 - (0 : Int32).toInt).toNat + 1, l9_X12_law_L85 w_I v0 v1 kv0 x30  hQ   _ (0 : Int32) Z37 I79 L80 w_I79 bd_Z37 q_I79 cp_Z37   (by omega)  (by omega)⟩
        · skip
          first | (have t94 : r89.toInt = (0) := (i_eq rfl (show (0 : Int32).toInt = 0 from rfl)).mp c91) | (have t94 : r89.toInt = (0 : Int32).toInt := (i_eq rfl rfl).mp c91) | skip
          try (have t95 : ((-1 : Int32) - (I79 v0 27)).toInt = ((-1) - (I79 v0 27).toInt) := (i_sub (show (-1 : Int32).toInt = -1 from rfl) rfl (by omega) (by omega)))
          exact hQ ((-1 : Int32) - (I79 v0 27)) Z37 I79 L80 w_I79 bd_Z37 q_I79 cp_Z37 (by omega)
      · skip
        first | (have t96 : ¬ (x30.toInt ≤ (I79 v0 26).toInt) := (not_congr (i_le rfl rfl)).mp c87) | (have t96 : ¬ (x30.toInt ≤ (I79 v0 26).toInt) := (not_congr (i_le rfl rfl)).mp c87) | skip
        refine s_X12_fault w_I79 v0 (I79 v0 26) k38   (fun  I98 L99 w_I98 f_I98 p97 => ?_)
        have q_I98 : FR Ws_X12_law Z I Z37 I98 := q_I79.trans w_I.1 w_I.2.1 (f_I98.mono (by decide))
        have u100 : (I98 v0 22).toInt = (I79 v0 22).toInt := by rw [f_I98.2.2.1 v0 12 22 k38 (by decide) (by decide)]
        have u101 : (I98 v0 24).toInt = (I79 v0 24).toInt := by rw [f_I98.2.2.1 v0 12 24 k47 (by decide) (by decide)]
        have u102 : (I98 v0 25).toInt = (I79 v0 25).toInt := by rw [f_I98.2.2.1 v0 12 25 k47 (by decide) (by decide)]
        have u103 : (I98 v0 19).toInt = (I79 v0 19).toInt := by rw [f_I98.2.2.1 v0 12 19 k38 (by decide) (by decide)]
        have u104 : (I98 v0 31).toInt = (I79 v0 31).toInt := by rw [f_I98.2.2.1 v0 12 31 k38 (by decide) (by decide)]
        have u105 : (I98 v0 26).toInt = (I79 v0 26).toInt := by rw [f_I98.2.2.1 v0 12 26 k38 (by decide) (by decide)]
        unfold f_X12_law_b69
        refine s_X12_fine w_I98 v0 k38   (fun r106 p107 => ?_)
        have rr106 := i_rng r106
        refine ⟨fun c108 => ?_, fun c108 => ?_⟩
        · skip
          first | (have t109 : ¬ (r106.toInt = (0)) := (not_congr (i_eq rfl (show (0 : Int32).toInt = 0 from rfl))).mp c108) | (have t109 : ¬ (r106.toInt = (0 : Int32).toInt) := (not_congr (i_eq rfl rfl)).mp c108) | skip
          unfold f_X12_law_b83
          have t110 : (0 : Int32).toInt = 0 := rfl
          exact ⟨(40 - (0 : Int32).toInt).toNat + 1, l9_X12_law_L85 w_I v0 v1 kv0 x30  hQ   _ (0 : Int32) Z37 I98 L99 w_I98 bd_Z37 q_I98 cp_Z37   (by omega)  (by omega)⟩
        · skip
          first | (have t111 : r106.toInt = (0) := (i_eq rfl (show (0 : Int32).toInt = 0 from rfl)).mp c108) | (have t111 : r106.toInt = (0 : Int32).toInt := (i_eq rfl rfl).mp c108) | skip
          try (have t112 : ((-1 : Int32) - (I98 v0 27)).toInt = ((-1) - (I98 v0 27).toInt) := (i_sub (show (-1 : Int32).toInt = -1 from rfl) rfl (by omega) (by omega)))
          exact hQ ((-1 : Int32) - (I98 v0 27)) Z37 I98 L99 w_I98 bd_Z37 q_I98 cp_Z37 (by omega)
  · skip
    first | (have t113 : r59.toInt = (0) := (i_eq rfl (show (0 : Int32).toInt = 0 from rfl)).mp c61) | (have t113 : r59.toInt = (0 : Int32).toInt := (i_eq rfl rfl).mp c61) | skip
    have t114 : (-100 : Int32).toInt = -100 := rfl
    exact hQ (-100 : Int32) Z37 I49 L36 w_I49 bd_Z37 q_I49 cp_Z37 (by omega)

set_option maxHeartbeats 4000000 in
set_option maxRecDepth 100000 in
theorem s9_X12_pilgrim {Z : jZ} {I : jI} {L : jL} (w_I : WD Z I) (v0 : Nat) (v1 : Int32) (v2 : Int32) (v3 : Int32) (v4 : Int32) (kv0 : jk Z v0 12) {Q : Int32 → jI → jL → Prop} (hQ : ∀ (r : Int32) (I' : jI) (L' : jL), WD Z I' → FR Ws_X12_pilgrim Z I Z I' → ((r.toInt = -1 ∧ (I' v0 8).toInt = (I v0 8).toInt ∧ ¬ (1 ≤ v1.toInt ∧ v1.toInt ≤ 120 ∧ 0 ≤ v2.toInt ∧ v2.toInt ≤ 999 ∧ 1 ≤ v3.toInt ∧ v3.toInt ≤ 3 ∧ 0 ≤ v4.toInt ∧ v4.toInt ≤ 50 ∧ (I v0 8).toInt < 6)) ∨ (r.toInt = (I v0 8).toInt ∧ (I' v0 8).toInt = (I v0 8).toInt + 1 ∧ 1 ≤ v1.toInt ∧ v1.toInt ≤ 120 ∧ 0 ≤ v2.toInt ∧ v2.toInt ≤ 999 ∧ 1 ≤ v3.toInt ∧ v3.toInt ≤ 3 ∧ 0 ≤ v4.toInt ∧ v4.toInt ≤ 50 ∧ (I v0 8).toInt < 6)) → Q r I' L') : f_X12_pilgrim v0 v1 v2 v3 v4 Z I L Q := by
  unfold f_X12_pilgrim
  have q_I : FR Ws_X12_pilgrim Z I Z I := FR.rf
  have rv1 := i_rng v1
  have rv2 := i_rng v2
  have rv3 := i_rng v3
  have rv4 := i_rng v4
  have t1 : 0 ≤ (I v0 8).toInt ∧ (I v0 8).toInt ≤ 6 := w_I.fld 12 8 kv0 (by decide)
  intro I2 eI2
  have t3 : (0 : Int32).toInt = 0 := rfl
  have w_I2 : WD Z I2 := by rw [eI2]; exact WD_putF w_I 12 22 kv0 (by decide) (by decide) trivial
  have f_I2 : FR [(12, 22)] Z I Z I2 := by rw [eI2]; exact FR_putF kv0 (by decide) List.mem_cons_self
  have q_I2 : FR Ws_X12_pilgrim Z I Z I2 := q_I.trans w_I.1 w_I.2.1 (f_I2.mono (by decide))
  have u4 : (I2 v0 8).toInt = (I v0 8).toInt := by rw [f_I2.2.2.1 v0 12 8 kv0 (by decide) (by decide)]
  first | (have u5 : (I2 v0 22).toInt = (0) := by (rw [eI2, show jpI I v0 22 (0 : Int32) v0 22 = (0 : Int32) from jpI_at] <;> exact (show (0 : Int32).toInt = 0 from rfl))) | skip
  have t6 : (1 : Int32).toInt = 1 := rfl
  have t7 : (120 : Int32).toInt = 120 := rfl
  refine s_X12_in w_I2 v1 (1 : Int32) (120 : Int32)    (fun r8 p9 => ?_)
  have rr8 := i_rng r8
  refine ⟨fun c10 => ?_, fun c10 => ?_⟩
  · skip
    first | (have t11 : r8.toInt = (0) := (i_eq rfl (show (0 : Int32).toInt = 0 from rfl)).mp c10) | (have t11 : r8.toInt = (0 : Int32).toInt := (i_eq rfl rfl).mp c10) | skip
    have t12 : (-1 : Int32).toInt = -1 := rfl
    exact hQ (-1 : Int32) I2 L w_I2 q_I2 (by omega)
  · skip
    first | (have t13 : ¬ (r8.toInt = (0)) := (not_congr (i_eq rfl (show (0 : Int32).toInt = 0 from rfl))).mp c10) | (have t13 : ¬ (r8.toInt = (0 : Int32).toInt) := (not_congr (i_eq rfl rfl)).mp c10) | skip
    have t14 : (0 : Int32).toInt = 0 := rfl
    have t15 : (999 : Int32).toInt = 999 := rfl
    refine s_X12_in w_I2 v2 (0 : Int32) (999 : Int32)    (fun r16 p17 => ?_)
    have rr16 := i_rng r16
    refine ⟨fun c18 => ?_, fun c18 => ?_⟩
    · skip
      first | (have t19 : r16.toInt = (0) := (i_eq rfl (show (0 : Int32).toInt = 0 from rfl)).mp c18) | (have t19 : r16.toInt = (0 : Int32).toInt := (i_eq rfl rfl).mp c18) | skip
      have t20 : (-1 : Int32).toInt = -1 := rfl
      exact hQ (-1 : Int32) I2 L w_I2 q_I2 (by omega)
    · skip
      first | (have t21 : ¬ (r16.toInt = (0)) := (not_congr (i_eq rfl (show (0 : Int32).toInt = 0 from rfl))).mp c18) | (have t21 : ¬ (r16.toInt = (0 : Int32).toInt) := (not_congr (i_eq rfl rfl)).mp c18) | skip
      have t22 : (1 : Int32).toInt = 1 := rfl
      have t23 : (3 : Int32).toInt = 3 := rfl
      refine s_X12_in w_I2 v3 (1 : Int32) (3 : Int32)    (fun r24 p25 => ?_)
      have rr24 := i_rng r24
      refine ⟨fun c26 => ?_, fun c26 => ?_⟩
      · skip
        first | (have t27 : r24.toInt = (0) := (i_eq rfl (show (0 : Int32).toInt = 0 from rfl)).mp c26) | (have t27 : r24.toInt = (0 : Int32).toInt := (i_eq rfl rfl).mp c26) | skip
        have t28 : (-1 : Int32).toInt = -1 := rfl
        exact hQ (-1 : Int32) I2 L w_I2 q_I2 (by omega)
      · skip
        first | (have t29 : ¬ (r24.toInt = (0)) := (not_congr (i_eq rfl (show (0 : Int32).toInt = 0 from rfl))).mp c26) | (have t29 : ¬ (r24.toInt = (0 : Int32).toInt) := (not_congr (i_eq rfl rfl)).mp c26) | skip
        have t30 : (0 : Int32).toInt = 0 := rfl
        have t31 : (50 : Int32).toInt = 50 := rfl
        refine s_X12_in w_I2 v4 (0 : Int32) (50 : Int32)    (fun r32 p33 => ?_)
        have rr32 := i_rng r32
        refine ⟨fun c34 => ?_, fun c34 => ?_⟩
        · skip
          first | (have t35 : r32.toInt = (0) := (i_eq rfl (show (0 : Int32).toInt = 0 from rfl)).mp c34) | (have t35 : r32.toInt = (0 : Int32).toInt := (i_eq rfl rfl).mp c34) | skip
          have t36 : (-1 : Int32).toInt = -1 := rfl
          exact hQ (-1 : Int32) I2 L w_I2 q_I2 (by omega)
        · skip
          first | (have t37 : ¬ (r32.toInt = (0)) := (not_congr (i_eq rfl (show (0 : Int32).toInt = 0 from rfl))).mp c34) | (have t37 : ¬ (r32.toInt = (0 : Int32).toInt) := (not_congr (i_eq rfl rfl)).mp c34) | skip
          have t39 : 0 ≤ (I2 v0 8).toInt ∧ (I2 v0 8).toInt ≤ 6 := w_I2.fld 12 8 kv0 (by decide)
          refine ⟨fun c40 => ?_, fun c40 => ?_⟩
          · skip
            first | (have t41 : ¬ ((I2 v0 8).toInt = (6)) := (not_congr (i_eq rfl (show (6 : Int32).toInt = 6 from rfl))).mp c40) | (have t41 : ¬ ((I2 v0 8).toInt = (6 : Int32).toInt) := (not_congr (i_eq rfl rfl)).mp c40) | skip
            intro b42 eb42
            obtain ⟨x43, ex43, kb42, lb42⟩ := sh_f w_I2.1 kv0 (j := 9) (k := 14) (m := 6) rfl
            cases eb42.symm.trans ex43
            have t45 : 0 ≤ (I2 v0 8).toInt ∧ (I2 v0 8).toInt ≤ 6 := w_I2.fld 12 8 kv0 (by decide)
            have o46 : vp_in (I2 v0 8) 6 := vi_of rfl (by omega) (by omega)
            refine ⟨o46, ?_⟩
            intro I47 eI47
            have w_I47 : WD Z I47 := by rw [eI47]; exact WD_putA w_I2 12 9 kv0 eb42 kb42 rfl rfl (by decide) (by constructor <;> omega)
            have f_I47 : FR [(12, 9)] Z I2 Z I47 := by rw [eI47]; exact FR_upA w_I2.2.1 kv0 eb42 kb42 rfl rfl List.mem_cons_self
            have q_I47 : FR Ws_X12_pilgrim Z I Z I47 := q_I2.trans w_I.1 w_I.2.1 (f_I47.mono (by decide))
            have u48 : (I47 v0 8).toInt = (I2 v0 8).toInt := by rw [f_I47.2.2.1 v0 12 8 kv0 (by decide) (by decide)]
            have u49 : (I47 v0 22).toInt = (I2 v0 22).toInt := by rw [f_I47.2.2.1 v0 12 22 kv0 (by decide) (by decide)]
            intro b50 eb50
            obtain ⟨x51, ex51, kb50, lb50⟩ := sh_f w_I47.1 kv0 (j := 10) (k := 14) (m := 6) rfl
            cases eb50.symm.trans ex51
            have t53 : 0 ≤ (I47 v0 8).toInt ∧ (I47 v0 8).toInt ≤ 6 := w_I47.fld 12 8 kv0 (by decide)
            have o54 : vp_in (I47 v0 8) 6 := vi_of rfl (by omega) (by omega)
            refine ⟨o54, ?_⟩
            intro I55 eI55
            have w_I55 : WD Z I55 := by rw [eI55]; exact WD_putA w_I47 12 10 kv0 eb50 kb50 rfl rfl (by decide) (by constructor <;> omega)
            have f_I55 : FR [(12, 10)] Z I47 Z I55 := by rw [eI55]; exact FR_upA w_I47.2.1 kv0 eb50 kb50 rfl rfl List.mem_cons_self
            have q_I55 : FR Ws_X12_pilgrim Z I Z I55 := q_I47.trans w_I.1 w_I.2.1 (f_I55.mono (by decide))
            have u56 : (I55 v0 8).toInt = (I47 v0 8).toInt := by rw [f_I55.2.2.1 v0 12 8 kv0 (by decide) (by decide)]
            have u57 : (I55 v0 22).toInt = (I47 v0 22).toInt := by rw [f_I55.2.2.1 v0 12 22 kv0 (by decide) (by decide)]
            intro b58 eb58
            obtain ⟨x59, ex59, kb58, lb58⟩ := sh_f w_I55.1 kv0 (j := 11) (k := 14) (m := 6) rfl
            cases eb58.symm.trans ex59
            have t61 : 0 ≤ (I55 v0 8).toInt ∧ (I55 v0 8).toInt ≤ 6 := w_I55.fld 12 8 kv0 (by decide)
            have o62 : vp_in (I55 v0 8) 6 := vi_of rfl (by omega) (by omega)
            refine ⟨o62, ?_⟩
            intro I63 eI63
            have w_I63 : WD Z I63 := by rw [eI63]; exact WD_putA w_I55 12 11 kv0 eb58 kb58 rfl rfl (by decide) (by constructor <;> omega)
            have f_I63 : FR [(12, 11)] Z I55 Z I63 := by rw [eI63]; exact FR_upA w_I55.2.1 kv0 eb58 kb58 rfl rfl List.mem_cons_self
            have q_I63 : FR Ws_X12_pilgrim Z I Z I63 := q_I55.trans w_I.1 w_I.2.1 (f_I63.mono (by decide))
            have u64 : (I63 v0 8).toInt = (I55 v0 8).toInt := by rw [f_I63.2.2.1 v0 12 8 kv0 (by decide) (by decide)]
            have u65 : (I63 v0 22).toInt = (I55 v0 22).toInt := by rw [f_I63.2.2.1 v0 12 22 kv0 (by decide) (by decide)]
            intro b66 eb66
            obtain ⟨x67, ex67, kb66, lb66⟩ := sh_f w_I63.1 kv0 (j := 12) (k := 14) (m := 6) rfl
            cases eb66.symm.trans ex67
            have t69 : 0 ≤ (I63 v0 8).toInt ∧ (I63 v0 8).toInt ≤ 6 := w_I63.fld 12 8 kv0 (by decide)
            have o70 : vp_in (I63 v0 8) 6 := vi_of rfl (by omega) (by omega)
            refine ⟨o70, ?_⟩
            intro I71 eI71
            have w_I71 : WD Z I71 := by rw [eI71]; exact WD_putA w_I63 12 12 kv0 eb66 kb66 rfl rfl (by decide) (by constructor <;> omega)
            have f_I71 : FR [(12, 12)] Z I63 Z I71 := by rw [eI71]; exact FR_upA w_I63.2.1 kv0 eb66 kb66 rfl rfl List.mem_cons_self
            have q_I71 : FR Ws_X12_pilgrim Z I Z I71 := q_I63.trans w_I.1 w_I.2.1 (f_I71.mono (by decide))
            have u72 : (I71 v0 8).toInt = (I63 v0 8).toInt := by rw [f_I71.2.2.1 v0 12 8 kv0 (by decide) (by decide)]
            have u73 : (I71 v0 22).toInt = (I63 v0 22).toInt := by rw [f_I71.2.2.1 v0 12 22 kv0 (by decide) (by decide)]
            intro b74 eb74
            obtain ⟨x75, ex75, kb74, lb74⟩ := sh_f w_I71.1 kv0 (j := 13) (k := 14) (m := 6) rfl
            cases eb74.symm.trans ex75
            have t77 : 0 ≤ (I71 v0 8).toInt ∧ (I71 v0 8).toInt ≤ 6 := w_I71.fld 12 8 kv0 (by decide)
            have o78 : vp_in (I71 v0 8) 6 := vi_of rfl (by omega) (by omega)
            refine ⟨o78, ?_⟩
            intro I79 eI79
            have t80 : (0 : Int32).toInt = 0 := rfl
            have w_I79 : WD Z I79 := by rw [eI79]; exact WD_putA w_I71 12 13 kv0 eb74 kb74 rfl rfl (by decide) trivial
            have f_I79 : FR [(12, 13)] Z I71 Z I79 := by rw [eI79]; exact FR_upA w_I71.2.1 kv0 eb74 kb74 rfl rfl List.mem_cons_self
            have q_I79 : FR Ws_X12_pilgrim Z I Z I79 := q_I71.trans w_I.1 w_I.2.1 (f_I79.mono (by decide))
            have u81 : (I79 v0 8).toInt = (I71 v0 8).toInt := by rw [f_I79.2.2.1 v0 12 8 kv0 (by decide) (by decide)]
            have u82 : (I79 v0 22).toInt = (I71 v0 22).toInt := by rw [f_I79.2.2.1 v0 12 22 kv0 (by decide) (by decide)]
            intro b83 eb83
            obtain ⟨x84, ex84, kb83, lb83⟩ := sh_f w_I79.1 kv0 (j := 14) (k := 14) (m := 6) rfl
            cases eb83.symm.trans ex84
            have t86 : 0 ≤ (I79 v0 8).toInt ∧ (I79 v0 8).toInt ≤ 6 := w_I79.fld 12 8 kv0 (by decide)
            have o87 : vp_in (I79 v0 8) 6 := vi_of rfl (by omega) (by omega)
            refine ⟨o87, ?_⟩
            intro I88 eI88
            have t89 : (-1 : Int32).toInt = -1 := rfl
            have w_I88 : WD Z I88 := by rw [eI88]; exact WD_putA w_I79 12 14 kv0 eb83 kb83 rfl rfl (by decide) (by constructor <;> omega)
            have f_I88 : FR [(12, 14)] Z I79 Z I88 := by rw [eI88]; exact FR_upA w_I79.2.1 kv0 eb83 kb83 rfl rfl List.mem_cons_self
            have q_I88 : FR Ws_X12_pilgrim Z I Z I88 := q_I79.trans w_I.1 w_I.2.1 (f_I88.mono (by decide))
            have u90 : (I88 v0 8).toInt = (I79 v0 8).toInt := by rw [f_I88.2.2.1 v0 12 8 kv0 (by decide) (by decide)]
            have u91 : (I88 v0 22).toInt = (I79 v0 22).toInt := by rw [f_I88.2.2.1 v0 12 22 kv0 (by decide) (by decide)]
            intro b92 eb92
            obtain ⟨x93, ex93, kb92, lb92⟩ := sh_f w_I88.1 kv0 (j := 15) (k := 14) (m := 6) rfl
            cases eb92.symm.trans ex93
            have t95 : 0 ≤ (I88 v0 8).toInt ∧ (I88 v0 8).toInt ≤ 6 := w_I88.fld 12 8 kv0 (by decide)
            have o96 : vp_in (I88 v0 8) 6 := vi_of rfl (by omega) (by omega)
            refine ⟨o96, ?_⟩
            intro I97 eI97
            have w_I97 : WD Z I97 := by rw [eI97]; exact WD_putA w_I88 12 15 kv0 eb92 kb92 rfl rfl (by decide) trivial
            have f_I97 : FR [(12, 15)] Z I88 Z I97 := by rw [eI97]; exact FR_upA w_I88.2.1 kv0 eb92 kb92 rfl rfl List.mem_cons_self
            have q_I97 : FR Ws_X12_pilgrim Z I Z I97 := q_I88.trans w_I.1 w_I.2.1 (f_I97.mono (by decide))
            have u98 : (I97 v0 8).toInt = (I88 v0 8).toInt := by rw [f_I97.2.2.1 v0 12 8 kv0 (by decide) (by decide)]
            have u99 : (I97 v0 22).toInt = (I88 v0 22).toInt := by rw [f_I97.2.2.1 v0 12 22 kv0 (by decide) (by decide)]
            intro b100 eb100
            obtain ⟨x101, ex101, kb100, lb100⟩ := sh_f w_I97.1 kv0 (j := 16) (k := 14) (m := 6) rfl
            cases eb100.symm.trans ex101
            have t103 : 0 ≤ (I97 v0 8).toInt ∧ (I97 v0 8).toInt ≤ 6 := w_I97.fld 12 8 kv0 (by decide)
            have o104 : vp_in (I97 v0 8) 6 := vi_of rfl (by omega) (by omega)
            refine ⟨o104, ?_⟩
            intro I105 eI105
            have w_I105 : WD Z I105 := by rw [eI105]; exact WD_putA w_I97 12 16 kv0 eb100 kb100 rfl rfl (by decide) trivial
            have f_I105 : FR [(12, 16)] Z I97 Z I105 := by rw [eI105]; exact FR_upA w_I97.2.1 kv0 eb100 kb100 rfl rfl List.mem_cons_self
            have q_I105 : FR Ws_X12_pilgrim Z I Z I105 := q_I97.trans w_I.1 w_I.2.1 (f_I105.mono (by decide))
            have u106 : (I105 v0 8).toInt = (I97 v0 8).toInt := by rw [f_I105.2.2.1 v0 12 8 kv0 (by decide) (by decide)]
            have u107 : (I105 v0 22).toInt = (I97 v0 22).toInt := by rw [f_I105.2.2.1 v0 12 22 kv0 (by decide) (by decide)]
            have t109 : 0 ≤ (I105 v0 8).toInt ∧ (I105 v0 8).toInt ≤ 6 := w_I105.fld 12 8 kv0 (by decide)
            intro I110 eI110
            try (have t111 : ((I105 v0 8) + (1 : Int32)).toInt = ((I105 v0 8).toInt + (1)) := (i_add rfl (show (1 : Int32).toInt = 1 from rfl) (by omega) (by omega)))
            have w_I110 : WD Z I110 := by rw [eI110]; exact WD_putF w_I105 12 8 kv0 (by decide) (by decide) (by constructor <;> omega)
            have f_I110 : FR [(12, 8)] Z I105 Z I110 := by rw [eI110]; exact FR_putF kv0 (by decide) List.mem_cons_self
            have q_I110 : FR Ws_X12_pilgrim Z I Z I110 := q_I105.trans w_I.1 w_I.2.1 (f_I110.mono (by decide))
            have u112 : (I110 v0 22).toInt = (I105 v0 22).toInt := by rw [f_I110.2.2.1 v0 12 22 kv0 (by decide) (by decide)]
            first | (have u113 : (I110 v0 8).toInt = ((I105 v0 8).toInt + (1)) := by (rw [eI110, show jpI I105 v0 8 ((I105 v0 8) + (1 : Int32)) v0 8 = ((I105 v0 8) + (1 : Int32)) from jpI_at] <;> exact (i_add rfl (show (1 : Int32).toInt = 1 from rfl) (by omega) (by omega)))) | skip
            have t115 : 0 ≤ (I110 v0 8).toInt ∧ (I110 v0 8).toInt ≤ 6 := w_I110.fld 12 8 kv0 (by decide)
            try (have t116 : ((I110 v0 8) - (1 : Int32)).toInt = ((I110 v0 8).toInt - (1)) := (i_sub rfl (show (1 : Int32).toInt = 1 from rfl) (by omega) (by omega)))
            exact hQ ((I110 v0 8) - (1 : Int32)) I110 L w_I110 q_I110 (by omega)
          · skip
            first | (have t117 : (I2 v0 8).toInt = (6) := (i_eq rfl (show (6 : Int32).toInt = 6 from rfl)).mp c40) | (have t117 : (I2 v0 8).toInt = (6 : Int32).toInt := (i_eq rfl rfl).mp c40) | skip
            have t118 : (-1 : Int32).toInt = -1 := rfl
            exact hQ (-1 : Int32) I2 L w_I2 q_I2 (by omega)
end
section
/-! ===== the model's moves ===== -/
def MVB (K N : Int) (C E : Nat → Int32) : Prop := ∀ k : Nat, (k : Int) < K → (C k).toInt = 1000000000 ∨ (((k / 3 : Nat) : Int) + ((k % 3 : Nat) : Int) + 1 ≤ N ∧ 0 ≤ (C k).toInt ∧ (C k).toInt ≤ 297 ∧ 0 ≤ (E k).toInt ∧ (E k).toInt ≤ 999)
theorem MVB.zero {N : Int} {C E : Nat → Int32} {K : Int} (h : K ≤ 0) : MVB K N C E := fun k hk => by omega
theorem MVB.step {K N : Int} {C E C' E' : Nat → Int32} (h : MVB K N C E) (P : Nat) (hP : (P : Int) = K) (hC : ∀ q, q ≠ P → C' q = C q) (hE : ∀ q, q ≠ P → E' q = E q)
    (hv : (C' P).toInt = 1000000000 ∨ (((P / 3 : Nat) : Int) + ((P % 3 : Nat) : Int) + 1 ≤ N ∧ 0 ≤ (C' P).toInt ∧ (C' P).toInt ≤ 297 ∧ 0 ≤ (E' P).toInt ∧ (E' P).toInt ≤ 999)) {K' : Int} (hK : K' = K + 1) : MVB K' N C' E' := by
  intro k hk
  by_cases q : k = P
  · subst q; exact hv
  · rw [hC k q, hE k q]
    exact h k (by omega)
theorem MVB.at {K N : Int} {C E : Nat → Int32} (h : MVB K N C E) {x : Int32} {A : Int} (hx : x.toInt = A) (h0 : 0 ≤ A) (h1 : A < K) : (C x.toNatClampNeg).toInt = 1000000000 ∨ (A / 3 + A % 3 + 1 ≤ N ∧ 0 ≤ (C x.toNatClampNeg).toInt ∧ (C x.toNatClampNeg).toInt ≤ 297 ∧ 0 ≤ (E x.toNatClampNeg).toInt ∧ (E x.toNatClampNeg).toInt ≤ 999) := by
  have hn := i_nat hx h0
  rcases h x.toNatClampNeg (by omega) with h | h
  · exact Or.inl h
  · refine Or.inr ⟨by omega, h.2⟩
theorem MVB.same {K N : Int} {C E C' E' : Nat → Int32} (hC : ∀ q, True → C' q = C q) (hE : ∀ q, True → E' q = E q) (h : MVB K N C E) : MVB K N C' E' := fun k hk => by
  rw [hC k trivial, hE k trivial]
  exact h k hk
theorem MVB.rew {N N' : Int} {C E : Nat → Int32} (h : N' = N) (m : MVB (3 * (N + 1)) N C E) : MVB (3 * (N' + 1)) N' C E := by rw [h]; exact m
end
