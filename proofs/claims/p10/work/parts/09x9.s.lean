
set_option maxHeartbeats 4000000 in
set_option maxRecDepth 100000 in
theorem l9_X12_findAll_L17 {B : Nat × Nat} {T : Nat} {Z0 : jZ} {I0 : jI} {Q : jZ → jI → jL → Prop} (w0 : WD Z0 I0) (v0 : Nat) (kv0 : jk Z0 v0 12) (uK : Nat) (huK : jr Z0 v0 9 = some uK) (uQ : Nat) (huQ : jr Z0 v0 10 = some uQ) (uL : Nat) (huL : jr Z0 v0 11 = some uL) (uV : Nat) (huV : jr Z0 v0 13 = some uV) (hQ : ∀  (Z' : jZ) (I' : jI) (L' : jL), WD Z' I' → BUD B Z' T → FR Ws_X12_findAll Z0 I0 Z' I' → CP Z0 Z' → (I' v0 48).toInt = NUM B v0 Z0 I0 → Q Z' I' L') : ∀ (n : Nat) (v1 : Int32) (Z : jZ) (I : jI) (L : jL), WD Z I → BUD B Z T → FR Ws_X12_findAll Z0 I0 Z I → CP Z0 Z →   ((0 ≤ v1.toInt ∧ v1.toInt ≤ 6 ∧ v1.toInt ≤ (I0 v0 8).toInt ∧ 0 ≤ (I v0 48).toInt ∧ (I v0 48).toInt ≤ v1.toInt ∧ (v1.toInt = 0 ∨ 1 ≤ (I0 v0 0).toInt)) ∧ (I v0 48).toInt = CFN (FCi B v0 Z0 I0) v1.toNatClampNeg) → 6 - v1.toInt < (n : Int) → f_X12_findAll_L17 B  Q n v0 v1 Z I L := by
  intro n
  induction n with
  | zero =>
    intro v1 Z I L w_I bd_Z q_I cp_Z   li  me
    exfalso
    omega
  | succ n ih =>
    intro v1 Z I L w_I bd_Z q_I cp_Z   li  me
    unfold f_X12_findAll_L17
    have rv1 := i_rng v1
    obtain ⟨li0, li1⟩ := li
    have kv0_0 := kv0
    have kv0 := (q_I.1 _ _ kv0).1
    have t1 : 0 ≤ (I v0 0).toInt ∧ (I v0 0).toInt ≤ 24 := w_I.fld 12 0 kv0 (by decide)
    have t2 : 0 ≤ (I v0 8).toInt ∧ (I v0 8).toInt ≤ 6 := w_I.fld 12 8 kv0 (by decide)
    have huK_1 : jr Z v0 9 = some uK := (q_I.2.1 v0 12 9 kv0_0 (by decide) (by decide)).trans huK
    have luK : jlen Z uK = 6 := by obtain ⟨b9, e9, -, l9⟩ := sh_f w_I.1 kv0 (j := 9) (k := 14) (m := 6) rfl; cases huK_1.symm.trans e9; exact l9
    have kuK : jk Z uK 14 := by obtain ⟨b9, e9, k9, -⟩ := sh_f w_I.1 kv0 (j := 9) (k := 14) (m := 6) rfl; cases huK_1.symm.trans e9; exact k9
    have huQ_1 : jr Z v0 10 = some uQ := (q_I.2.1 v0 12 10 kv0_0 (by decide) (by decide)).trans huQ
    have luQ : jlen Z uQ = 6 := by obtain ⟨b9, e9, -, l9⟩ := sh_f w_I.1 kv0 (j := 10) (k := 14) (m := 6) rfl; cases huQ_1.symm.trans e9; exact l9
    have kuQ : jk Z uQ 14 := by obtain ⟨b9, e9, k9, -⟩ := sh_f w_I.1 kv0 (j := 10) (k := 14) (m := 6) rfl; cases huQ_1.symm.trans e9; exact k9
    have huL_1 : jr Z v0 11 = some uL := (q_I.2.1 v0 12 11 kv0_0 (by decide) (by decide)).trans huL
    have luL : jlen Z uL = 6 := by obtain ⟨b9, e9, -, l9⟩ := sh_f w_I.1 kv0 (j := 11) (k := 14) (m := 6) rfl; cases huL_1.symm.trans e9; exact l9
    have kuL : jk Z uL 14 := by obtain ⟨b9, e9, k9, -⟩ := sh_f w_I.1 kv0 (j := 11) (k := 14) (m := 6) rfl; cases huL_1.symm.trans e9; exact k9
    have huV_1 : jr Z v0 13 = some uV := (q_I.2.1 v0 12 13 kv0_0 (by decide) (by decide)).trans huV
    have luV : jlen Z uV = 6 := by obtain ⟨b9, e9, -, l9⟩ := sh_f w_I.1 kv0 (j := 13) (k := 14) (m := 6) rfl; cases huV_1.symm.trans e9; exact l9
    have kuV : jk Z uV 14 := by obtain ⟨b9, e9, k9, -⟩ := sh_f w_I.1 kv0 (j := 13) (k := 14) (m := 6) rfl; cases huV_1.symm.trans e9; exact k9
    have xq_I := q_I.1
    have e0 : (I v0 0).toInt = (I0 v0 0).toInt := by rw [q_I.2.2.1 v0 12 0 kv0_0 (by decide) (by decide)]
    have e8 : (I v0 8).toInt = (I0 v0 8).toInt := by rw [q_I.2.2.1 v0 12 8 kv0_0 (by decide) (by decide)]
    have h80 : 0 ≤ (I0 v0 8).toInt ∧ (I0 v0 8).toInt ≤ 6 := w0.fld 12 8 kv0_0 (by decide)
    have h00 : 0 ≤ (I0 v0 0).toInt ∧ (I0 v0 0).toInt ≤ 24 := w0.fld 12 0 kv0_0 (by decide)
    have nv1 := i_nat (x := v1) rfl (by omega)
    have sm : SAME v0 Z0 I0 Z I := SAME_FR w0 kv0_0 q_I (by decide)
    have t4 : 0 ≤ (I v0 8).toInt ∧ (I v0 8).toInt ≤ 6 := w_I.fld 12 8 kv0 (by decide)
    refine ⟨fun c5 => ?_, fun c5 => ?_⟩
    · skip
      first | (have t6 : (I v0 8).toInt ≤ v1.toInt := (i_le rfl rfl).mp c5) | (have t6 : (I v0 8).toInt ≤ v1.toInt := (i_le rfl rfl).mp c5) | skip
      exact hQ  Z I L w_I bd_Z q_I cp_Z (by unfold NUM; by_cases hst : 1 ≤ (I0 v0 0).toInt; (rw [if_pos hst, show (I0 v0 8).toInt.toNat = v1.toNatClampNeg by omega]; exact li1); (rw [if_neg hst]; omega))
    · skip
      first | (have t7 : ¬ ((I v0 8).toInt ≤ v1.toInt) := (not_congr (i_le rfl rfl)).mp c5) | (have t7 : ¬ ((I v0 8).toInt ≤ v1.toInt) := (not_congr (i_le rfl rfl)).mp c5) | skip
      have t9 : 0 ≤ (I v0 0).toInt ∧ (I v0 0).toInt ≤ 24 := w_I.fld 12 0 kv0 (by decide)
      refine ⟨fun c10 => ?_, fun c10 => ?_⟩
      · skip
        first | (have t11 : (I v0 0).toInt ≤ (0) := (i_le rfl (show (0 : Int32).toInt = 0 from rfl)).mp c10) | (have t11 : (I v0 0).toInt ≤ (0 : Int32).toInt := (i_le rfl rfl).mp c10) | skip
        exact hQ  Z I L w_I bd_Z q_I cp_Z (by unfold NUM; by_cases hst : 1 ≤ (I0 v0 0).toInt; (rw [if_pos hst, show (I0 v0 8).toInt.toNat = v1.toNatClampNeg by omega]; exact li1); (rw [if_neg hst]; omega))
      · skip
        first | (have t12 : ¬ ((I v0 0).toInt ≤ (0)) := (not_congr (i_le rfl (show (0 : Int32).toInt = 0 from rfl))).mp c10) | (have t12 : ¬ ((I v0 0).toInt ≤ (0 : Int32).toInt) := (not_congr (i_le rfl rfl)).mp c10) | skip
        obtain ⟨b13, eb13, kb13, lb13⟩ := sh_f w_I.1 kv0 (j := 37) (k := 14) (m := 75) rfl
        obtain ⟨b14, eb14, kb14, lb14⟩ := sh_f w_I.1 kv0 (j := 38) (k := 14) (m := 75) rfl
        obtain ⟨b15, eb15, kb15, lb15⟩ := sh_f w_I.1 kv0 (j := 40) (k := 14) (m := 25000) rfl
        obtain ⟨b16, eb16, kb16, lb16⟩ := sh_f w_I.1 kv0 (j := 44) (k := 14) (m := 24) rfl
        refine s9_X12_findClimb w_I bd_Z v0 v1 kv0 b13 eb13 b14 eb14 b15 eb15 uK huK_1 b16 eb16 uL huL_1 uV huV_1 uQ huQ_1 (by omega) (by omega) (fun r17 Z21 I19 L20 w_I19 bd_Z21 f_I19 c_Z21 p18 => ?_)
        have q_I19 : FR Ws_X12_findAll Z0 I0 Z21 I19 := q_I.trans w0.1 w0.2.1 (f_I19.mono (by decide))
        have cp_Z21 : CP Z0 Z21 := cp_Z.trans q_I.1 c_Z21
        have x_Z21 := f_I19.1
        have k22 := (f_I19.1 _ _ kv0).1
        have k23 := (f_I19.1 _ _ kuK).1
        have l24 := (f_I19.1 _ _ kuK).2.trans luK
        have k25 := (f_I19.1 _ _ kv0).1
        have e26 := (f_I19.2.1 v0 12 9 kv0 (by decide) (by decide)).trans huK_1
        have k27 := (f_I19.1 _ _ kuQ).1
        have l28 := (f_I19.1 _ _ kuQ).2.trans luQ
        have k29 := (f_I19.1 _ _ kv0).1
        have e30 := (f_I19.2.1 v0 12 10 kv0 (by decide) (by decide)).trans huQ_1
        have k31 := (f_I19.1 _ _ kuL).1
        have l32 := (f_I19.1 _ _ kuL).2.trans luL
        have k33 := (f_I19.1 _ _ kv0).1
        have e34 := (f_I19.2.1 v0 12 11 kv0 (by decide) (by decide)).trans huL_1
        have k35 := (f_I19.1 _ _ kuV).1
        have l36 := (f_I19.1 _ _ kuV).2.trans luV
        have k37 := (f_I19.1 _ _ kv0).1
        have e38 := (f_I19.2.1 v0 12 13 kv0 (by decide) (by decide)).trans huV_1
        have k39 := (f_I19.1 _ _ kb13).1
        have l40 := (f_I19.1 _ _ kb13).2.trans lb13
        have k41 := (f_I19.1 _ _ kv0).1
        have e42 := (f_I19.2.1 v0 12 37 kv0 (by decide) (by decide)).trans eb13
        have k43 := (f_I19.1 _ _ kb14).1
        have l44 := (f_I19.1 _ _ kb14).2.trans lb14
        have k45 := (f_I19.1 _ _ kv0).1
        have e46 := (f_I19.2.1 v0 12 38 kv0 (by decide) (by decide)).trans eb14
        have k47 := (f_I19.1 _ _ kb15).1
        have l48 := (f_I19.1 _ _ kb15).2.trans lb15
        have k49 := (f_I19.1 _ _ kv0).1
        have e50 := (f_I19.2.1 v0 12 40 kv0 (by decide) (by decide)).trans eb15
        have k51 := (f_I19.1 _ _ kb16).1
        have l52 := (f_I19.1 _ _ kb16).2.trans lb16
        have k53 := (f_I19.1 _ _ kv0).1
        have e54 := (f_I19.2.1 v0 12 44 kv0 (by decide) (by decide)).trans eb16
        have u55 : (I19 v0 0).toInt = (I v0 0).toInt := by rw [f_I19.2.2.1 v0 12 0 kv0 (by decide) (by decide)]
        have u56 : (I19 v0 8).toInt = (I v0 8).toInt := by rw [f_I19.2.2.1 v0 12 8 kv0 (by decide) (by decide)]
        have u57 : (I19 v0 48).toInt = (I v0 48).toInt := by rw [f_I19.2.2.1 v0 12 48 kv0 (by decide) (by decide)]
        have rr17 := i_rng r17
        have hfc : r17.toInt = 1 ↔ FCi B v0 Z0 I0 v1 := (p18).2.trans ((FCi.iff huK_1 huQ_1 huL_1 huV_1).symm.trans (FCi.same sm).symm)
        have hr1 := (p18).1
        refine ⟨fun c58 => ?_, fun c58 => ?_⟩
        · skip
          first | (have t59 : ¬ (r17.toInt = (0)) := (not_congr (i_eq rfl (show (0 : Int32).toInt = 0 from rfl))).mp c58) | (have t59 : ¬ (r17.toInt = (0 : Int32).toInt) := (not_congr (i_eq rfl rfl)).mp c58) | skip
          intro I60 eI60
          try (have t61 : ((I19 v0 48) + (1 : Int32)).toInt = ((I19 v0 48).toInt + (1)) := (i_add rfl (show (1 : Int32).toInt = 1 from rfl) (by omega) (by omega)))
          have w_I60 : WD Z21 I60 := by rw [eI60]; exact WD_putF w_I19 12 48 k22 (by decide) (by decide) trivial
          have f_I60 : FR [(12, 48)] Z21 I19 Z21 I60 := by rw [eI60]; exact FR_putF k22 (by decide) List.mem_cons_self
          have q_I60 : FR Ws_X12_findAll Z0 I0 Z21 I60 := q_I19.trans w0.1 w0.2.1 (f_I60.mono (by decide))
          have u62 : (I60 v0 0).toInt = (I19 v0 0).toInt := by rw [f_I60.2.2.1 v0 12 0 k22 (by decide) (by decide)]
          have u63 : (I60 v0 8).toInt = (I19 v0 8).toInt := by rw [f_I60.2.2.1 v0 12 8 k22 (by decide) (by decide)]
          first | (have u64 : (I60 v0 48).toInt = ((I19 v0 48).toInt + (1)) := by (rw [eI60, show jpI I19 v0 48 ((I19 v0 48) + (1 : Int32)) v0 48 = ((I19 v0 48) + (1 : Int32)) from jpI_at] <;> exact (i_add rfl (show (1 : Int32).toInt = 1 from rfl) (by omega) (by omega)))) | skip
          intro I65 eI65
          try (have t66 : ((I60 v0 49) + (I60 v0 41)).toInt = ((I60 v0 49).toInt + (I60 v0 41).toInt) := (i_add rfl rfl (by omega) (by omega)))
          have w_I65 : WD Z21 I65 := by rw [eI65]; exact WD_putF w_I60 12 49 k22 (by decide) (by decide) trivial
          have f_I65 : FR [(12, 49)] Z21 I60 Z21 I65 := by rw [eI65]; exact FR_putF k22 (by decide) List.mem_cons_self
          have q_I65 : FR Ws_X12_findAll Z0 I0 Z21 I65 := q_I60.trans w0.1 w0.2.1 (f_I65.mono (by decide))
          have u67 : (I65 v0 0).toInt = (I60 v0 0).toInt := by rw [f_I65.2.2.1 v0 12 0 k22 (by decide) (by decide)]
          have u68 : (I65 v0 8).toInt = (I60 v0 8).toInt := by rw [f_I65.2.2.1 v0 12 8 k22 (by decide) (by decide)]
          have u69 : (I65 v0 48).toInt = (I60 v0 48).toInt := by rw [f_I65.2.2.1 v0 12 48 k22 (by decide) (by decide)]
          have u70 : (I65 v0 41).toInt = (I60 v0 41).toInt := by rw [f_I65.2.2.1 v0 12 41 k22 (by decide) (by decide)]
          first | (have u71 : (I65 v0 49).toInt = ((I60 v0 49).toInt + (I60 v0 41).toInt) := by (rw [eI65, show jpI I60 v0 49 ((I60 v0 49) + (I60 v0 41)) v0 49 = ((I60 v0 49) + (I60 v0 41)) from jpI_at] <;> exact (i_add rfl rfl (by omega) (by omega)))) | skip
          intro I72 eI72
          try (have t73 : ((I65 v0 50) + (I65 v0 42)).toInt = ((I65 v0 50).toInt + (I65 v0 42).toInt) := (i_add rfl rfl (by omega) (by omega)))
          have w_I72 : WD Z21 I72 := by rw [eI72]; exact WD_putF w_I65 12 50 k22 (by decide) (by decide) trivial
          have f_I72 : FR [(12, 50)] Z21 I65 Z21 I72 := by rw [eI72]; exact FR_putF k22 (by decide) List.mem_cons_self
          have q_I72 : FR Ws_X12_findAll Z0 I0 Z21 I72 := q_I65.trans w0.1 w0.2.1 (f_I72.mono (by decide))
          have u74 : (I72 v0 0).toInt = (I65 v0 0).toInt := by rw [f_I72.2.2.1 v0 12 0 k22 (by decide) (by decide)]
          have u75 : (I72 v0 8).toInt = (I65 v0 8).toInt := by rw [f_I72.2.2.1 v0 12 8 k22 (by decide) (by decide)]
          have u76 : (I72 v0 48).toInt = (I65 v0 48).toInt := by rw [f_I72.2.2.1 v0 12 48 k22 (by decide) (by decide)]
          have u77 : (I72 v0 41).toInt = (I65 v0 41).toInt := by rw [f_I72.2.2.1 v0 12 41 k22 (by decide) (by decide)]
          have u78 : (I72 v0 49).toInt = (I65 v0 49).toInt := by rw [f_I72.2.2.1 v0 12 49 k22 (by decide) (by decide)]
          have u79 : (I72 v0 42).toInt = (I65 v0 42).toInt := by rw [f_I72.2.2.1 v0 12 42 k22 (by decide) (by decide)]
          first | (have u80 : (I72 v0 50).toInt = ((I65 v0 50).toInt + (I65 v0 42).toInt) := by (rw [eI72, show jpI I65 v0 50 ((I65 v0 50) + (I65 v0 42)) v0 50 = ((I65 v0 50) + (I65 v0 42)) from jpI_at] <;> exact (i_add rfl rfl (by omega) (by omega)))) | skip
          unfold f_X12_findAll_b79
          intro x81 ex81
          have rx81 := i_rng x81
          first | (have tx81 : x81.toInt = v1.toInt + (1) := by (rw [ex81]; exact (i_add rfl (show (1 : Int32).toInt = 1 from rfl) (by omega) (by omega)))) | skip
          exact ih x81 Z21 I72 L20 w_I72 bd_Z21 q_I72 cp_Z21   (by first | (refine ⟨by omega, ?_⟩; rw [show (0 : Int32).toNatClampNeg = 0 from rfl]; show _ = (0 : Int); omega) | (refine ⟨by omega, ?_⟩; rw [show (x81).toNatClampNeg = v1.toNatClampNeg + 1 by (have h9 := i_nat (x := x81) rfl (by omega); omega)]; first | (rw [(CFN_step (by omega) (by omega)).1 (hfc.mp (by omega)), ← li1]; omega) | (rw [(CFN_step (by omega) (by omega)).2 (fun h => by (have h9 := hfc.mpr h; omega)), ← li1]; omega)))  (by omega)
        · skip
          first | (have t82 : r17.toInt = (0) := (i_eq rfl (show (0 : Int32).toInt = 0 from rfl)).mp c58) | (have t82 : r17.toInt = (0 : Int32).toInt := (i_eq rfl rfl).mp c58) | skip
          unfold f_X12_findAll_b79
          intro x83 ex83
          have rx83 := i_rng x83
          first | (have tx83 : x83.toInt = v1.toInt + (1) := by (rw [ex83]; exact (i_add rfl (show (1 : Int32).toInt = 1 from rfl) (by omega) (by omega)))) | skip
          exact ih x83 Z21 I19 L20 w_I19 bd_Z21 q_I19 cp_Z21   (by first | (refine ⟨by omega, ?_⟩; rw [show (0 : Int32).toNatClampNeg = 0 from rfl]; show _ = (0 : Int); omega) | (refine ⟨by omega, ?_⟩; rw [show (x83).toNatClampNeg = v1.toNatClampNeg + 1 by (have h9 := i_nat (x := x83) rfl (by omega); omega)]; first | (rw [(CFN_step (by omega) (by omega)).1 (hfc.mp (by omega)), ← li1]; omega) | (rw [(CFN_step (by omega) (by omega)).2 (fun h => by (have h9 := hfc.mpr h; omega)), ← li1]; omega)))  (by omega)
set_option maxHeartbeats 4000000 in
set_option maxRecDepth 100000 in
theorem s9_X12_findAll {B : Nat × Nat} {T : Nat} {Z : jZ} {I : jI} {L : jL} (w_I : WD Z I) (bd_Z : BUD B Z T) (v0 : Nat) (kv0 : jk Z v0 12) (uK : Nat) (huK : jr Z v0 9 = some uK) (uQ : Nat) (huQ : jr Z v0 10 = some uQ) (uL : Nat) (huL : jr Z v0 11 = some uL) (uV : Nat) (huV : jr Z v0 13 = some uV) {Q : jZ → jI → jL → Prop} (hQ : ∀  (Z' : jZ) (I' : jI) (L' : jL), WD Z' I' → BUD B Z' T → FR Ws_X12_findAll Z I Z' I' → CP Z Z' → (I' v0 48).toInt = NUM B v0 Z I → Q Z' I' L') : f_X12_findAll B v0 Z I L Q := by
  unfold f_X12_findAll
  have q_I : FR Ws_X12_findAll Z I Z I := FR.rf
  have cp_Z : CP Z Z := CP.rf
  have t84 : 0 ≤ (I v0 0).toInt ∧ (I v0 0).toInt ≤ 24 := w_I.fld 12 0 kv0 (by decide)
  have t85 : 0 ≤ (I v0 8).toInt ∧ (I v0 8).toInt ≤ 6 := w_I.fld 12 8 kv0 (by decide)
  have luK : jlen Z uK = 6 := by obtain ⟨b9, e9, -, l9⟩ := sh_f w_I.1 kv0 (j := 9) (k := 14) (m := 6) rfl; cases huK.symm.trans e9; exact l9
  have kuK : jk Z uK 14 := by obtain ⟨b9, e9, k9, -⟩ := sh_f w_I.1 kv0 (j := 9) (k := 14) (m := 6) rfl; cases huK.symm.trans e9; exact k9
  have luQ : jlen Z uQ = 6 := by obtain ⟨b9, e9, -, l9⟩ := sh_f w_I.1 kv0 (j := 10) (k := 14) (m := 6) rfl; cases huQ.symm.trans e9; exact l9
  have kuQ : jk Z uQ 14 := by obtain ⟨b9, e9, k9, -⟩ := sh_f w_I.1 kv0 (j := 10) (k := 14) (m := 6) rfl; cases huQ.symm.trans e9; exact k9
  have luL : jlen Z uL = 6 := by obtain ⟨b9, e9, -, l9⟩ := sh_f w_I.1 kv0 (j := 11) (k := 14) (m := 6) rfl; cases huL.symm.trans e9; exact l9
  have kuL : jk Z uL 14 := by obtain ⟨b9, e9, k9, -⟩ := sh_f w_I.1 kv0 (j := 11) (k := 14) (m := 6) rfl; cases huL.symm.trans e9; exact k9
  have luV : jlen Z uV = 6 := by obtain ⟨b9, e9, -, l9⟩ := sh_f w_I.1 kv0 (j := 13) (k := 14) (m := 6) rfl; cases huV.symm.trans e9; exact l9
  have kuV : jk Z uV 14 := by obtain ⟨b9, e9, k9, -⟩ := sh_f w_I.1 kv0 (j := 13) (k := 14) (m := 6) rfl; cases huV.symm.trans e9; exact k9
  intro I86 eI86
  have t87 : (0 : Int32).toInt = 0 := rfl
  have w_I86 : WD Z I86 := by rw [eI86]; exact WD_putF w_I 12 48 kv0 (by decide) (by decide) trivial
  have f_I86 : FR [(12, 48)] Z I Z I86 := by rw [eI86]; exact FR_putF kv0 (by decide) List.mem_cons_self
  have q_I86 : FR Ws_X12_findAll Z I Z I86 := q_I.trans w_I.1 w_I.2.1 (f_I86.mono (by decide))
  have u88 : (I86 v0 0).toInt = (I v0 0).toInt := by rw [f_I86.2.2.1 v0 12 0 kv0 (by decide) (by decide)]
  have u89 : (I86 v0 8).toInt = (I v0 8).toInt := by rw [f_I86.2.2.1 v0 12 8 kv0 (by decide) (by decide)]
  first | (have u90 : (I86 v0 48).toInt = (0) := by (rw [eI86, show jpI I v0 48 (0 : Int32) v0 48 = (0 : Int32) from jpI_at] <;> exact (show (0 : Int32).toInt = 0 from rfl))) | skip
  intro I91 eI91
  have t92 : (0 : Int32).toInt = 0 := rfl
  have w_I91 : WD Z I91 := by rw [eI91]; exact WD_putF w_I86 12 49 kv0 (by decide) (by decide) trivial
  have f_I91 : FR [(12, 49)] Z I86 Z I91 := by rw [eI91]; exact FR_putF kv0 (by decide) List.mem_cons_self
  have q_I91 : FR Ws_X12_findAll Z I Z I91 := q_I86.trans w_I.1 w_I.2.1 (f_I91.mono (by decide))
  have u93 : (I91 v0 0).toInt = (I86 v0 0).toInt := by rw [f_I91.2.2.1 v0 12 0 kv0 (by decide) (by decide)]
  have u94 : (I91 v0 8).toInt = (I86 v0 8).toInt := by rw [f_I91.2.2.1 v0 12 8 kv0 (by decide) (by decide)]
  have u95 : (I91 v0 48).toInt = (I86 v0 48).toInt := by rw [f_I91.2.2.1 v0 12 48 kv0 (by decide) (by decide)]
  first | (have u96 : (I91 v0 49).toInt = (0) := by (rw [eI91, show jpI I86 v0 49 (0 : Int32) v0 49 = (0 : Int32) from jpI_at] <;> exact (show (0 : Int32).toInt = 0 from rfl))) | skip
  intro I97 eI97
  have t98 : (0 : Int32).toInt = 0 := rfl
  have w_I97 : WD Z I97 := by rw [eI97]; exact WD_putF w_I91 12 50 kv0 (by decide) (by decide) trivial
  have f_I97 : FR [(12, 50)] Z I91 Z I97 := by rw [eI97]; exact FR_putF kv0 (by decide) List.mem_cons_self
  have q_I97 : FR Ws_X12_findAll Z I Z I97 := q_I91.trans w_I.1 w_I.2.1 (f_I97.mono (by decide))
  have u99 : (I97 v0 0).toInt = (I91 v0 0).toInt := by rw [f_I97.2.2.1 v0 12 0 kv0 (by decide) (by decide)]
  have u100 : (I97 v0 8).toInt = (I91 v0 8).toInt := by rw [f_I97.2.2.1 v0 12 8 kv0 (by decide) (by decide)]
  have u101 : (I97 v0 48).toInt = (I91 v0 48).toInt := by rw [f_I97.2.2.1 v0 12 48 kv0 (by decide) (by decide)]
  have u102 : (I97 v0 49).toInt = (I91 v0 49).toInt := by rw [f_I97.2.2.1 v0 12 49 kv0 (by decide) (by decide)]
  first | (have u103 : (I97 v0 50).toInt = (0) := by (rw [eI97, show jpI I91 v0 50 (0 : Int32) v0 50 = (0 : Int32) from jpI_at] <;> exact (show (0 : Int32).toInt = 0 from rfl))) | skip
  have t104 : (0 : Int32).toInt = 0 := rfl
  exact ⟨(6 - (0 : Int32).toInt).toNat + 1, l9_X12_findAll_L17 w_I v0 kv0 uK huK uQ huQ uL huL uV huV   hQ   _ (0 : Int32) Z I97 L w_I97 bd_Z q_I97 cp_Z   (by first | (refine ⟨by omega, ?_⟩; rw [show (0 : Int32).toNatClampNeg = 0 from rfl]; show _ = (0 : Int); omega) | (refine ⟨by omega, ?_⟩; rw [show ((0 : Int32)).toNatClampNeg = v1.toNatClampNeg + 1 by (have h9 := i_nat (x := (0 : Int32)) rfl (by omega); omega)]; first | (rw [(CFN_step (by omega) (by omega)).1 (hfc.mp (by omega)), ← li1]; omega) | (rw [(CFN_step (by omega) (by omega)).2 (fun h => by (have h9 := hfc.mpr h; omega)), ← li1]; omega)))  (by omega)⟩
def Ws_X12_toll : List (Nat × Nat) := [(12, 3), (12, 21), (12, 22), (12, 24), (12, 25), (12, 26), (12, 27), (12, 31), (12, 32), (12, 33), (12, 34), (12, 37), (12, 38), (12, 40), (12, 41), (12, 42), (12, 43), (12, 44), (12, 48), (12, 49), (12, 50)]
set_option maxHeartbeats 4000000 in
set_option maxRecDepth 100000 in
theorem l_X12_toll_L54 {B : Nat × Nat} {T : Nat} {Z0 : jZ} {I0 : jI} {Q : Int32 → jZ → jI → jL → Prop} (w0 : WD Z0 I0) (v0 : Nat) (v1 : Int32) (kv0 : jk Z0 v0 12) (uA : Nat) (huA : jr Z0 v0 3 = some uA) (v2 : Int32) (v3 : Int32) (hQ : ∀ (r : Int32) (Z' : jZ) (I' : jI) (L' : jL), WD Z' I' → BUD B Z' T → FR Ws_X12_toll Z0 I0 Z' I' → CP Z0 Z' → Q r Z' I' L') : ∀ (n : Nat) (v4 : Int32) (Z : jZ) (I : jI) (L : jL), WD Z I → BUD B Z T → FR Ws_X12_toll Z0 I0 Z I → CP Z0 Z →   ((0 ≤ v4.toInt ∧ v4.toInt ≤ 20 ∧ 0 ≤ v1.toInt ∧ v1.toInt ≤ 23 ∧ 0 ≤ v2.toInt ∧ v2.toInt ≤ 20 ∧ (I uA v1.toNatClampNeg).toInt = v4.toInt) ∧ (I v0 48).toInt = NUM B v0 Z I ∧ v3.toInt = NUM B v0 Z (jpI I uA v1.toNatClampNeg 0)) → v4.toInt < (n : Int) → f_X12_toll_L54 B  Q n v0 v1 v2 v3 v4 Z I L := by
  intro n
  induction n with
  | zero =>
    intro v4 Z I L w_I bd_Z q_I cp_Z   li  me
    exfalso
    omega
  | succ n ih =>
    intro v4 Z I L w_I bd_Z q_I cp_Z   li  me
    unfold f_X12_toll_L54
    have rv4 := i_rng v4
    have rv2 := i_rng v2
    have rv3 := i_rng v3
    have rv1 := i_rng v1
    obtain ⟨li0, li1, li2⟩ := li
    have kv0_0 := kv0
    have kv0 := (q_I.1 _ _ kv0).1
    have t1 : 0 ≤ (I v0 0).toInt ∧ (I v0 0).toInt ≤ 24 := w_I.fld 12 0 kv0 (by decide)
    have huA_1 : jr Z v0 3 = some uA := (q_I.2.1 v0 12 3 kv0_0 (by decide) (by decide)).trans huA
    have luA : jlen Z uA = 24 := by obtain ⟨b9, e9, -, l9⟩ := sh_f w_I.1 kv0 (j := 3) (k := 14) (m := 24) rfl; cases huA_1.symm.trans e9; exact l9
    have kuA : jk Z uA 14 := by obtain ⟨b9, e9, k9, -⟩ := sh_f w_I.1 kv0 (j := 3) (k := 14) (m := 24) rfl; cases huA_1.symm.trans e9; exact k9
    have xq_I := q_I.1
    refine ⟨fun c2 => ?_, fun c2 => ?_⟩
    · skip
      first | (have t3 : (I v0 48).toInt = v3.toInt := (i_eq rfl rfl).mp c2) | (have t3 : (I v0 48).toInt = v3.toInt := (i_eq rfl rfl).mp c2) | skip
      intro b4 eb4
      obtain rfl : uA = b4 := Option.some.inj (huA_1.symm.trans eb4)
      have o5 : vp_in v1 24 := vi_of rfl (by omega) (by omega)
      refine ⟨o5, ?_⟩
      intro I6 eI6
      have w_I6 : WD Z I6 := by rw [eI6]; exact WD_putA w_I 12 3 kv0 huA_1 kuA rfl rfl (by decide) (by constructor <;> omega)
      have ao_I6_uA : ∀ q, q ≠ v1.toNatClampNeg → I6 uA q = I uA q := fun q hq => by rw [eI6]; exact jpI_off hq
      first | (have u7 : (I6 uA (v1.toNatClampNeg)).toInt = v2.toInt := by (rw [eI6, show jpI I uA v1.toNatClampNeg v2 uA v1.toNatClampNeg = v2 from jpI_at] <;> exact rfl)) | skip
      have f_I6 : FR [(12, 3)] Z I Z I6 := by rw [eI6]; exact FR_upA w_I.2.1 kv0 huA_1 kuA rfl rfl List.mem_cons_self
      have q_I6 : FR Ws_X12_toll Z0 I0 Z I6 := q_I.trans w0.1 w0.2.1 (f_I6.mono (by decide))
      have u8 : (I6 v0 0).toInt = (I v0 0).toInt := by rw [f_I6.2.2.1 v0 12 0 kv0 (by decide) (by decide)]
      have u9 : (I6 v0 48).toInt = (I v0 48).toInt := by rw [f_I6.2.2.1 v0 12 48 kv0 (by decide) (by decide)]
      intro I10 eI10
      have t11 : (0 : Int32).toInt = 0 := rfl
      have w_I10 : WD Z I10 := by rw [eI10]; exact WD_putF w_I6 12 21 kv0 (by decide) (by decide) (by constructor <;> omega)
      have f_I10 : FR [(12, 21)] Z I6 Z I10 := by rw [eI10]; exact FR_putF kv0 (by decide) List.mem_cons_self
      have q_I10 : FR Ws_X12_toll Z0 I0 Z I10 := q_I6.trans w0.1 w0.2.1 (f_I10.mono (by decide))
      have ao_I10_uA : ∀ q, q ≠ v1.toNatClampNeg → I10 uA q = I uA q := fun q hq => by rw [f_I10.2.2.2 v0 12 3 uA kv0 huA_1 (by rw [kuA.2]; rfl) rfl (by decide)]; exact ao_I6_uA q hq
      have u12 : (I10 uA (v1.toNatClampNeg)).toInt = (I6 uA (v1.toNatClampNeg)).toInt := by rw [f_I10.2.2.2 v0 12 3 uA kv0 huA_1 (by rw [kuA.2]; rfl) rfl (by decide)]
      have u13 : (I10 v0 0).toInt = (I6 v0 0).toInt := by rw [f_I10.2.2.1 v0 12 0 kv0 (by decide) (by decide)]
      have u14 : (I10 v0 48).toInt = (I6 v0 48).toInt := by rw [f_I10.2.2.1 v0 12 48 kv0 (by decide) (by decide)]
      first | (have u15 : (I10 v0 21).toInt = (0) := by (rw [eI10, show jpI I6 v0 21 (0 : Int32) v0 21 = (0 : Int32) from jpI_at] <;> exact (show (0 : Int32).toInt = 0 from rfl))) | skip
      refine s_X12_tell w_I10 v0 (v3.toInt64) kv0  (by omega) (fun  I17 L18 w_I17 f_I17 p16 => ?_)
      have q_I17 : FR Ws_X12_toll Z0 I0 Z I17 := q_I10.trans w0.1 w0.2.1 (f_I17.mono (by decide))
      have ao_I17_uA : ∀ q, q ≠ v1.toNatClampNeg → I17 uA q = I uA q := fun q hq => by rw [f_I17.2.2.2 v0 12 3 uA kv0 huA_1 (by rw [kuA.2]; rfl) rfl (by decide)]; exact ao_I10_uA q hq
      have u19 : (I17 uA (v1.toNatClampNeg)).toInt = (I10 uA (v1.toNatClampNeg)).toInt := by rw [f_I17.2.2.2 v0 12 3 uA kv0 huA_1 (by rw [kuA.2]; rfl) rfl (by decide)]
      have u20 : (I17 v0 0).toInt = (I10 v0 0).toInt := by rw [f_I17.2.2.1 v0 12 0 kv0 (by decide) (by decide)]
      have u21 : (I17 v0 48).toInt = (I10 v0 48).toInt := by rw [f_I17.2.2.1 v0 12 48 kv0 (by decide) (by decide)]
      exact hQ v4 Z I17 L18 w_I17 bd_Z q_I17 cp_Z 
    · skip
      first | (have t22 : ¬ ((I v0 48).toInt = v3.toInt) := (not_congr (i_eq rfl rfl)).mp c2) | (have t22 : ¬ ((I v0 48).toInt = v3.toInt) := (not_congr (i_eq rfl rfl)).mp c2) | skip
      have hv4 : ¬ v4.toInt = 0 := fun h => by (have e9 : jpI I uA v1.toNatClampNeg 0 = I := jpI_id ((i_eq rfl (show (0 : Int32).toInt = 0 from rfl)).mpr (by omega)); rw [e9] at li2; omega)
      intro x23 ex23
      have rx23 := i_rng x23
      first | (have tx23 : x23.toInt = v4.toInt + (-1) := by (rw [ex23]; exact (i_add rfl (show (-1 : Int32).toInt = -1 from rfl) (by omega) (by omega)))) | skip
      intro b24 eb24
      obtain rfl : uA = b24 := Option.some.inj (huA_1.symm.trans eb24)
      have o25 : vp_in v1 24 := vi_of rfl (by omega) (by omega)
      refine ⟨o25, ?_⟩
      intro I26 eI26
      have w_I26 : WD Z I26 := by rw [eI26]; exact WD_putA w_I 12 3 kv0 huA_1 kuA rfl rfl (by decide) (by constructor <;> omega)
      have ao_I26_uA : ∀ q, q ≠ v1.toNatClampNeg → I26 uA q = I uA q := fun q hq => by rw [eI26]; exact jpI_off hq
      first | (have u27 : (I26 uA (v1.toNatClampNeg)).toInt = x23.toInt := by (rw [eI26, show jpI I uA v1.toNatClampNeg x23 uA v1.toNatClampNeg = x23 from jpI_at] <;> exact rfl)) | skip
      have f_I26 : FR [(12, 3)] Z I Z I26 := by rw [eI26]; exact FR_upA w_I.2.1 kv0 huA_1 kuA rfl rfl List.mem_cons_self
      have q_I26 : FR Ws_X12_toll Z0 I0 Z I26 := q_I.trans w0.1 w0.2.1 (f_I26.mono (by decide))
      have u28 : (I26 v0 0).toInt = (I v0 0).toInt := by rw [f_I26.2.2.1 v0 12 0 kv0 (by decide) (by decide)]
      have u29 : (I26 v0 48).toInt = (I v0 48).toInt := by rw [f_I26.2.2.1 v0 12 48 kv0 (by decide) (by decide)]
      have w9 := w_I26
      have ow9 : jpI I26 uA v1.toNatClampNeg 0 = jpI I uA v1.toNatClampNeg 0 := by rw [eI26]; exact jpI_ow
      obtain ⟨b30, eb30, kb30, lb30⟩ := sh_f w_I26.1 kv0 (j := 9) (k := 14) (m := 6) rfl
      obtain ⟨b31, eb31, kb31, lb31⟩ := sh_f w_I26.1 kv0 (j := 10) (k := 14) (m := 6) rfl
      obtain ⟨b32, eb32, kb32, lb32⟩ := sh_f w_I26.1 kv0 (j := 11) (k := 14) (m := 6) rfl
      obtain ⟨b33, eb33, kb33, lb33⟩ := sh_f w_I26.1 kv0 (j := 13) (k := 14) (m := 6) rfl
      refine s9_X12_findAll w_I26 bd_Z v0 kv0 b30 eb30 b31 eb31 b32 eb32 b33 eb33  (fun  Z37 I35 L36 w_I35 bd_Z37 f_I35 c_Z37 p34 => ?_)
      have q_I35 : FR Ws_X12_toll Z0 I0 Z37 I35 := q_I26.trans w0.1 w0.2.1 (f_I35.mono (by decide))
      have cp_Z37 : CP Z0 Z37 := cp_Z.trans q_I26.1 c_Z37
      have x_Z37 := f_I35.1
      have k38 := (f_I35.1 _ _ kv0).1
      have k39 := (f_I35.1 _ _ kuA).1
      have l40 := (f_I35.1 _ _ kuA).2.trans luA
      have k41 := (f_I35.1 _ _ kv0).1
      have e42 := (f_I35.2.1 v0 12 3 kv0 (by decide) (by decide)).trans huA_1
      have k43 := (f_I35.1 _ _ kb30).1
      have l44 := (f_I35.1 _ _ kb30).2.trans lb30
      have k45 := (f_I35.1 _ _ kv0).1
      have e46 := (f_I35.2.1 v0 12 9 kv0 (by decide) (by decide)).trans eb30
      have k47 := (f_I35.1 _ _ kb31).1
      have l48 := (f_I35.1 _ _ kb31).2.trans lb31
      have k49 := (f_I35.1 _ _ kv0).1
      have e50 := (f_I35.2.1 v0 12 10 kv0 (by decide) (by decide)).trans eb31
      have k51 := (f_I35.1 _ _ kb32).1
      have l52 := (f_I35.1 _ _ kb32).2.trans lb32
      have k53 := (f_I35.1 _ _ kv0).1
      have e54 := (f_I35.2.1 v0 12 11 kv0 (by decide) (by decide)).trans eb32
      have k55 := (f_I35.1 _ _ kb33).1
      have l56 := (f_I35.1 _ _ kb33).2.trans lb33
      have k57 := (f_I35.1 _ _ kv0).1
      have e58 := (f_I35.2.1 v0 12 13 kv0 (by decide) (by decide)).trans eb33
      have ao_I35_uA : ∀ q, q ≠ v1.toNatClampNeg → I35 uA q = I uA q := fun q hq => by rw [f_I35.2.2.2 v0 12 3 uA kv0 huA_1 (by rw [kuA.2]; rfl) rfl (by decide)]; exact ao_I26_uA q hq
      have u59 : (I35 uA (v1.toNatClampNeg)).toInt = (I26 uA (v1.toNatClampNeg)).toInt := by rw [f_I35.2.2.2 v0 12 3 uA kv0 huA_1 (by rw [kuA.2]; rfl) rfl (by decide)]
      have u60 : (I35 v0 0).toInt = (I26 v0 0).toInt := by rw [f_I35.2.2.1 v0 12 0 kv0 (by decide) (by decide)]
      exact ih x23 Z37 I35 L36 w_I35 bd_Z37 q_I35 cp_Z37   (by first | (have sm2 := SAME_FR w9 kv0 f_I35 (by decide); exact ⟨by omega, (p34).trans (NUM_same sm2), li2.trans ((congrArg (NUM B v0 _) ow9).symm.trans (NUM_same (sm2.put huA_1 v1.toNatClampNeg 0)))⟩) | (have sm2 := SAME_FR w8 k8 f_I35 (by decide); exact ⟨by omega, (p34).trans (NUM_same sm2), du2.trans ((congrArg (NUM B v0 _) ow8).symm.trans (NUM_same (sm2.put h8 v1.toNatClampNeg 0)))⟩))  (by omega)
set_option maxHeartbeats 4000000 in
set_option maxRecDepth 100000 in
theorem s_X12_toll {B : Nat × Nat} {T : Nat} {Z : jZ} {I : jI} {L : jL} (w_I : WD Z I) (bd_Z : BUD B Z T) (v0 : Nat) (v1 : Int32) (kv0 : jk Z v0 12) (uA : Nat) (huA : jr Z v0 3 = some uA) {Q : Int32 → jZ → jI → jL → Prop} (hQ : ∀ (r : Int32) (Z' : jZ) (I' : jI) (L' : jL), WD Z' I' → BUD B Z' T → FR Ws_X12_toll Z I Z' I' → CP Z Z' → Q r Z' I' L') : f_X12_toll B v0 v1 Z I L Q := by
  unfold f_X12_toll
  have q_I : FR Ws_X12_toll Z I Z I := FR.rf
  have cp_Z : CP Z Z := CP.rf
  have rv1 := i_rng v1
  have t61 : 0 ≤ (I v0 0).toInt ∧ (I v0 0).toInt ≤ 24 := w_I.fld 12 0 kv0 (by decide)
  have luA : jlen Z uA = 24 := by obtain ⟨b9, e9, -, l9⟩ := sh_f w_I.1 kv0 (j := 3) (k := 14) (m := 24) rfl; cases huA.symm.trans e9; exact l9
  have kuA : jk Z uA 14 := by obtain ⟨b9, e9, k9, -⟩ := sh_f w_I.1 kv0 (j := 3) (k := 14) (m := 24) rfl; cases huA.symm.trans e9; exact k9
  intro I62 eI62
  have t63 : (0 : Int32).toInt = 0 := rfl
  have w_I62 : WD Z I62 := by rw [eI62]; exact WD_putF w_I 12 22 kv0 (by decide) (by decide) trivial
  have f_I62 : FR [(12, 22)] Z I Z I62 := by rw [eI62]; exact FR_putF kv0 (by decide) List.mem_cons_self
  have q_I62 : FR Ws_X12_toll Z I Z I62 := q_I.trans w_I.1 w_I.2.1 (f_I62.mono (by decide))
  have ao_I62_uA : I62 uA = I uA := f_I62.2.2.2 v0 12 3 uA kv0 huA (by rw [kuA.2]; rfl) rfl (by decide)
  have u64 : (I62 v0 0).toInt = (I v0 0).toInt := by rw [f_I62.2.2.1 v0 12 0 kv0 (by decide) (by decide)]
  have u65 : (I62 v0 48).toInt = (I v0 48).toInt := by rw [f_I62.2.2.1 v0 12 48 kv0 (by decide) (by decide)]
  first | (have u66 : (I62 v0 22).toInt = (0) := by (rw [eI62, show jpI I v0 22 (0 : Int32) v0 22 = (0 : Int32) from jpI_at] <;> exact (show (0 : Int32).toInt = 0 from rfl))) | skip
  refine s_X12_isStep w_I62 v0 v1 kv0   (fun r67 p68 => ?_)
  have rr67 := i_rng r67
  refine ⟨fun c69 => ?_, fun c69 => ?_⟩
  · skip
    first | (have t70 : ¬ (r67.toInt = (0)) := (not_congr (i_eq rfl (show (0 : Int32).toInt = 0 from rfl))).mp c69) | (have t70 : ¬ (r67.toInt = (0 : Int32).toInt) := (not_congr (i_eq rfl rfl)).mp c69) | skip
    intro b71 eb71
    obtain rfl : uA = b71 := Option.some.inj (huA.symm.trans eb71)
    have o72 : vp_in v1 24 := vi_of rfl (by omega) (by omega)
    refine ⟨o72, ?_⟩
    have t73 : 0 ≤ (I62 uA v1.toNatClampNeg).toInt ∧ (I62 uA v1.toNatClampNeg).toInt ≤ 20 := w_I62.arr 12 3 kv0 huA kuA rfl rfl _
    intro x74 ex74
    have rx74 := i_rng x74
    first | (have tx74 : x74.toInt = (I62 uA v1.toNatClampNeg).toInt := by (rw [ex74]; exact rfl)) | (have tx74 : x74.toInt = (I62 uA v1.toNatClampNeg).toInt := by rw [ex74])
    intro b75 eb75
    obtain rfl : uA = b75 := Option.some.inj (huA.symm.trans eb75)
    have o76 : vp_in v1 24 := vi_of rfl (by omega) (by omega)
    refine ⟨o76, ?_⟩
    intro I77 eI77
    have t78 : (0 : Int32).toInt = 0 := rfl
    have w_I77 : WD Z I77 := by rw [eI77]; exact WD_putA w_I62 12 3 kv0 huA kuA rfl rfl (by decide) (by constructor <;> omega)
    have ao_I77_uA : ∀ q, q ≠ v1.toNatClampNeg → I77 uA q = I uA q := fun q hq => by rw [eI77, jpI_off hq, ao_I62_uA]
    first | (have u79 : (I77 uA (v1.toNatClampNeg)).toInt = (0) := by (rw [eI77, show jpI I62 uA v1.toNatClampNeg (0 : Int32) uA v1.toNatClampNeg = (0 : Int32) from jpI_at] <;> exact (show (0 : Int32).toInt = 0 from rfl))) | skip
    have f_I77 : FR [(12, 3)] Z I62 Z I77 := by rw [eI77]; exact FR_upA w_I62.2.1 kv0 huA kuA rfl rfl List.mem_cons_self
    have q_I77 : FR Ws_X12_toll Z I Z I77 := q_I62.trans w_I.1 w_I.2.1 (f_I77.mono (by decide))
    have u80 : (I77 v0 0).toInt = (I62 v0 0).toInt := by rw [f_I77.2.2.1 v0 12 0 kv0 (by decide) (by decide)]
    have u81 : (I77 v0 48).toInt = (I62 v0 48).toInt := by rw [f_I77.2.2.1 v0 12 48 kv0 (by decide) (by decide)]
    have u82 : (I77 v0 22).toInt = (I62 v0 22).toInt := by rw [f_I77.2.2.1 v0 12 22 kv0 (by decide) (by decide)]
    have w9 := w_I77
    have id9 : jpI I77 uA v1.toNatClampNeg 0 = I77 := by rw [eI77]; exact jpI_ow
    obtain ⟨b83, eb83, kb83, lb83⟩ := sh_f w_I77.1 kv0 (j := 9) (k := 14) (m := 6) rfl
    obtain ⟨b84, eb84, kb84, lb84⟩ := sh_f w_I77.1 kv0 (j := 10) (k := 14) (m := 6) rfl
    obtain ⟨b85, eb85, kb85, lb85⟩ := sh_f w_I77.1 kv0 (j := 11) (k := 14) (m := 6) rfl
    obtain ⟨b86, eb86, kb86, lb86⟩ := sh_f w_I77.1 kv0 (j := 13) (k := 14) (m := 6) rfl
    refine s9_X12_findAll w_I77 bd_Z v0 kv0 b83 eb83 b84 eb84 b85 eb85 b86 eb86  (fun  Z90 I88 L89 w_I88 bd_Z90 f_I88 c_Z90 p87 => ?_)
    have q_I88 : FR Ws_X12_toll Z I Z90 I88 := q_I77.trans w_I.1 w_I.2.1 (f_I88.mono (by decide))
    have cp_Z90 : CP Z Z90 := cp_Z.trans q_I77.1 c_Z90
    have x_Z90 := f_I88.1
    have k91 := (f_I88.1 _ _ kv0).1
    have k92 := (f_I88.1 _ _ kuA).1
    have l93 := (f_I88.1 _ _ kuA).2.trans luA
    have k94 := (f_I88.1 _ _ kv0).1
    have e95 := (f_I88.2.1 v0 12 3 kv0 (by decide) (by decide)).trans huA
    have k96 := (f_I88.1 _ _ kb83).1
    have l97 := (f_I88.1 _ _ kb83).2.trans lb83
    have k98 := (f_I88.1 _ _ kv0).1
    have e99 := (f_I88.2.1 v0 12 9 kv0 (by decide) (by decide)).trans eb83
    have k100 := (f_I88.1 _ _ kb84).1
    have l101 := (f_I88.1 _ _ kb84).2.trans lb84
    have k102 := (f_I88.1 _ _ kv0).1
    have e103 := (f_I88.2.1 v0 12 10 kv0 (by decide) (by decide)).trans eb84
    have k104 := (f_I88.1 _ _ kb85).1
    have l105 := (f_I88.1 _ _ kb85).2.trans lb85
    have k106 := (f_I88.1 _ _ kv0).1
    have e107 := (f_I88.2.1 v0 12 11 kv0 (by decide) (by decide)).trans eb85
    have k108 := (f_I88.1 _ _ kb86).1
    have l109 := (f_I88.1 _ _ kb86).2.trans lb86
    have k110 := (f_I88.1 _ _ kv0).1
    have e111 := (f_I88.2.1 v0 12 13 kv0 (by decide) (by decide)).trans eb86
    have ao_I88_uA : ∀ q, q ≠ v1.toNatClampNeg → I88 uA q = I uA q := fun q hq => by rw [f_I88.2.2.2 v0 12 3 uA kv0 huA (by rw [kuA.2]; rfl) rfl (by decide)]; exact ao_I77_uA q hq
    have u112 : (I88 uA (v1.toNatClampNeg)).toInt = (I77 uA (v1.toNatClampNeg)).toInt := by rw [f_I88.2.2.2 v0 12 3 uA kv0 huA (by rw [kuA.2]; rfl) rfl (by decide)]
    have u113 : (I88 v0 0).toInt = (I77 v0 0).toInt := by rw [f_I88.2.2.1 v0 12 0 kv0 (by decide) (by decide)]
    have u114 : (I88 v0 22).toInt = (I77 v0 22).toInt := by rw [f_I88.2.2.1 v0 12 22 kv0 (by decide) (by decide)]
    have sm1 := SAME_FR w9 kv0 f_I88 (by decide)
    have ph1 := p87
    have du1 : (I88 v0 48).toInt = NUM B v0 Z90 (jpI I88 uA v1.toNatClampNeg 0) := by rw [← NUM_same (B := B) (sm1.put huA v1.toNatClampNeg 0), id9]; exact ph1
    intro x115 ex115
    have rx115 := i_rng x115
    first | (have tx115 : x115.toInt = (I88 v0 48).toInt := by (rw [ex115]; exact rfl)) | (have tx115 : x115.toInt = (I88 v0 48).toInt := by rw [ex115])
    obtain ⟨J9, hJ9⟩ : ∃ J9 : jI, J9 = I88 := ⟨_, rfl⟩
    have du2 : x115.toInt = NUM B v0 Z90 (jpI J9 uA v1.toNatClampNeg 0) := by rw [hJ9, ← du1]; omega
    intro b116 eb116
    obtain rfl : uA = b116 := Option.some.inj (e95.symm.trans eb116)
    have o117 : vp_in v1 24 := vi_of rfl (by omega) (by omega)
    refine ⟨o117, ?_⟩
    intro I118 eI118
    have t119 : (20 : Int32).toInt = 20 := rfl
    have w_I118 : WD Z90 I118 := by rw [eI118]; exact WD_putA w_I88 12 3 k94 e95 k92 rfl rfl (by decide) (by constructor <;> omega)
    have ao_I118_uA : ∀ q, q ≠ v1.toNatClampNeg → I118 uA q = I uA q := fun q hq => by rw [eI118, jpI_off hq]; exact ao_I88_uA q hq
    first | (have u120 : (I118 uA (v1.toNatClampNeg)).toInt = (20) := by (rw [eI118, show jpI I88 uA v1.toNatClampNeg (20 : Int32) uA v1.toNatClampNeg = (20 : Int32) from jpI_at] <;> exact (show (20 : Int32).toInt = 20 from rfl))) | skip
    have f_I118 : FR [(12, 3)] Z90 I88 Z90 I118 := by rw [eI118]; exact FR_upA w_I88.2.1 k94 e95 k92 rfl rfl List.mem_cons_self
    have q_I118 : FR Ws_X12_toll Z I Z90 I118 := q_I88.trans w_I.1 w_I.2.1 (f_I118.mono (by decide))
    have u121 : (I118 v0 0).toInt = (I88 v0 0).toInt := by rw [f_I118.2.2.1 v0 12 0 k91 (by decide) (by decide)]
    have u122 : (I118 v0 22).toInt = (I88 v0 22).toInt := by rw [f_I118.2.2.1 v0 12 22 k91 (by decide) (by decide)]
    have u123 : (I118 v0 48).toInt = (I88 v0 48).toInt := by rw [f_I118.2.2.1 v0 12 48 k91 (by decide) (by decide)]
    have w8 := w_I118
    have k8 : jk Z90 v0 12 := (q_I118.1 _ _ kv0).1
    have h8 : jr Z90 v0 3 = some uA := (q_I118.2.1 v0 12 3 kv0 (by decide) (by decide)).trans huA
    have ow8 : jpI I118 uA v1.toNatClampNeg 0 = jpI J9 uA v1.toNatClampNeg 0 := by rw [eI118, hJ9]; exact jpI_ow
    refine s9_X12_findAll w_I118 bd_Z90 v0 k91 b83 e99 b84 e103 b85 e107 b86 e111  (fun  Z127 I125 L126 w_I125 bd_Z127 f_I125 c_Z127 p124 => ?_)
    have q_I125 : FR Ws_X12_toll Z I Z127 I125 := q_I118.trans w_I.1 w_I.2.1 (f_I125.mono (by decide))
    have cp_Z127 : CP Z Z127 := cp_Z90.trans q_I118.1 c_Z127
    have x_Z127 := f_I125.1
    have k128 := (f_I125.1 _ _ k91).1
    have k129 := (f_I125.1 _ _ k92).1
    have l130 := (f_I125.1 _ _ k92).2.trans l93
    have k131 := (f_I125.1 _ _ k94).1
    have e132 := (f_I125.2.1 v0 12 3 k94 (by decide) (by decide)).trans e95
    have k133 := (f_I125.1 _ _ k96).1
    have l134 := (f_I125.1 _ _ k96).2.trans l97
    have k135 := (f_I125.1 _ _ k98).1
    have e136 := (f_I125.2.1 v0 12 9 k98 (by decide) (by decide)).trans e99
    have k137 := (f_I125.1 _ _ k100).1
    have l138 := (f_I125.1 _ _ k100).2.trans l101
    have k139 := (f_I125.1 _ _ k102).1
    have e140 := (f_I125.2.1 v0 12 10 k102 (by decide) (by decide)).trans e103
    have k141 := (f_I125.1 _ _ k104).1
    have l142 := (f_I125.1 _ _ k104).2.trans l105
    have k143 := (f_I125.1 _ _ k106).1
    have e144 := (f_I125.2.1 v0 12 11 k106 (by decide) (by decide)).trans e107
    have k145 := (f_I125.1 _ _ k108).1
    have l146 := (f_I125.1 _ _ k108).2.trans l109
    have k147 := (f_I125.1 _ _ k110).1
    have e148 := (f_I125.2.1 v0 12 13 k110 (by decide) (by decide)).trans e111
    have ao_I125_uA : ∀ q, q ≠ v1.toNatClampNeg → I125 uA q = I uA q := fun q hq => by rw [f_I125.2.2.2 v0 12 3 uA k94 e95 (by rw [k92.2]; rfl) rfl (by decide)]; exact ao_I118_uA q hq
    have u149 : (I125 uA (v1.toNatClampNeg)).toInt = (I118 uA (v1.toNatClampNeg)).toInt := by rw [f_I125.2.2.2 v0 12 3 uA k94 e95 (by rw [k92.2]; rfl) rfl (by decide)]
    have u150 : (I125 v0 0).toInt = (I118 v0 0).toInt := by rw [f_I125.2.2.1 v0 12 0 k91 (by decide) (by decide)]
    have u151 : (I125 v0 22).toInt = (I118 v0 22).toInt := by rw [f_I125.2.2.1 v0 12 22 k91 (by decide) (by decide)]
    have t152 : (20 : Int32).toInt = 20 := rfl
    exact ⟨((20 : Int32).toInt).toNat + 1, l_X12_toll_L54 w_I v0 v1 kv0 uA huA x74 x115  hQ   _ (20 : Int32) Z127 I125 L126 w_I125 bd_Z127 q_I125 cp_Z127   (by first | (have sm2 := SAME_FR w9 kv0 f_I125 (by decide); exact ⟨by omega, (p124).trans (NUM_same sm2), li2.trans ((congrArg (NUM B v0 _) ow9).symm.trans (NUM_same (sm2.put huA_1 v1.toNatClampNeg 0)))⟩) | (have sm2 := SAME_FR w8 k8 f_I125 (by decide); exact ⟨by omega, (p124).trans (NUM_same sm2), du2.trans ((congrArg (NUM B v0 _) ow8).symm.trans (NUM_same (sm2.put h8 v1.toNatClampNeg 0)))⟩))  (by omega)⟩
  · skip
    first | (have t153 : r67.toInt = (0) := (i_eq rfl (show (0 : Int32).toInt = 0 from rfl)).mp c69) | (have t153 : r67.toInt = (0 : Int32).toInt := (i_eq rfl rfl).mp c69) | skip
    have t154 : (-1 : Int32).toInt = -1 := rfl
    exact hQ (-1 : Int32) Z I62 L w_I62 bd_Z q_I62 cp_Z 
