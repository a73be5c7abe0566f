def Ws_X12_countWays : List (Nat × Nat) := [(12, 24), (12, 25), (12, 26), (12, 27), (12, 31), (12, 32), (12, 33), (12, 34), (12, 37), (12, 38), (12, 45), (12, 46), (12, 47)]
set_option maxHeartbeats 4000000 in
set_option maxRecDepth 100000 in
theorem l_X12_countWays_L338 {B : Nat × Nat} {T : Nat} {Z0 : jZ} {I0 : jI} {Q : Int32 → jZ → jI → jL → Prop} (w0 : WD Z0 I0) (v0 : Nat) (v1 : Int32) (v2 : Int32) (kv0 : jk Z0 v0 12) (uC : Nat) (huC : jr Z0 v0 37 = some uC) (uE : Nat) (huE : jr Z0 v0 38 = some uE) (p0 : 0 ≤ v1.toInt ∧ v1.toInt ≤ 5 ∧ 0 ≤ v2.toInt ∧ v2.toInt ≤ 999) (v3 : Int32) (hQ : ∀ (r : Int32) (Z' : jZ) (I' : jI) (L' : jL), WD Z' I' → BUD B Z' T → FR Ws_X12_countWays Z0 I0 Z' I' → CP Z0 Z' → Q r Z' I' L') : ∀ (n : Nat) (v4 : Int32) (v5 : Int32) (Z : jZ) (I : jI) (L : jL), WD Z I → BUD B Z T → FR Ws_X12_countWays Z0 I0 Z I → CP Z0 Z →   (0 ≤ v5.toInt ∧ v5.toInt ≤ 121 ∧ 0 ≤ v1.toInt ∧ v1.toInt ≤ 5 ∧ 0 ≤ v2.toInt ∧ v2.toInt ≤ 999 ∧ v3.toInt = 121) → 121 - v5.toInt < (n : Int) → f_X12_countWays_L338 B  Q n v0 v1 v2 v3 v4 v5 Z I L := by
  intro n
  induction n with
  | zero =>
    intro v4 v5 Z I L w_I bd_Z q_I cp_Z   li  me
    exfalso
    omega
  | succ n ih =>
    intro v4 v5 Z I L w_I bd_Z q_I cp_Z   li  me
    unfold f_X12_countWays_L338
    have rv4 := i_rng v4
    have rv5 := i_rng v5
    have rv3 := i_rng v3
    have rv1 := i_rng v1
    have rv2 := i_rng v2
    have kv0_0 := kv0
    have kv0 := (q_I.1 _ _ kv0).1
    have t1 : 0 ≤ (I v0 0).toInt ∧ (I v0 0).toInt ≤ 24 := w_I.fld 12 0 kv0 (by decide)
    have huC_1 : jr Z v0 37 = some uC := (q_I.2.1 v0 12 37 kv0_0 (by decide) (by decide)).trans huC
    have luC : jlen Z uC = 75 := by obtain ⟨b9, e9, -, l9⟩ := sh_f w_I.1 kv0 (j := 37) (k := 14) (m := 75) rfl; cases huC_1.symm.trans e9; exact l9
    have kuC : jk Z uC 14 := by obtain ⟨b9, e9, k9, -⟩ := sh_f w_I.1 kv0 (j := 37) (k := 14) (m := 75) rfl; cases huC_1.symm.trans e9; exact k9
    have huE_1 : jr Z v0 38 = some uE := (q_I.2.1 v0 12 38 kv0_0 (by decide) (by decide)).trans huE
    have luE : jlen Z uE = 75 := by obtain ⟨b9, e9, -, l9⟩ := sh_f w_I.1 kv0 (j := 38) (k := 14) (m := 75) rfl; cases huE_1.symm.trans e9; exact l9
    have kuE : jk Z uE 14 := by obtain ⟨b9, e9, k9, -⟩ := sh_f w_I.1 kv0 (j := 38) (k := 14) (m := 75) rfl; cases huE_1.symm.trans e9; exact k9
    have xq_I := q_I.1
    intro b2 eb2
    obtain ⟨x3, ex3, kb2, lb2⟩ := sh_f w_I.1 kv0 (j := 9) (k := 14) (m := 6) rfl
    cases eb2.symm.trans ex3
    have o4 : vp_in v1 6 := vi_of rfl (by omega) (by omega)
    refine ⟨o4, ?_⟩
    have t5 : 0 ≤ (I b2 v1.toNatClampNeg).toInt ∧ (I b2 v1.toNatClampNeg).toInt ≤ 120 := w_I.arr 12 9 kv0 eb2 kb2 rfl rfl _
    refine ⟨fun c6 => ?_, fun c6 => ?_⟩
    · skip
      first | (have t7 : (I b2 v1.toNatClampNeg).toInt < v5.toInt := (i_lt rfl rfl).mp c6) | (have t7 : (I b2 v1.toNatClampNeg).toInt < v5.toInt := (i_lt rfl rfl).mp c6) | skip
      exact hQ v4 Z I L w_I bd_Z q_I cp_Z 
    · skip
      first | (have t8 : ¬ ((I b2 v1.toNatClampNeg).toInt < v5.toInt) := (not_congr (i_lt rfl rfl)).mp c6) | (have t8 : ¬ ((I b2 v1.toNatClampNeg).toInt < v5.toInt) := (not_congr (i_lt rfl rfl)).mp c6) | skip
      intro b9 eb9
      obtain ⟨x10, ex10, kb9, lb9⟩ := sh_f w_I.1 kv0 (j := 45) (k := 14) (m := 484000) rfl
      cases eb9.symm.trans ex10
      have t12 : 0 ≤ (I v0 0).toInt ∧ (I v0 0).toInt ≤ 24 := w_I.fld 12 0 kv0 (by decide)
      have o13 : vp_in ((((((I v0 0) - (I v0 0) / (4 : Int32) * (4 : Int32)) * v3) + v5) * (1000 : Int32)) + v2) 484000 := vi_of (i_add (i_mul (i_add (i_mul (i_rem rfl (show (4 : Int32).toInt = 4 from rfl) (by omega) (by omega)) (show v3.toInt = 121 by omega) (by omega) (by omega)) rfl (by omega) (by omega)) (show (1000 : Int32).toInt = 1000 from rfl) (by omega) (by omega)) rfl (by omega) (by omega)) (by omega) (by omega)
      refine ⟨o13, ?_⟩
      intro x14 ex14
      have rx14 := i_rng x14
      first | (have tx14 : x14.toInt = (I b9 ((((((I v0 0) - (I v0 0) / (4 : Int32) * (4 : Int32)) * v3) + v5) * (1000 : Int32)) + v2).toNatClampNeg).toInt := by (rw [ex14]; exact rfl)) | (have tx14 : x14.toInt = (I b9 ((((((I v0 0) - (I v0 0) / (4 : Int32) * (4 : Int32)) * v3) + v5) * (1000 : Int32)) + v2).toNatClampNeg).toInt := by rw [ex14])
      refine ⟨fun c15 => ?_, fun c15 => ?_⟩
      · skip
        first | (have t16 : x14.toInt ≤ (0) := (i_le rfl (show (0 : Int32).toInt = 0 from rfl)).mp c15) | (have t16 : x14.toInt ≤ (0 : Int32).toInt := (i_le rfl rfl).mp c15) | skip
        unfold f_X12_countWays_b398
        intro x17 ex17
        have rx17 := i_rng x17
        first | (have tx17 : x17.toInt = (v4.toInt + x14.toInt) := by (rw [ex17]; exact (i_add rfl rfl (by omega) (by omega)))) | (have tx17 : x17.toInt = (v4 + x14).toInt := by rw [ex17])
        intro x18 ex18
        have rx18 := i_rng x18
        first | (have tx18 : x18.toInt = v5.toInt + (1) := by (rw [ex18]; exact (i_add rfl (show (1 : Int32).toInt = 1 from rfl) (by omega) (by omega)))) | skip
        exact ih x17 x18 Z I L w_I bd_Z q_I cp_Z   (by omega)  (by omega)
      · skip
        first | (have t19 : ¬ (x14.toInt ≤ (0)) := (not_congr (i_le rfl (show (0 : Int32).toInt = 0 from rfl))).mp c15) | (have t19 : ¬ (x14.toInt ≤ (0 : Int32).toInt) := (not_congr (i_le rfl rfl)).mp c15) | skip
        refine ⟨fun c20 => ?_, fun c20 => ?_⟩
        · skip
          first | (have t21 : ¬ ((I v0 46).toInt = (-1)) := (not_congr (i_eq rfl (show (-1 : Int32).toInt = -1 from rfl))).mp c20) | (have t21 : ¬ ((I v0 46).toInt = (-1 : Int32).toInt) := (not_congr (i_eq rfl rfl)).mp c20) | skip
          unfold f_X12_countWays_b398
          intro x22 ex22
          have rx22 := i_rng x22
          first | (have tx22 : x22.toInt = (v4.toInt + x14.toInt) := by (rw [ex22]; exact (i_add rfl rfl (by omega) (by omega)))) | (have tx22 : x22.toInt = (v4 + x14).toInt := by rw [ex22])
          intro x23 ex23
          have rx23 := i_rng x23
          first | (have tx23 : x23.toInt = v5.toInt + (1) := by (rw [ex23]; exact (i_add rfl (show (1 : Int32).toInt = 1 from rfl) (by omega) (by omega)))) | skip
          exact ih x22 x23 Z I L w_I bd_Z q_I cp_Z   (by omega)  (by omega)
        · skip
          first | (have t24 : (I v0 46).toInt = (-1) := (i_eq rfl (show (-1 : Int32).toInt = -1 from rfl)).mp c20) | (have t24 : (I v0 46).toInt = (-1 : Int32).toInt := (i_eq rfl rfl).mp c20) | skip
          intro I25 eI25
          have w_I25 : WD Z I25 := by rw [eI25]; exact WD_putF w_I 12 46 kv0 (by decide) (by decide) trivial
          have f_I25 : FR [(12, 46)] Z I Z I25 := by rw [eI25]; exact FR_putF kv0 (by decide) List.mem_cons_self
          have q_I25 : FR Ws_X12_countWays Z0 I0 Z I25 := q_I.trans w0.1 w0.2.1 (f_I25.mono (by decide))
          have ao_I25_uC : I25 uC = I uC := f_I25.2.2.2 v0 12 37 uC kv0 huC_1 (by rw [kuC.2]; rfl) rfl (by decide)
          have ao_I25_uE : I25 uE = I uE := f_I25.2.2.2 v0 12 38 uE kv0 huE_1 (by rw [kuE.2]; rfl) rfl (by decide)
          have u26 : (I25 v0 0).toInt = (I v0 0).toInt := by rw [f_I25.2.2.1 v0 12 0 kv0 (by decide) (by decide)]
          first | (have u27 : (I25 v0 46).toInt = v5.toInt := by (rw [eI25, show jpI I v0 46 v5 v0 46 = v5 from jpI_at] <;> exact rfl)) | skip
          intro I28 eI28
          have w_I28 : WD Z I28 := by rw [eI28]; exact WD_putF w_I25 12 47 kv0 (by decide) (by decide) trivial
          have f_I28 : FR [(12, 47)] Z I25 Z I28 := by rw [eI28]; exact FR_putF kv0 (by decide) List.mem_cons_self
          have q_I28 : FR Ws_X12_countWays Z0 I0 Z I28 := q_I25.trans w0.1 w0.2.1 (f_I28.mono (by decide))
          have ao_I28_uC : I28 uC = I uC := (f_I28.2.2.2 v0 12 37 uC kv0 huC_1 (by rw [kuC.2]; rfl) rfl (by decide)).trans ao_I25_uC
          have ao_I28_uE : I28 uE = I uE := (f_I28.2.2.2 v0 12 38 uE kv0 huE_1 (by rw [kuE.2]; rfl) rfl (by decide)).trans ao_I25_uE
          have u29 : (I28 v0 0).toInt = (I25 v0 0).toInt := by rw [f_I28.2.2.1 v0 12 0 kv0 (by decide) (by decide)]
          have u30 : (I28 v0 46).toInt = (I25 v0 46).toInt := by rw [f_I28.2.2.1 v0 12 46 kv0 (by decide) (by decide)]
          first | (have u31 : (I28 v0 47).toInt = x14.toInt := by (rw [eI28, show jpI I25 v0 47 x14 v0 47 = x14 from jpI_at] <;> exact rfl)) | skip
          unfold f_X12_countWays_b398
          intro x32 ex32
          have rx32 := i_rng x32
          first | (have tx32 : x32.toInt = (v4.toInt + x14.toInt) := by (rw [ex32]; exact (i_add rfl rfl (by omega) (by omega)))) | (have tx32 : x32.toInt = (v4 + x14).toInt := by rw [ex32])
          intro x33 ex33
          have rx33 := i_rng x33
          first | (have tx33 : x33.toInt = v5.toInt + (1) := by (rw [ex33]; exact (i_add rfl (show (1 : Int32).toInt = 1 from rfl) (by omega) (by omega)))) | skip
          exact ih x32 x33 Z I28 L w_I28 bd_Z q_I28 cp_Z   (by omega)  (by omega)
set_option maxHeartbeats 4000000 in
set_option maxRecDepth 100000 in
theorem l_X12_countWays_L241 {B : Nat × Nat} {T : Nat} {Z0 : jZ} {I0 : jI} {Q : Int32 → jZ → jI → jL → Prop} (w0 : WD Z0 I0) (v0 : Nat) (v1 : Int32) (v2 : Int32) (kv0 : jk Z0 v0 12) (uC : Nat) (huC : jr Z0 v0 37 = some uC) (uE : Nat) (huE : jr Z0 v0 38 = some uE) (p0 : 0 ≤ v1.toInt ∧ v1.toInt ≤ 5 ∧ 0 ≤ v2.toInt ∧ v2.toInt ≤ 999) (v3 : Int32) (v4 : Int32) (v5 : Int32) (v6 : Int32) (v7 : Int32) (v8 : Int32) (v9 : Int32) (hQ : ∀ (r : Int32) (Z' : jZ) (I' : jI) (L' : jL), WD Z' I' → BUD B Z' T → FR Ws_X12_countWays Z0 I0 Z' I' → CP Z0 Z' → Q r Z' I' L') {K90 : Nat → Int32 → Int32 → Int32 → Int32 → jZ → jI → jL → Prop} {N90 : Int} (hK90 : ∀ (v4 : Int32) (Z : jZ) (I : jI) (L : jL), WD Z I → BUD B Z T → FR Ws_X12_countWays Z0 I0 Z I → CP Z0 Z →   ((0 ≤ v1.toInt ∧ v1.toInt ≤ 5 ∧ 0 ≤ v2.toInt ∧ v2.toInt ≤ 999 ∧ v3.toInt = 121 ∧ 0 ≤ v4.toInt ∧ v4.toInt ≤ 24) ∧ MVB (3 * ((I v0 0).toInt + 1)) (I v0 0).toInt (I uC) (I uE)) → 24 - v4.toInt < N90 → K90 v0 v1 v2 v3 v4 Z I L) {K165 : Nat → Int32 → Int32 → Int32 → Int32 → Int32 → Int32 → jZ → jI → jL → Prop} {N165 : Int} (hK165 : ∀ (v6 : Int32) (Z : jZ) (I : jI) (L : jL), WD Z I → BUD B Z T → FR Ws_X12_countWays Z0 I0 Z I → CP Z0 Z →   ((0 ≤ v1.toInt ∧ v1.toInt ≤ 5 ∧ 0 ≤ v2.toInt ∧ v2.toInt ≤ 999 ∧ v3.toInt = 121 ∧ 0 ≤ v4.toInt ∧ v4.toInt ≤ 23 ∧ v5.toInt = v4.toInt + 1 ∧ 1 ≤ v6.toInt ∧ v6.toInt ≤ 4 ∧ v4.toInt < (I v0 0).toInt) ∧ MVB (3 * ((I v0 0).toInt + 1)) (I v0 0).toInt (I uC) (I uE)) → 24 - v4.toInt ≤ N90 → 4 - v6.toInt < N165 → K165 v0 v1 v2 v3 v4 v5 v6 Z I L) {K221 : Nat → Int32 → Int32 → Int32 → Int32 → Int32 → Int32 → Int32 → Int32 → Int32 → jZ → jI → jL → Prop} {N221 : Int} (hK221 : ∀ (v9 : Int32) (Z : jZ) (I : jI) (L : jL), WD Z I → BUD B Z T → FR Ws_X12_countWays Z0 I0 Z I → CP Z0 Z →   ((0 ≤ v1.toInt ∧ v1.toInt ≤ 5 ∧ 0 ≤ v2.toInt ∧ v2.toInt ≤ 999 ∧ v3.toInt = 121 ∧ 0 ≤ v4.toInt ∧ v4.toInt ≤ 23 ∧ v5.toInt = v4.toInt + 1 ∧ 0 ≤ v7.toInt ∧ v7.toInt ≤ 23 ∧ 1 ≤ v6.toInt ∧ v6.toInt ≤ 3 ∧ 0 ≤ v8.toInt ∧ v8.toInt ≤ 74 ∧ 0 ≤ (I uC (v8.toNatClampNeg)).toInt ∧ (I uC (v8.toNatClampNeg)).toInt ≤ 297 ∧ 0 ≤ (I uE (v8.toNatClampNeg)).toInt ∧ (I uE (v8.toNatClampNeg)).toInt ≤ 999 ∧ 0 ≤ v9.toInt ∧ (I uE (v8.toNatClampNeg)).toInt ≤ v9.toInt ∧ v9.toInt ≤ 1000 ∧ v4.toInt < (I v0 0).toInt) ∧ MVB (3 * ((I v0 0).toInt + 1)) (I v0 0).toInt (I uC) (I uE)) → 24 - v4.toInt ≤ N90 → 4 - v6.toInt ≤ N165 → 1000 - v9.toInt < N221 → K221 v0 v1 v2 v3 v4 v5 v6 v7 v8 v9 Z I L) : ∀ (n : Nat) (v10 : Int32) (Z : jZ) (I : jI) (L : jL), WD Z I → BUD B Z T → FR Ws_X12_countWays Z0 I0 Z I → CP Z0 Z →   ((0 ≤ v1.toInt ∧ v1.toInt ≤ 5 ∧ 0 ≤ v2.toInt ∧ v2.toInt ≤ 999 ∧ v3.toInt = 121 ∧ 0 ≤ v4.toInt ∧ v4.toInt ≤ 23 ∧ v5.toInt = v4.toInt + 1 ∧ 0 ≤ v7.toInt ∧ v7.toInt ≤ 23 ∧ 1 ≤ v6.toInt ∧ v6.toInt ≤ 3 ∧ 0 ≤ v8.toInt ∧ v8.toInt ≤ 74 ∧ 0 ≤ (I uC (v8.toNatClampNeg)).toInt ∧ (I uC (v8.toNatClampNeg)).toInt ≤ 297 ∧ 0 ≤ (I uE (v8.toNatClampNeg)).toInt ∧ (I uE (v8.toNatClampNeg)).toInt ≤ 999 ∧ (I uE (v8.toNatClampNeg)).toInt ≤ v9.toInt ∧ 0 ≤ v9.toInt ∧ v9.toInt ≤ 120 ∧ (I uC (v8.toNatClampNeg)).toInt ≤ v10.toInt ∧ v10.toInt ≤ 1000 ∧ v4.toInt < (I v0 0).toInt) ∧ MVB (3 * ((I v0 0).toInt + 1)) (I v0 0).toInt (I uC) (I uE)) → 24 - v4.toInt ≤ N90 → 4 - v6.toInt ≤ N165 → 1000 - v9.toInt ≤ N221 → 1000 - v10.toInt < (n : Int) → f_X12_countWays_L241 B K90 K165 K221 Q n v0 v1 v2 v3 v4 v5 v6 v7 v8 v9 v10 Z I L := by
  intro n
  induction n with
  | zero =>
    intro v10 Z I L w_I bd_Z q_I cp_Z   li hm90 hm165 hm221 me
    exfalso
    omega
  | succ n ih =>
    intro v10 Z I L w_I bd_Z q_I cp_Z   li hm90 hm165 hm221 me
    unfold f_X12_countWays_L241
    have rv10 := i_rng v10
    have rv3 := i_rng v3
    have rv4 := i_rng v4
    have rv5 := i_rng v5
    have rv6 := i_rng v6
    have rv7 := i_rng v7
    have rv8 := i_rng v8
    have rv9 := i_rng v9
    have rv1 := i_rng v1
    have rv2 := i_rng v2
    obtain ⟨li0, li1⟩ := li
    have kv0_0 := kv0
    have kv0 := (q_I.1 _ _ kv0).1
    have t34 : 0 ≤ (I v0 0).toInt ∧ (I v0 0).toInt ≤ 24 := w_I.fld 12 0 kv0 (by decide)
    have huC_1 : jr Z v0 37 = some uC := (q_I.2.1 v0 12 37 kv0_0 (by decide) (by decide)).trans huC
    have luC : jlen Z uC = 75 := by obtain ⟨b9, e9, -, l9⟩ := sh_f w_I.1 kv0 (j := 37) (k := 14) (m := 75) rfl; cases huC_1.symm.trans e9; exact l9
    have kuC : jk Z uC 14 := by obtain ⟨b9, e9, k9, -⟩ := sh_f w_I.1 kv0 (j := 37) (k := 14) (m := 75) rfl; cases huC_1.symm.trans e9; exact k9
    have huE_1 : jr Z v0 38 = some uE := (q_I.2.1 v0 12 38 kv0_0 (by decide) (by decide)).trans huE
    have luE : jlen Z uE = 75 := by obtain ⟨b9, e9, -, l9⟩ := sh_f w_I.1 kv0 (j := 38) (k := 14) (m := 75) rfl; cases huE_1.symm.trans e9; exact l9
    have kuE : jk Z uE 14 := by obtain ⟨b9, e9, k9, -⟩ := sh_f w_I.1 kv0 (j := 38) (k := 14) (m := 75) rfl; cases huE_1.symm.trans e9; exact k9
    have xq_I := q_I.1
    have mv := li1
    refine ⟨fun c35 => ?_, fun c35 => ?_⟩
    · skip
      first | (have t36 : v2.toInt < v10.toInt := (i_lt rfl rfl).mp c35) | (have t36 : v2.toInt < v10.toInt := (i_lt rfl rfl).mp c35) | skip
      intro x37 ex37
      have rx37 := i_rng x37
      first | (have tx37 : x37.toInt = v9.toInt + (1) := by (rw [ex37]; exact (i_add rfl (show (1 : Int32).toInt = 1 from rfl) (by omega) (by omega)))) | skip
      exact hK221 x37 Z I L w_I bd_Z q_I cp_Z   (by refine ⟨?_, ?_⟩; (omega); (refine MVB.rew (by omega) (MVB.same (fun _ _ => rfl) (fun _ _ => rfl) li1))) (by omega) (by omega) (by omega)
    · skip
      first | (have t38 : ¬ (v2.toInt < v10.toInt) := (not_congr (i_lt rfl rfl)).mp c35) | (have t38 : ¬ (v2.toInt < v10.toInt) := (not_congr (i_lt rfl rfl)).mp c35) | skip
      intro b39 eb39
      obtain ⟨x40, ex40, kb39, lb39⟩ := sh_f w_I.1 kv0 (j := 45) (k := 14) (m := 484000) rfl
      cases eb39.symm.trans ex40
      have o41 : vp_in (((((v5 - v5 / (4 : Int32) * (4 : Int32)) * v3) + v9) * (1000 : Int32)) + v10) 484000 := vi_of (i_add (i_mul (i_add (i_mul (i_rem rfl (show (4 : Int32).toInt = 4 from rfl) (by omega) (by omega)) (show v3.toInt = 121 by omega) (by omega) (by omega)) rfl (by omega) (by omega)) (show (1000 : Int32).toInt = 1000 from rfl) (by omega) (by omega)) rfl (by omega) (by omega)) (by omega) (by omega)
      refine ⟨o41, ?_⟩
      intro b42 eb42
      obtain rfl : b39 = b42 := Option.some.inj (eb39.symm.trans eb42)
      intro b43 eb43
      obtain rfl : uE = b43 := Option.some.inj (huE_1.symm.trans eb43)
      have o44 : vp_in v8 75 := vi_of rfl (by omega) (by omega)
      refine ⟨o44, ?_⟩
      intro b45 eb45
      obtain rfl : uC = b45 := Option.some.inj (huC_1.symm.trans eb45)
      have o46 : vp_in v8 75 := vi_of rfl (by omega) (by omega)
      refine ⟨o46, ?_⟩
      have o47 : vp_in (((((((v7 - v7 / (4 : Int32) * (4 : Int32)) * v3) + v9) - (I uE v8.toNatClampNeg)) * (1000 : Int32)) + v10) - (I uC v8.toNatClampNeg)) 484000 := vi_of (i_sub (i_add (i_mul (i_sub (i_add (i_mul (i_rem rfl (show (4 : Int32).toInt = 4 from rfl) (by omega) (by omega)) (show v3.toInt = 121 by omega) (by omega) (by omega)) rfl (by omega) (by omega)) rfl (by omega) (by omega)) (show (1000 : Int32).toInt = 1000 from rfl) (by omega) (by omega)) rfl (by omega) (by omega)) rfl (by omega) (by omega)) (by omega) (by omega)
      refine ⟨o47, ?_⟩
      have o48 : vp_in (((((v5 - v5 / (4 : Int32) * (4 : Int32)) * v3) + v9) * (1000 : Int32)) + v10) 484000 := vi_of (i_add (i_mul (i_add (i_mul (i_rem rfl (show (4 : Int32).toInt = 4 from rfl) (by omega) (by omega)) (show v3.toInt = 121 by omega) (by omega) (by omega)) rfl (by omega) (by omega)) (show (1000 : Int32).toInt = 1000 from rfl) (by omega) (by omega)) rfl (by omega) (by omega)) (by omega) (by omega)
      refine ⟨o48, ?_⟩
      intro I49 eI49
      try (have t50 : ((I b39 (((((v5 - v5 / (4 : Int32) * (4 : Int32)) * v3) + v9) * (1000 : Int32)) + v10).toNatClampNeg) + (I b39 (((((((v7 - v7 / (4 : Int32) * (4 : Int32)) * v3) + v9) - (I uE v8.toNatClampNeg)) * (1000 : Int32)) + v10) - (I uC v8.toNatClampNeg)).toNatClampNeg)).toInt = ((I b39 (((((v5 - v5 / (4 : Int32) * (4 : Int32)) * v3) + v9) * (1000 : Int32)) + v10).toNatClampNeg).toInt + (I b39 (((((((v7 - v7 / (4 : Int32) * (4 : Int32)) * v3) + v9) - (I uE v8.toNatClampNeg)) * (1000 : Int32)) + v10) - (I uC v8.toNatClampNeg)).toNatClampNeg).toInt) := (i_add rfl rfl (by omega) (by omega)))
      have w_I49 : WD Z I49 := by rw [eI49]; exact WD_putA w_I 12 45 kv0 eb39 kb39 rfl rfl (by decide) trivial
      have f_I49 : FR [(12, 45)] Z I Z I49 := by rw [eI49]; exact FR_upA w_I.2.1 kv0 eb39 kb39 rfl rfl List.mem_cons_self
      have q_I49 : FR Ws_X12_countWays Z0 I0 Z I49 := q_I.trans w0.1 w0.2.1 (f_I49.mono (by decide))
      have ao_I49_uC : I49 uC = I uC := f_I49.2.2.2 v0 12 37 uC kv0 huC_1 (by rw [kuC.2]; rfl) rfl (by decide)
      have ao_I49_uE : I49 uE = I uE := f_I49.2.2.2 v0 12 38 uE kv0 huE_1 (by rw [kuE.2]; rfl) rfl (by decide)
      have u51 : (I49 uC (v8.toNatClampNeg)).toInt = (I uC (v8.toNatClampNeg)).toInt := by rw [f_I49.2.2.2 v0 12 37 uC kv0 huC_1 (by rw [kuC.2]; rfl) rfl (by decide)]
      have u52 : (I49 uE (v8.toNatClampNeg)).toInt = (I uE (v8.toNatClampNeg)).toInt := by rw [f_I49.2.2.2 v0 12 38 uE kv0 huE_1 (by rw [kuE.2]; rfl) rfl (by decide)]
      have u53 : (I49 v0 0).toInt = (I v0 0).toInt := by rw [f_I49.2.2.1 v0 12 0 kv0 (by decide) (by decide)]
      intro x54 ex54
      have rx54 := i_rng x54
      first | (have tx54 : x54.toInt = v10.toInt + (1) := by (rw [ex54]; exact (i_add rfl (show (1 : Int32).toInt = 1 from rfl) (by omega) (by omega)))) | skip
      exact ih x54 Z I49 L w_I49 bd_Z q_I49 cp_Z   (by refine ⟨?_, ?_⟩; (omega); (refine MVB.rew (by omega) (MVB.same (fun q _ => congrFun ao_I49_uC q) (fun q _ => congrFun ao_I49_uE q) li1))) (by omega) (by omega) (by omega) (by omega)
set_option maxHeartbeats 4000000 in
set_option maxRecDepth 100000 in
theorem l_X12_countWays_L221 {B : Nat × Nat} {T : Nat} {Z0 : jZ} {I0 : jI} {Q : Int32 → jZ → jI → jL → Prop} (w0 : WD Z0 I0) (v0 : Nat) (v1 : Int32) (v2 : Int32) (kv0 : jk Z0 v0 12) (uC : Nat) (huC : jr Z0 v0 37 = some uC) (uE : Nat) (huE : jr Z0 v0 38 = some uE) (p0 : 0 ≤ v1.toInt ∧ v1.toInt ≤ 5 ∧ 0 ≤ v2.toInt ∧ v2.toInt ≤ 999) (v3 : Int32) (v4 : Int32) (v5 : Int32) (v6 : Int32) (v7 : Int32) (v8 : Int32) (hQ : ∀ (r : Int32) (Z' : jZ) (I' : jI) (L' : jL), WD Z' I' → BUD B Z' T → FR Ws_X12_countWays Z0 I0 Z' I' → CP Z0 Z' → Q r Z' I' L') {K90 : Nat → Int32 → Int32 → Int32 → Int32 → jZ → jI → jL → Prop} {N90 : Int} (hK90 : ∀ (v4 : Int32) (Z : jZ) (I : jI) (L : jL), WD Z I → BUD B Z T → FR Ws_X12_countWays Z0 I0 Z I → CP Z0 Z →   ((0 ≤ v1.toInt ∧ v1.toInt ≤ 5 ∧ 0 ≤ v2.toInt ∧ v2.toInt ≤ 999 ∧ v3.toInt = 121 ∧ 0 ≤ v4.toInt ∧ v4.toInt ≤ 24) ∧ MVB (3 * ((I v0 0).toInt + 1)) (I v0 0).toInt (I uC) (I uE)) → 24 - v4.toInt < N90 → K90 v0 v1 v2 v3 v4 Z I L) {K165 : Nat → Int32 → Int32 → Int32 → Int32 → Int32 → Int32 → jZ → jI → jL → Prop} {N165 : Int} (hK165 : ∀ (v6 : Int32) (Z : jZ) (I : jI) (L : jL), WD Z I → BUD B Z T → FR Ws_X12_countWays Z0 I0 Z I → CP Z0 Z →   ((0 ≤ v1.toInt ∧ v1.toInt ≤ 5 ∧ 0 ≤ v2.toInt ∧ v2.toInt ≤ 999 ∧ v3.toInt = 121 ∧ 0 ≤ v4.toInt ∧ v4.toInt ≤ 23 ∧ v5.toInt = v4.toInt + 1 ∧ 1 ≤ v6.toInt ∧ v6.toInt ≤ 4 ∧ v4.toInt < (I v0 0).toInt) ∧ MVB (3 * ((I v0 0).toInt + 1)) (I v0 0).toInt (I uC) (I uE)) → 24 - v4.toInt ≤ N90 → 4 - v6.toInt < N165 → K165 v0 v1 v2 v3 v4 v5 v6 Z I L) : ∀ (n : Nat) (v9 : Int32) (Z : jZ) (I : jI) (L : jL), WD Z I → BUD B Z T → FR Ws_X12_countWays Z0 I0 Z I → CP Z0 Z →   ((0 ≤ v1.toInt ∧ v1.toInt ≤ 5 ∧ 0 ≤ v2.toInt ∧ v2.toInt ≤ 999 ∧ v3.toInt = 121 ∧ 0 ≤ v4.toInt ∧ v4.toInt ≤ 23 ∧ v5.toInt = v4.toInt + 1 ∧ 0 ≤ v7.toInt ∧ v7.toInt ≤ 23 ∧ 1 ≤ v6.toInt ∧ v6.toInt ≤ 3 ∧ 0 ≤ v8.toInt ∧ v8.toInt ≤ 74 ∧ 0 ≤ (I uC (v8.toNatClampNeg)).toInt ∧ (I uC (v8.toNatClampNeg)).toInt ≤ 297 ∧ 0 ≤ (I uE (v8.toNatClampNeg)).toInt ∧ (I uE (v8.toNatClampNeg)).toInt ≤ 999 ∧ 0 ≤ v9.toInt ∧ (I uE (v8.toNatClampNeg)).toInt ≤ v9.toInt ∧ v9.toInt ≤ 1000 ∧ v4.toInt < (I v0 0).toInt) ∧ MVB (3 * ((I v0 0).toInt + 1)) (I v0 0).toInt (I uC) (I uE)) → 24 - v4.toInt ≤ N90 → 4 - v6.toInt ≤ N165 → 1000 - v9.toInt < (n : Int) → f_X12_countWays_L221 B K90 K165 Q n v0 v1 v2 v3 v4 v5 v6 v7 v8 v9 Z I L := by
  intro n
  induction n with
  | zero =>
    intro v9 Z I L w_I bd_Z q_I cp_Z   li hm90 hm165 me
    exfalso
    omega
  | succ n ih =>
    intro v9 Z I L w_I bd_Z q_I cp_Z   li hm90 hm165 me
    unfold f_X12_countWays_L221
    have rv9 := i_rng v9
    have rv3 := i_rng v3
    have rv4 := i_rng v4
    have rv5 := i_rng v5
    have rv6 := i_rng v6
    have rv7 := i_rng v7
    have rv8 := i_rng v8
    have rv1 := i_rng v1
    have rv2 := i_rng v2
    obtain ⟨li0, li1⟩ := li
    have kv0_0 := kv0
    have kv0 := (q_I.1 _ _ kv0).1
    have t55 : 0 ≤ (I v0 0).toInt ∧ (I v0 0).toInt ≤ 24 := w_I.fld 12 0 kv0 (by decide)
    have huC_1 : jr Z v0 37 = some uC := (q_I.2.1 v0 12 37 kv0_0 (by decide) (by decide)).trans huC
    have luC : jlen Z uC = 75 := by obtain ⟨b9, e9, -, l9⟩ := sh_f w_I.1 kv0 (j := 37) (k := 14) (m := 75) rfl; cases huC_1.symm.trans e9; exact l9
    have kuC : jk Z uC 14 := by obtain ⟨b9, e9, k9, -⟩ := sh_f w_I.1 kv0 (j := 37) (k := 14) (m := 75) rfl; cases huC_1.symm.trans e9; exact k9
    have huE_1 : jr Z v0 38 = some uE := (q_I.2.1 v0 12 38 kv0_0 (by decide) (by decide)).trans huE
    have luE : jlen Z uE = 75 := by obtain ⟨b9, e9, -, l9⟩ := sh_f w_I.1 kv0 (j := 38) (k := 14) (m := 75) rfl; cases huE_1.symm.trans e9; exact l9
    have kuE : jk Z uE 14 := by obtain ⟨b9, e9, k9, -⟩ := sh_f w_I.1 kv0 (j := 38) (k := 14) (m := 75) rfl; cases huE_1.symm.trans e9; exact k9
    have xq_I := q_I.1
    have mv := li1
    intro b56 eb56
    obtain ⟨x57, ex57, kb56, lb56⟩ := sh_f w_I.1 kv0 (j := 9) (k := 14) (m := 6) rfl
    cases eb56.symm.trans ex57
    have o58 : vp_in v1 6 := vi_of rfl (by omega) (by omega)
    refine ⟨o58, ?_⟩
    have t59 : 0 ≤ (I b56 v1.toNatClampNeg).toInt ∧ (I b56 v1.toNatClampNeg).toInt ≤ 120 := w_I.arr 12 9 kv0 eb56 kb56 rfl rfl _
    refine ⟨fun c60 => ?_, fun c60 => ?_⟩
    · skip
      first | (have t61 : (I b56 v1.toNatClampNeg).toInt < v9.toInt := (i_lt rfl rfl).mp c60) | (have t61 : (I b56 v1.toNatClampNeg).toInt < v9.toInt := (i_lt rfl rfl).mp c60) | skip
      unfold f_X12_countWays_b320
      intro x62 ex62
      have rx62 := i_rng x62
      first | (have tx62 : x62.toInt = v6.toInt + (1) := by (rw [ex62]; exact (i_add rfl (show (1 : Int32).toInt = 1 from rfl) (by omega) (by omega)))) | skip
      exact hK165 x62 Z I L w_I bd_Z q_I cp_Z   (by refine ⟨?_, ?_⟩; (omega); (refine MVB.rew (by omega) (MVB.same (fun _ _ => rfl) (fun _ _ => rfl) li1))) (by omega) (by omega)
    · skip
      first | (have t63 : ¬ ((I b56 v1.toNatClampNeg).toInt < v9.toInt) := (not_congr (i_lt rfl rfl)).mp c60) | (have t63 : ¬ ((I b56 v1.toNatClampNeg).toInt < v9.toInt) := (not_congr (i_lt rfl rfl)).mp c60) | skip
      intro b64 eb64
      obtain rfl : uC = b64 := Option.some.inj (huC_1.symm.trans eb64)
      have o65 : vp_in v8 75 := vi_of rfl (by omega) (by omega)
      refine ⟨o65, ?_⟩
      intro x66 ex66
      have rx66 := i_rng x66
      first | (have tx66 : x66.toInt = (I uC v8.toNatClampNeg).toInt := by (rw [ex66]; exact rfl)) | (have tx66 : x66.toInt = (I uC v8.toNatClampNeg).toInt := by rw [ex66])
      exact ⟨(1000 - x66.toInt).toNat + 1, l_X12_countWays_L241 w0 v0 v1 v2 kv0_0 uC huC uE huE p0 v3 v4 v5 v6 v7 v8 v9  hQ hK90 hK165 ih  _ x66 Z I L w_I bd_Z q_I cp_Z   (by refine ⟨?_, ?_⟩; (omega); (refine MVB.rew (by omega) (MVB.same (fun _ _ => rfl) (fun _ _ => rfl) li1))) (by omega) (by omega) (by omega) (by omega)⟩
set_option maxHeartbeats 4000000 in
set_option maxRecDepth 100000 in
theorem l_X12_countWays_L165 {B : Nat × Nat} {T : Nat} {Z0 : jZ} {I0 : jI} {Q : Int32 → jZ → jI → jL → Prop} (w0 : WD Z0 I0) (v0 : Nat) (v1 : Int32) (v2 : Int32) (kv0 : jk Z0 v0 12) (uC : Nat) (huC : jr Z0 v0 37 = some uC) (uE : Nat) (huE : jr Z0 v0 38 = some uE) (p0 : 0 ≤ v1.toInt ∧ v1.toInt ≤ 5 ∧ 0 ≤ v2.toInt ∧ v2.toInt ≤ 999) (v3 : Int32) (v4 : Int32) (v5 : Int32) (hQ : ∀ (r : Int32) (Z' : jZ) (I' : jI) (L' : jL), WD Z' I' → BUD B Z' T → FR Ws_X12_countWays Z0 I0 Z' I' → CP Z0 Z' → Q r Z' I' L') {K90 : Nat → Int32 → Int32 → Int32 → Int32 → jZ → jI → jL → Prop} {N90 : Int} (hK90 : ∀ (v4 : Int32) (Z : jZ) (I : jI) (L : jL), WD Z I → BUD B Z T → FR Ws_X12_countWays Z0 I0 Z I → CP Z0 Z →   ((0 ≤ v1.toInt ∧ v1.toInt ≤ 5 ∧ 0 ≤ v2.toInt ∧ v2.toInt ≤ 999 ∧ v3.toInt = 121 ∧ 0 ≤ v4.toInt ∧ v4.toInt ≤ 24) ∧ MVB (3 * ((I v0 0).toInt + 1)) (I v0 0).toInt (I uC) (I uE)) → 24 - v4.toInt < N90 → K90 v0 v1 v2 v3 v4 Z I L) : ∀ (n : Nat) (v6 : Int32) (Z : jZ) (I : jI) (L : jL), WD Z I → BUD B Z T → FR Ws_X12_countWays Z0 I0 Z I → CP Z0 Z →   ((0 ≤ v1.toInt ∧ v1.toInt ≤ 5 ∧ 0 ≤ v2.toInt ∧ v2.toInt ≤ 999 ∧ v3.toInt = 121 ∧ 0 ≤ v4.toInt ∧ v4.toInt ≤ 23 ∧ v5.toInt = v4.toInt + 1 ∧ 1 ≤ v6.toInt ∧ v6.toInt ≤ 4 ∧ v4.toInt < (I v0 0).toInt) ∧ MVB (3 * ((I v0 0).toInt + 1)) (I v0 0).toInt (I uC) (I uE)) → 24 - v4.toInt ≤ N90 → 4 - v6.toInt < (n : Int) → f_X12_countWays_L165 B K90 Q n v0 v1 v2 v3 v4 v5 v6 Z I L := by
  intro n
  induction n with
  | zero =>
    intro v6 Z I L w_I bd_Z q_I cp_Z   li hm90 me
    exfalso
    omega
  | succ n ih =>
    intro v6 Z I L w_I bd_Z q_I cp_Z   li hm90 me
    unfold f_X12_countWays_L165
    have rv6 := i_rng v6
    have rv3 := i_rng v3
    have rv4 := i_rng v4
    have rv5 := i_rng v5
    have rv1 := i_rng v1
    have rv2 := i_rng v2
    obtain ⟨li0, li1⟩ := li
    have kv0_0 := kv0
    have kv0 := (q_I.1 _ _ kv0).1
    have t67 : 0 ≤ (I v0 0).toInt ∧ (I v0 0).toInt ≤ 24 := w_I.fld 12 0 kv0 (by decide)
    have huC_1 : jr Z v0 37 = some uC := (q_I.2.1 v0 12 37 kv0_0 (by decide) (by decide)).trans huC
    have luC : jlen Z uC = 75 := by obtain ⟨b9, e9, -, l9⟩ := sh_f w_I.1 kv0 (j := 37) (k := 14) (m := 75) rfl; cases huC_1.symm.trans e9; exact l9
    have kuC : jk Z uC 14 := by obtain ⟨b9, e9, k9, -⟩ := sh_f w_I.1 kv0 (j := 37) (k := 14) (m := 75) rfl; cases huC_1.symm.trans e9; exact k9
    have huE_1 : jr Z v0 38 = some uE := (q_I.2.1 v0 12 38 kv0_0 (by decide) (by decide)).trans huE
    have luE : jlen Z uE = 75 := by obtain ⟨b9, e9, -, l9⟩ := sh_f w_I.1 kv0 (j := 38) (k := 14) (m := 75) rfl; cases huE_1.symm.trans e9; exact l9
    have kuE : jk Z uE 14 := by obtain ⟨b9, e9, k9, -⟩ := sh_f w_I.1 kv0 (j := 38) (k := 14) (m := 75) rfl; cases huE_1.symm.trans e9; exact k9
    have xq_I := q_I.1
    have mv := li1
    refine ⟨fun c68 => ?_, fun c68 => ?_⟩
    · skip
      first | (have t69 : (3) < v6.toInt := (i_lt (show (3 : Int32).toInt = 3 from rfl) rfl).mp c68) | (have t69 : (3 : Int32).toInt < v6.toInt := (i_lt rfl rfl).mp c68) | skip
      unfold f_X12_countWays_b326
      intro x70 ex70
      have rx70 := i_rng x70
      first | (have tx70 : x70.toInt = v4.toInt + (1) := by (rw [ex70]; exact (i_add rfl (show (1 : Int32).toInt = 1 from rfl) (by omega) (by omega)))) | skip
      exact hK90 x70 Z I L w_I bd_Z q_I cp_Z   (by refine ⟨?_, ?_⟩; (omega); (refine MVB.rew (by omega) (MVB.same (fun _ _ => rfl) (fun _ _ => rfl) li1)))  (by omega)
    · skip
      first | (have t71 : ¬ ((3) < v6.toInt) := (not_congr (i_lt (show (3 : Int32).toInt = 3 from rfl) rfl)).mp c68) | (have t71 : ¬ ((3 : Int32).toInt < v6.toInt) := (not_congr (i_lt rfl rfl)).mp c68) | skip
      refine ⟨fun c72 => ?_, fun c72 => ?_⟩
      · skip
        first | (have t73 : v5.toInt < v6.toInt := (i_lt rfl rfl).mp c72) | (have t73 : v5.toInt < v6.toInt := (i_lt rfl rfl).mp c72) | skip
        unfold f_X12_countWays_b326
        intro x74 ex74
        have rx74 := i_rng x74
        first | (have tx74 : x74.toInt = v4.toInt + (1) := by (rw [ex74]; exact (i_add rfl (show (1 : Int32).toInt = 1 from rfl) (by omega) (by omega)))) | skip
        exact hK90 x74 Z I L w_I bd_Z q_I cp_Z   (by refine ⟨?_, ?_⟩; (omega); (refine MVB.rew (by omega) (MVB.same (fun _ _ => rfl) (fun _ _ => rfl) li1)))  (by omega)
      · skip
        first | (have t75 : ¬ (v5.toInt < v6.toInt) := (not_congr (i_lt rfl rfl)).mp c72) | (have t75 : ¬ (v5.toInt < v6.toInt) := (not_congr (i_lt rfl rfl)).mp c72) | skip
        intro x76 ex76
        have rx76 := i_rng x76
        first | (have tx76 : x76.toInt = (v5.toInt - v6.toInt) := by (rw [ex76]; exact (i_sub rfl rfl (by omega) (by omega)))) | (have tx76 : x76.toInt = (v5 - v6).toInt := by rw [ex76])
        intro x77 ex77
        have rx77 := i_rng x77
        first | (have tx77 : x77.toInt = ((((3) * x76.toInt) + v6.toInt) - (1)) := by (rw [ex77]; exact (i_sub (i_add (i_mul (show (3 : Int32).toInt = 3 from rfl) rfl (by omega) (by omega)) rfl (by omega) (by omega)) (show (1 : Int32).toInt = 1 from rfl) (by omega) (by omega)))) | (have tx77 : x77.toInt = ((((3 : Int32) * x76) + v6) - (1 : Int32)).toInt := by rw [ex77])
        intro b78 eb78
        obtain rfl : uC = b78 := Option.some.inj (huC_1.symm.trans eb78)
        have hm := MVB.at mv (x := x77) rfl (by omega) (by omega)
        have o79 : vp_in x77 75 := vi_of rfl (by omega) (by omega)
        refine ⟨o79, ?_⟩
        refine ⟨fun c80 => ?_, fun c80 => ?_⟩
        · skip
          first | (have t81 : ¬ ((I uC x77.toNatClampNeg).toInt = (1000000000)) := (not_congr (i_eq rfl (show (1000000000 : Int32).toInt = 1000000000 from rfl))).mp c80) | (have t81 : ¬ ((I uC x77.toNatClampNeg).toInt = (1000000000 : Int32).toInt) := (not_congr (i_eq rfl rfl)).mp c80) | skip
          intro b82 eb82
          obtain rfl : uE = b82 := Option.some.inj (huE_1.symm.trans eb82)
          have o83 : vp_in x77 75 := vi_of rfl (by omega) (by omega)
          refine ⟨o83, ?_⟩
          intro x84 ex84
          have rx84 := i_rng x84
          first | (have tx84 : x84.toInt = (I uE x77.toNatClampNeg).toInt := by (rw [ex84]; exact rfl)) | (have tx84 : x84.toInt = (I uE x77.toNatClampNeg).toInt := by rw [ex84])
          exact ⟨(1000 - x84.toInt).toNat + 1, l_X12_countWays_L221 w0 v0 v1 v2 kv0_0 uC huC uE huE p0 v3 v4 v5 v6 x76 x77  hQ hK90 ih  _ x84 Z I L w_I bd_Z q_I cp_Z   (by refine ⟨?_, ?_⟩; (omega); (refine MVB.rew (by omega) (MVB.same (fun _ _ => rfl) (fun _ _ => rfl) li1))) (by omega) (by omega) (by omega)⟩
        · skip
          first | (have t85 : (I uC x77.toNatClampNeg).toInt = (1000000000) := (i_eq rfl (show (1000000000 : Int32).toInt = 1000000000 from rfl)).mp c80) | (have t85 : (I uC x77.toNatClampNeg).toInt = (1000000000 : Int32).toInt := (i_eq rfl rfl).mp c80) | skip
          unfold f_X12_countWays_b320
          intro x86 ex86
          have rx86 := i_rng x86
          first | (have tx86 : x86.toInt = v6.toInt + (1) := by (rw [ex86]; exact (i_add rfl (show (1 : Int32).toInt = 1 from rfl) (by omega) (by omega)))) | skip
          exact ih x86 Z I L w_I bd_Z q_I cp_Z   (by refine ⟨?_, ?_⟩; (omega); (refine MVB.rew (by omega) (MVB.same (fun _ _ => rfl) (fun _ _ => rfl) li1))) (by omega) (by omega)
set_option maxHeartbeats 4000000 in
set_option maxRecDepth 100000 in
theorem l_X12_countWays_L122 {B : Nat × Nat} {T : Nat} {Z0 : jZ} {I0 : jI} {Q : Int32 → jZ → jI → jL → Prop} (w0 : WD Z0 I0) (v0 : Nat) (v1 : Int32) (v2 : Int32) (kv0 : jk Z0 v0 12) (uC : Nat) (huC : jr Z0 v0 37 = some uC) (uE : Nat) (huE : jr Z0 v0 38 = some uE) (p0 : 0 ≤ v1.toInt ∧ v1.toInt ≤ 5 ∧ 0 ≤ v2.toInt ∧ v2.toInt ≤ 999) (v3 : Int32) (v4 : Int32) (v5 : Int32) (v6 : Int32) (hQ : ∀ (r : Int32) (Z' : jZ) (I' : jI) (L' : jL), WD Z' I' → BUD B Z' T → FR Ws_X12_countWays Z0 I0 Z' I' → CP Z0 Z' → Q r Z' I' L') {K90 : Nat → Int32 → Int32 → Int32 → Int32 → jZ → jI → jL → Prop} {N90 : Int} (hK90 : ∀ (v4 : Int32) (Z : jZ) (I : jI) (L : jL), WD Z I → BUD B Z T → FR Ws_X12_countWays Z0 I0 Z I → CP Z0 Z →   ((0 ≤ v1.toInt ∧ v1.toInt ≤ 5 ∧ 0 ≤ v2.toInt ∧ v2.toInt ≤ 999 ∧ v3.toInt = 121 ∧ 0 ≤ v4.toInt ∧ v4.toInt ≤ 24) ∧ MVB (3 * ((I v0 0).toInt + 1)) (I v0 0).toInt (I uC) (I uE)) → 24 - v4.toInt < N90 → K90 v0 v1 v2 v3 v4 Z I L) {K108 : Nat → Int32 → Int32 → Int32 → Int32 → Int32 → Int32 → jZ → jI → jL → Prop} {N108 : Int} (hK108 : ∀ (v6 : Int32) (Z : jZ) (I : jI) (L : jL), WD Z I → BUD B Z T → FR Ws_X12_countWays Z0 I0 Z I → CP Z0 Z →   ((0 ≤ v1.toInt ∧ v1.toInt ≤ 5 ∧ 0 ≤ v2.toInt ∧ v2.toInt ≤ 999 ∧ v3.toInt = 121 ∧ 0 ≤ v4.toInt ∧ v4.toInt ≤ 23 ∧ v5.toInt = v4.toInt + 1 ∧ 0 ≤ v6.toInt ∧ v6.toInt ≤ 121 ∧ v4.toInt < (I v0 0).toInt) ∧ MVB (3 * ((I v0 0).toInt + 1)) (I v0 0).toInt (I uC) (I uE)) → 24 - v4.toInt ≤ N90 → 121 - v6.toInt < N108 → K108 v0 v1 v2 v3 v4 v5 v6 Z I L) : ∀ (n : Nat) (v7 : Int32) (Z : jZ) (I : jI) (L : jL), WD Z I → BUD B Z T → FR Ws_X12_countWays Z0 I0 Z I → CP Z0 Z →   ((0 ≤ v1.toInt ∧ v1.toInt ≤ 5 ∧ 0 ≤ v2.toInt ∧ v2.toInt ≤ 999 ∧ v3.toInt = 121 ∧ 0 ≤ v4.toInt ∧ v4.toInt ≤ 23 ∧ v5.toInt = v4.toInt + 1 ∧ 0 ≤ v6.toInt ∧ v6.toInt ≤ 120 ∧ 0 ≤ v7.toInt ∧ v7.toInt ≤ 1000 ∧ v4.toInt < (I v0 0).toInt) ∧ MVB (3 * ((I v0 0).toInt + 1)) (I v0 0).toInt (I uC) (I uE)) → 24 - v4.toInt ≤ N90 → 121 - v6.toInt ≤ N108 → 1000 - v7.toInt < (n : Int) → f_X12_countWays_L122 B K90 K108 Q n v0 v1 v2 v3 v4 v5 v6 v7 Z I L := by
  intro n
  induction n with
  | zero =>
    intro v7 Z I L w_I bd_Z q_I cp_Z   li hm90 hm108 me
    exfalso
    omega
  | succ n ih =>
    intro v7 Z I L w_I bd_Z q_I cp_Z   li hm90 hm108 me
    unfold f_X12_countWays_L122
    have rv7 := i_rng v7
    have rv3 := i_rng v3
    have rv4 := i_rng v4
    have rv5 := i_rng v5
    have rv6 := i_rng v6
    have rv1 := i_rng v1
    have rv2 := i_rng v2
    obtain ⟨li0, li1⟩ := li
    have kv0_0 := kv0
    have kv0 := (q_I.1 _ _ kv0).1
    have t87 : 0 ≤ (I v0 0).toInt ∧ (I v0 0).toInt ≤ 24 := w_I.fld 12 0 kv0 (by decide)
    have huC_1 : jr Z v0 37 = some uC := (q_I.2.1 v0 12 37 kv0_0 (by decide) (by decide)).trans huC
    have luC : jlen Z uC = 75 := by obtain ⟨b9, e9, -, l9⟩ := sh_f w_I.1 kv0 (j := 37) (k := 14) (m := 75) rfl; cases huC_1.symm.trans e9; exact l9
    have kuC : jk Z uC 14 := by obtain ⟨b9, e9, k9, -⟩ := sh_f w_I.1 kv0 (j := 37) (k := 14) (m := 75) rfl; cases huC_1.symm.trans e9; exact k9
    have huE_1 : jr Z v0 38 = some uE := (q_I.2.1 v0 12 38 kv0_0 (by decide) (by decide)).trans huE
    have luE : jlen Z uE = 75 := by obtain ⟨b9, e9, -, l9⟩ := sh_f w_I.1 kv0 (j := 38) (k := 14) (m := 75) rfl; cases huE_1.symm.trans e9; exact l9
    have kuE : jk Z uE 14 := by obtain ⟨b9, e9, k9, -⟩ := sh_f w_I.1 kv0 (j := 38) (k := 14) (m := 75) rfl; cases huE_1.symm.trans e9; exact k9
    have xq_I := q_I.1
    have mv := li1
    refine ⟨fun c88 => ?_, fun c88 => ?_⟩
    · skip
      first | (have t89 : v2.toInt < v7.toInt := (i_lt rfl rfl).mp c88) | (have t89 : v2.toInt < v7.toInt := (i_lt rfl rfl).mp c88) | skip
      intro x90 ex90
      have rx90 := i_rng x90
      first | (have tx90 : x90.toInt = v6.toInt + (1) := by (rw [ex90]; exact (i_add rfl (show (1 : Int32).toInt = 1 from rfl) (by omega) (by omega)))) | skip
      exact hK108 x90 Z I L w_I bd_Z q_I cp_Z   (by refine ⟨?_, ?_⟩; (omega); (refine MVB.rew (by omega) (MVB.same (fun _ _ => rfl) (fun _ _ => rfl) li1))) (by omega) (by omega)
    · skip
      first | (have t91 : ¬ (v2.toInt < v7.toInt) := (not_congr (i_lt rfl rfl)).mp c88) | (have t91 : ¬ (v2.toInt < v7.toInt) := (not_congr (i_lt rfl rfl)).mp c88) | skip
      intro b92 eb92
      obtain ⟨x93, ex93, kb92, lb92⟩ := sh_f w_I.1 kv0 (j := 45) (k := 14) (m := 484000) rfl
      cases eb92.symm.trans ex93
      have o94 : vp_in (((((v5 - v5 / (4 : Int32) * (4 : Int32)) * v3) + v6) * (1000 : Int32)) + v7) 484000 := vi_of (i_add (i_mul (i_add (i_mul (i_rem rfl (show (4 : Int32).toInt = 4 from rfl) (by omega) (by omega)) (show v3.toInt = 121 by omega) (by omega) (by omega)) rfl (by omega) (by omega)) (show (1000 : Int32).toInt = 1000 from rfl) (by omega) (by omega)) rfl (by omega) (by omega)) (by omega) (by omega)
      refine ⟨o94, ?_⟩
      intro I95 eI95
      have t96 : (0 : Int32).toInt = 0 := rfl
      have w_I95 : WD Z I95 := by rw [eI95]; exact WD_putA w_I 12 45 kv0 eb92 kb92 rfl rfl (by decide) trivial
      have f_I95 : FR [(12, 45)] Z I Z I95 := by rw [eI95]; exact FR_upA w_I.2.1 kv0 eb92 kb92 rfl rfl List.mem_cons_self
      have q_I95 : FR Ws_X12_countWays Z0 I0 Z I95 := q_I.trans w0.1 w0.2.1 (f_I95.mono (by decide))
      have ao_I95_uC : I95 uC = I uC := f_I95.2.2.2 v0 12 37 uC kv0 huC_1 (by rw [kuC.2]; rfl) rfl (by decide)
      have ao_I95_uE : I95 uE = I uE := f_I95.2.2.2 v0 12 38 uE kv0 huE_1 (by rw [kuE.2]; rfl) rfl (by decide)
      have u97 : (I95 v0 0).toInt = (I v0 0).toInt := by rw [f_I95.2.2.1 v0 12 0 kv0 (by decide) (by decide)]
      intro x98 ex98
      have rx98 := i_rng x98
      first | (have tx98 : x98.toInt = v7.toInt + (1) := by (rw [ex98]; exact (i_add rfl (show (1 : Int32).toInt = 1 from rfl) (by omega) (by omega)))) | skip
      exact ih x98 Z I95 L w_I95 bd_Z q_I95 cp_Z   (by refine ⟨?_, ?_⟩; (omega); (refine MVB.rew (by omega) (MVB.same (fun q _ => congrFun ao_I95_uC q) (fun q _ => congrFun ao_I95_uE q) li1))) (by omega) (by omega) (by omega)
set_option maxHeartbeats 4000000 in
set_option maxRecDepth 100000 in
theorem l_X12_countWays_L108 {B : Nat × Nat} {T : Nat} {Z0 : jZ} {I0 : jI} {Q : Int32 → jZ → jI → jL → Prop} (w0 : WD Z0 I0) (v0 : Nat) (v1 : Int32) (v2 : Int32) (kv0 : jk Z0 v0 12) (uC : Nat) (huC : jr Z0 v0 37 = some uC) (uE : Nat) (huE : jr Z0 v0 38 = some uE) (p0 : 0 ≤ v1.toInt ∧ v1.toInt ≤ 5 ∧ 0 ≤ v2.toInt ∧ v2.toInt ≤ 999) (v3 : Int32) (v4 : Int32) (v5 : Int32) (hQ : ∀ (r : Int32) (Z' : jZ) (I' : jI) (L' : jL), WD Z' I' → BUD B Z' T → FR Ws_X12_countWays Z0 I0 Z' I' → CP Z0 Z' → Q r Z' I' L') {K90 : Nat → Int32 → Int32 → Int32 → Int32 → jZ → jI → jL → Prop} {N90 : Int} (hK90 : ∀ (v4 : Int32) (Z : jZ) (I : jI) (L : jL), WD Z I → BUD B Z T → FR Ws_X12_countWays Z0 I0 Z I → CP Z0 Z →   ((0 ≤ v1.toInt ∧ v1.toInt ≤ 5 ∧ 0 ≤ v2.toInt ∧ v2.toInt ≤ 999 ∧ v3.toInt = 121 ∧ 0 ≤ v4.toInt ∧ v4.toInt ≤ 24) ∧ MVB (3 * ((I v0 0).toInt + 1)) (I v0 0).toInt (I uC) (I uE)) → 24 - v4.toInt < N90 → K90 v0 v1 v2 v3 v4 Z I L) : ∀ (n : Nat) (v6 : Int32) (Z : jZ) (I : jI) (L : jL), WD Z I → BUD B Z T → FR Ws_X12_countWays Z0 I0 Z I → CP Z0 Z →   ((0 ≤ v1.toInt ∧ v1.toInt ≤ 5 ∧ 0 ≤ v2.toInt ∧ v2.toInt ≤ 999 ∧ v3.toInt = 121 ∧ 0 ≤ v4.toInt ∧ v4.toInt ≤ 23 ∧ v5.toInt = v4.toInt + 1 ∧ 0 ≤ v6.toInt ∧ v6.toInt ≤ 121 ∧ v4.toInt < (I v0 0).toInt) ∧ MVB (3 * ((I v0 0).toInt + 1)) (I v0 0).toInt (I uC) (I uE)) → 24 - v4.toInt ≤ N90 → 121 - v6.toInt < (n : Int) → f_X12_countWays_L108 B K90 Q n v0 v1 v2 v3 v4 v5 v6 Z I L := by
  intro n
  induction n with
  | zero =>
    intro v6 Z I L w_I bd_Z q_I cp_Z   li hm90 me
    exfalso
    omega
  | succ n ih =>
    intro v6 Z I L w_I bd_Z q_I cp_Z   li hm90 me
    unfold f_X12_countWays_L108
    have rv6 := i_rng v6
    have rv3 := i_rng v3
    have rv4 := i_rng v4
    have rv5 := i_rng v5
    have rv1 := i_rng v1
    have rv2 := i_rng v2
    obtain ⟨li0, li1⟩ := li
    have kv0_0 := kv0
    have kv0 := (q_I.1 _ _ kv0).1
    have t99 : 0 ≤ (I v0 0).toInt ∧ (I v0 0).toInt ≤ 24 := w_I.fld 12 0 kv0 (by decide)
    have huC_1 : jr Z v0 37 = some uC := (q_I.2.1 v0 12 37 kv0_0 (by decide) (by decide)).trans huC
    have luC : jlen Z uC = 75 := by obtain ⟨b9, e9, -, l9⟩ := sh_f w_I.1 kv0 (j := 37) (k := 14) (m := 75) rfl; cases huC_1.symm.trans e9; exact l9
    have kuC : jk Z uC 14 := by obtain ⟨b9, e9, k9, -⟩ := sh_f w_I.1 kv0 (j := 37) (k := 14) (m := 75) rfl; cases huC_1.symm.trans e9; exact k9
    have huE_1 : jr Z v0 38 = some uE := (q_I.2.1 v0 12 38 kv0_0 (by decide) (by decide)).trans huE
    have luE : jlen Z uE = 75 := by obtain ⟨b9, e9, -, l9⟩ := sh_f w_I.1 kv0 (j := 38) (k := 14) (m := 75) rfl; cases huE_1.symm.trans e9; exact l9
    have kuE : jk Z uE 14 := by obtain ⟨b9, e9, k9, -⟩ := sh_f w_I.1 kv0 (j := 38) (k := 14) (m := 75) rfl; cases huE_1.symm.trans e9; exact k9
    have xq_I := q_I.1
    have mv := li1
    intro b100 eb100
    obtain ⟨x101, ex101, kb100, lb100⟩ := sh_f w_I.1 kv0 (j := 9) (k := 14) (m := 6) rfl
    cases eb100.symm.trans ex101
    have o102 : vp_in v1 6 := vi_of rfl (by omega) (by omega)
    refine ⟨o102, ?_⟩
    have t103 : 0 ≤ (I b100 v1.toNatClampNeg).toInt ∧ (I b100 v1.toNatClampNeg).toInt ≤ 120 := w_I.arr 12 9 kv0 eb100 kb100 rfl rfl _
    refine ⟨fun c104 => ?_, fun c104 => ?_⟩
    · skip
      first | (have t105 : (I b100 v1.toNatClampNeg).toInt < v6.toInt := (i_lt rfl rfl).mp c104) | (have t105 : (I b100 v1.toNatClampNeg).toInt < v6.toInt := (i_lt rfl rfl).mp c104) | skip
      have t106 : (1 : Int32).toInt = 1 := rfl
      exact ⟨(4 - (1 : Int32).toInt).toNat + 1, l_X12_countWays_L165 w0 v0 v1 v2 kv0_0 uC huC uE huE p0 v3 v4 v5  hQ hK90  _ (1 : Int32) Z I L w_I bd_Z q_I cp_Z   (by refine ⟨?_, ?_⟩; (omega); (refine MVB.rew (by omega) (MVB.same (fun _ _ => rfl) (fun _ _ => rfl) li1))) (by omega) (by omega)⟩
    · skip
      first | (have t107 : ¬ ((I b100 v1.toNatClampNeg).toInt < v6.toInt) := (not_congr (i_lt rfl rfl)).mp c104) | (have t107 : ¬ ((I b100 v1.toNatClampNeg).toInt < v6.toInt) := (not_congr (i_lt rfl rfl)).mp c104) | skip
      have t108 : (0 : Int32).toInt = 0 := rfl
      exact ⟨(1000 - (0 : Int32).toInt).toNat + 1, l_X12_countWays_L122 w0 v0 v1 v2 kv0_0 uC huC uE huE p0 v3 v4 v5 v6  hQ hK90 ih  _ (0 : Int32) Z I L w_I bd_Z q_I cp_Z   (by refine ⟨?_, ?_⟩; (omega); (refine MVB.rew (by omega) (MVB.same (fun _ _ => rfl) (fun _ _ => rfl) li1))) (by omega) (by omega) (by omega)⟩
set_option maxHeartbeats 4000000 in
set_option maxRecDepth 100000 in
theorem l_X12_countWays_L90 {B : Nat × Nat} {T : Nat} {Z0 : jZ} {I0 : jI} {Q : Int32 → jZ → jI → jL → Prop} (w0 : WD Z0 I0) (v0 : Nat) (v1 : Int32) (v2 : Int32) (kv0 : jk Z0 v0 12) (uC : Nat) (huC : jr Z0 v0 37 = some uC) (uE : Nat) (huE : jr Z0 v0 38 = some uE) (p0 : 0 ≤ v1.toInt ∧ v1.toInt ≤ 5 ∧ 0 ≤ v2.toInt ∧ v2.toInt ≤ 999) (v3 : Int32) (hQ : ∀ (r : Int32) (Z' : jZ) (I' : jI) (L' : jL), WD Z' I' → BUD B Z' T → FR Ws_X12_countWays Z0 I0 Z' I' → CP Z0 Z' → Q r Z' I' L') : ∀ (n : Nat) (v4 : Int32) (Z : jZ) (I : jI) (L : jL), WD Z I → BUD B Z T → FR Ws_X12_countWays Z0 I0 Z I → CP Z0 Z →   ((0 ≤ v1.toInt ∧ v1.toInt ≤ 5 ∧ 0 ≤ v2.toInt ∧ v2.toInt ≤ 999 ∧ v3.toInt = 121 ∧ 0 ≤ v4.toInt ∧ v4.toInt ≤ 24) ∧ MVB (3 * ((I v0 0).toInt + 1)) (I v0 0).toInt (I uC) (I uE)) → 24 - v4.toInt < (n : Int) → f_X12_countWays_L90 B  Q n v0 v1 v2 v3 v4 Z I L := by
  intro n
  induction n with
  | zero =>
    intro v4 Z I L w_I bd_Z q_I cp_Z   li  me
    exfalso
    omega
  | succ n ih =>
    intro v4 Z I L w_I bd_Z q_I cp_Z   li  me
    unfold f_X12_countWays_L90
    have rv4 := i_rng v4
    have rv3 := i_rng v3
    have rv1 := i_rng v1
    have rv2 := i_rng v2
    obtain ⟨li0, li1⟩ := li
    have kv0_0 := kv0
    have kv0 := (q_I.1 _ _ kv0).1
    have t109 : 0 ≤ (I v0 0).toInt ∧ (I v0 0).toInt ≤ 24 := w_I.fld 12 0 kv0 (by decide)
    have huC_1 : jr Z v0 37 = some uC := (q_I.2.1 v0 12 37 kv0_0 (by decide) (by decide)).trans huC
    have luC : jlen Z uC = 75 := by obtain ⟨b9, e9, -, l9⟩ := sh_f w_I.1 kv0 (j := 37) (k := 14) (m := 75) rfl; cases huC_1.symm.trans e9; exact l9
    have kuC : jk Z uC 14 := by obtain ⟨b9, e9, k9, -⟩ := sh_f w_I.1 kv0 (j := 37) (k := 14) (m := 75) rfl; cases huC_1.symm.trans e9; exact k9
    have huE_1 : jr Z v0 38 = some uE := (q_I.2.1 v0 12 38 kv0_0 (by decide) (by decide)).trans huE
    have luE : jlen Z uE = 75 := by obtain ⟨b9, e9, -, l9⟩ := sh_f w_I.1 kv0 (j := 38) (k := 14) (m := 75) rfl; cases huE_1.symm.trans e9; exact l9
    have kuE : jk Z uE 14 := by obtain ⟨b9, e9, k9, -⟩ := sh_f w_I.1 kv0 (j := 38) (k := 14) (m := 75) rfl; cases huE_1.symm.trans e9; exact k9
    have xq_I := q_I.1
    have mv := li1
    have t111 : 0 ≤ (I v0 0).toInt ∧ (I v0 0).toInt ≤ 24 := w_I.fld 12 0 kv0 (by decide)
    refine ⟨fun c112 => ?_, fun c112 => ?_⟩
    · skip
      first | (have t113 : (I v0 0).toInt ≤ v4.toInt := (i_le rfl rfl).mp c112) | (have t113 : (I v0 0).toInt ≤ v4.toInt := (i_le rfl rfl).mp c112) | skip
      have t114 : (0 : Int32).toInt = 0 := rfl
      have t115 : (0 : Int32).toInt = 0 := rfl
      exact ⟨(121 - (0 : Int32).toInt).toNat + 1, l_X12_countWays_L338 w0 v0 v1 v2 kv0_0 uC huC uE huE p0 v3  hQ   _ (0 : Int32) (0 : Int32) Z I L w_I bd_Z q_I cp_Z   (by omega)  (by omega)⟩
    · skip
      first | (have t116 : ¬ ((I v0 0).toInt ≤ v4.toInt) := (not_congr (i_le rfl rfl)).mp c112) | (have t116 : ¬ ((I v0 0).toInt ≤ v4.toInt) := (not_congr (i_le rfl rfl)).mp c112) | skip
      intro x117 ex117
      have rx117 := i_rng x117
      first | (have tx117 : x117.toInt = (v4.toInt + (1)) := by (rw [ex117]; exact (i_add rfl (show (1 : Int32).toInt = 1 from rfl) (by omega) (by omega)))) | (have tx117 : x117.toInt = (v4 + (1 : Int32)).toInt := by rw [ex117])
      have t118 : (0 : Int32).toInt = 0 := rfl
      exact ⟨(121 - (0 : Int32).toInt).toNat + 1, l_X12_countWays_L108 w0 v0 v1 v2 kv0_0 uC huC uE huE p0 v3 v4 x117  hQ ih  _ (0 : Int32) Z I L w_I bd_Z q_I cp_Z   (by refine ⟨?_, ?_⟩; (omega); (refine MVB.rew (by omega) (MVB.same (fun _ _ => rfl) (fun _ _ => rfl) li1))) (by omega) (by omega)⟩
set_option maxHeartbeats 4000000 in
set_option maxRecDepth 100000 in
theorem l_X12_countWays_L47 {B : Nat × Nat} {T : Nat} {Z0 : jZ} {I0 : jI} {Q : Int32 → jZ → jI → jL → Prop} (w0 : WD Z0 I0) (v0 : Nat) (v1 : Int32) (v2 : Int32) (kv0 : jk Z0 v0 12) (uC : Nat) (huC : jr Z0 v0 37 = some uC) (uE : Nat) (huE : jr Z0 v0 38 = some uE) (p0 : 0 ≤ v1.toInt ∧ v1.toInt ≤ 5 ∧ 0 ≤ v2.toInt ∧ v2.toInt ≤ 999) (v3 : Int32) (v4 : Int32) (hQ : ∀ (r : Int32) (Z' : jZ) (I' : jI) (L' : jL), WD Z' I' → BUD B Z' T → FR Ws_X12_countWays Z0 I0 Z' I' → CP Z0 Z' → Q r Z' I' L') {K33 : Nat → Int32 → Int32 → Int32 → Int32 → jZ → jI → jL → Prop} {N33 : Int} (hK33 : ∀ (v4 : Int32) (Z : jZ) (I : jI) (L : jL), WD Z I → BUD B Z T → FR Ws_X12_countWays Z0 I0 Z I → CP Z0 Z →   ((0 ≤ v1.toInt ∧ v1.toInt ≤ 5 ∧ 0 ≤ v2.toInt ∧ v2.toInt ≤ 999 ∧ v3.toInt = 121 ∧ 0 ≤ v4.toInt ∧ v4.toInt ≤ 121) ∧ MVB (3 * ((I v0 0).toInt + 1)) (I v0 0).toInt (I uC) (I uE)) → 121 - v4.toInt < N33 → K33 v0 v1 v2 v3 v4 Z I L) : ∀ (n : Nat) (v5 : Int32) (Z : jZ) (I : jI) (L : jL), WD Z I → BUD B Z T → FR Ws_X12_countWays Z0 I0 Z I → CP Z0 Z →   ((0 ≤ v1.toInt ∧ v1.toInt ≤ 5 ∧ 0 ≤ v2.toInt ∧ v2.toInt ≤ 999 ∧ v3.toInt = 121 ∧ 0 ≤ v4.toInt ∧ v4.toInt ≤ 120 ∧ 0 ≤ v5.toInt ∧ v5.toInt ≤ 1000) ∧ MVB (3 * ((I v0 0).toInt + 1)) (I v0 0).toInt (I uC) (I uE)) → 121 - v4.toInt ≤ N33 → 1000 - v5.toInt < (n : Int) → f_X12_countWays_L47 B K33 Q n v0 v1 v2 v3 v4 v5 Z I L := by
  intro n
  induction n with
  | zero =>
    intro v5 Z I L w_I bd_Z q_I cp_Z   li hm33 me
    exfalso
    omega
  | succ n ih =>
    intro v5 Z I L w_I bd_Z q_I cp_Z   li hm33 me
    unfold f_X12_countWays_L47
    have rv5 := i_rng v5
    have rv3 := i_rng v3
    have rv4 := i_rng v4
    have rv1 := i_rng v1
    have rv2 := i_rng v2
    obtain ⟨li0, li1⟩ := li
    have kv0_0 := kv0
    have kv0 := (q_I.1 _ _ kv0).1
    have t119 : 0 ≤ (I v0 0).toInt ∧ (I v0 0).toInt ≤ 24 := w_I.fld 12 0 kv0 (by decide)
    have huC_1 : jr Z v0 37 = some uC := (q_I.2.1 v0 12 37 kv0_0 (by decide) (by decide)).trans huC
    have luC : jlen Z uC = 75 := by obtain ⟨b9, e9, -, l9⟩ := sh_f w_I.1 kv0 (j := 37) (k := 14) (m := 75) rfl; cases huC_1.symm.trans e9; exact l9
    have kuC : jk Z uC 14 := by obtain ⟨b9, e9, k9, -⟩ := sh_f w_I.1 kv0 (j := 37) (k := 14) (m := 75) rfl; cases huC_1.symm.trans e9; exact k9
    have huE_1 : jr Z v0 38 = some uE := (q_I.2.1 v0 12 38 kv0_0 (by decide) (by decide)).trans huE
    have luE : jlen Z uE = 75 := by obtain ⟨b9, e9, -, l9⟩ := sh_f w_I.1 kv0 (j := 38) (k := 14) (m := 75) rfl; cases huE_1.symm.trans e9; exact l9
    have kuE : jk Z uE 14 := by obtain ⟨b9, e9, k9, -⟩ := sh_f w_I.1 kv0 (j := 38) (k := 14) (m := 75) rfl; cases huE_1.symm.trans e9; exact k9
    have xq_I := q_I.1
    have mv := li1
    refine ⟨fun c120 => ?_, fun c120 => ?_⟩
    · skip
      first | (have t121 : v2.toInt < v5.toInt := (i_lt rfl rfl).mp c120) | (have t121 : v2.toInt < v5.toInt := (i_lt rfl rfl).mp c120) | skip
      intro x122 ex122
      have rx122 := i_rng x122
      first | (have tx122 : x122.toInt = v4.toInt + (1) := by (rw [ex122]; exact (i_add rfl (show (1 : Int32).toInt = 1 from rfl) (by omega) (by omega)))) | skip
      exact hK33 x122 Z I L w_I bd_Z q_I cp_Z   (by refine ⟨?_, ?_⟩; (omega); (first | assumption | refine MVB.rew (by omega) (MVB.same (fun _ _ => rfl) (fun _ _ => rfl) (by assumption))))  (by omega)
    · skip
      first | (have t123 : ¬ (v2.toInt < v5.toInt) := (not_congr (i_lt rfl rfl)).mp c120) | (have t123 : ¬ (v2.toInt < v5.toInt) := (not_congr (i_lt rfl rfl)).mp c120) | skip
      intro b124 eb124
      obtain ⟨x125, ex125, kb124, lb124⟩ := sh_f w_I.1 kv0 (j := 45) (k := 14) (m := 484000) rfl
      cases eb124.symm.trans ex125
      have o126 : vp_in ((v4 * (1000 : Int32)) + v5) 484000 := vi_of (i_add (i_mul rfl (show (1000 : Int32).toInt = 1000 from rfl) (by omega) (by omega)) rfl (by omega) (by omega)) (by omega) (by omega)
      refine ⟨o126, ?_⟩
      intro I127 eI127
      have t128 : (0 : Int32).toInt = 0 := rfl
      have w_I127 : WD Z I127 := by rw [eI127]; exact WD_putA w_I 12 45 kv0 eb124 kb124 rfl rfl (by decide) trivial
      have f_I127 : FR [(12, 45)] Z I Z I127 := by rw [eI127]; exact FR_upA w_I.2.1 kv0 eb124 kb124 rfl rfl List.mem_cons_self
      have q_I127 : FR Ws_X12_countWays Z0 I0 Z I127 := q_I.trans w0.1 w0.2.1 (f_I127.mono (by decide))
      have ao_I127_uC : I127 uC = I uC := f_I127.2.2.2 v0 12 37 uC kv0 huC_1 (by rw [kuC.2]; rfl) rfl (by decide)
      have ao_I127_uE : I127 uE = I uE := f_I127.2.2.2 v0 12 38 uE kv0 huE_1 (by rw [kuE.2]; rfl) rfl (by decide)
      have u129 : (I127 v0 0).toInt = (I v0 0).toInt := by rw [f_I127.2.2.1 v0 12 0 kv0 (by decide) (by decide)]
      intro x130 ex130
      have rx130 := i_rng x130
      first | (have tx130 : x130.toInt = v5.toInt + (1) := by (rw [ex130]; exact (i_add rfl (show (1 : Int32).toInt = 1 from rfl) (by omega) (by omega)))) | skip
      exact ih x130 Z I127 L w_I127 bd_Z q_I127 cp_Z   (by refine ⟨?_, ?_⟩; (omega); (refine MVB.rew (by omega) (MVB.same (fun q _ => congrFun ao_I127_uC q) (fun q _ => congrFun ao_I127_uE q) li1))) (by omega) (by omega)
set_option maxHeartbeats 4000000 in
set_option maxRecDepth 100000 in
theorem l_X12_countWays_L33 {B : Nat × Nat} {T : Nat} {Z0 : jZ} {I0 : jI} {Q : Int32 → jZ → jI → jL → Prop} (w0 : WD Z0 I0) (v0 : Nat) (v1 : Int32) (v2 : Int32) (kv0 : jk Z0 v0 12) (uC : Nat) (huC : jr Z0 v0 37 = some uC) (uE : Nat) (huE : jr Z0 v0 38 = some uE) (p0 : 0 ≤ v1.toInt ∧ v1.toInt ≤ 5 ∧ 0 ≤ v2.toInt ∧ v2.toInt ≤ 999) (v3 : Int32) (hQ : ∀ (r : Int32) (Z' : jZ) (I' : jI) (L' : jL), WD Z' I' → BUD B Z' T → FR Ws_X12_countWays Z0 I0 Z' I' → CP Z0 Z' → Q r Z' I' L') : ∀ (n : Nat) (v4 : Int32) (Z : jZ) (I : jI) (L : jL), WD Z I → BUD B Z T → FR Ws_X12_countWays Z0 I0 Z I → CP Z0 Z →   ((0 ≤ v1.toInt ∧ v1.toInt ≤ 5 ∧ 0 ≤ v2.toInt ∧ v2.toInt ≤ 999 ∧ v3.toInt = 121 ∧ 0 ≤ v4.toInt ∧ v4.toInt ≤ 121) ∧ MVB (3 * ((I v0 0).toInt + 1)) (I v0 0).toInt (I uC) (I uE)) → 121 - v4.toInt < (n : Int) → f_X12_countWays_L33 B  Q n v0 v1 v2 v3 v4 Z I L := by
  intro n
  induction n with
  | zero =>
    intro v4 Z I L w_I bd_Z q_I cp_Z   li  me
    exfalso
    omega
  | succ n ih =>
    intro v4 Z I L w_I bd_Z q_I cp_Z   li  me
    unfold f_X12_countWays_L33
    have rv4 := i_rng v4
    have rv3 := i_rng v3
    have rv1 := i_rng v1
    have rv2 := i_rng v2
    obtain ⟨li0, li1⟩ := li
    have kv0_0 := kv0
    have kv0 := (q_I.1 _ _ kv0).1
    have t131 : 0 ≤ (I v0 0).toInt ∧ (I v0 0).toInt ≤ 24 := w_I.fld 12 0 kv0 (by decide)
    have huC_1 : jr Z v0 37 = some uC := (q_I.2.1 v0 12 37 kv0_0 (by decide) (by decide)).trans huC
    have luC : jlen Z uC = 75 := by obtain ⟨b9, e9, -, l9⟩ := sh_f w_I.1 kv0 (j := 37) (k := 14) (m := 75) rfl; cases huC_1.symm.trans e9; exact l9
    have kuC : jk Z uC 14 := by obtain ⟨b9, e9, k9, -⟩ := sh_f w_I.1 kv0 (j := 37) (k := 14) (m := 75) rfl; cases huC_1.symm.trans e9; exact k9
    have huE_1 : jr Z v0 38 = some uE := (q_I.2.1 v0 12 38 kv0_0 (by decide) (by decide)).trans huE
    have luE : jlen Z uE = 75 := by obtain ⟨b9, e9, -, l9⟩ := sh_f w_I.1 kv0 (j := 38) (k := 14) (m := 75) rfl; cases huE_1.symm.trans e9; exact l9
    have kuE : jk Z uE 14 := by obtain ⟨b9, e9, k9, -⟩ := sh_f w_I.1 kv0 (j := 38) (k := 14) (m := 75) rfl; cases huE_1.symm.trans e9; exact k9
    have xq_I := q_I.1
    have mv := li1
    intro b132 eb132
    obtain ⟨x133, ex133, kb132, lb132⟩ := sh_f w_I.1 kv0 (j := 9) (k := 14) (m := 6) rfl
    cases eb132.symm.trans ex133
    have o134 : vp_in v1 6 := vi_of rfl (by omega) (by omega)
    refine ⟨o134, ?_⟩
    have t135 : 0 ≤ (I b132 v1.toNatClampNeg).toInt ∧ (I b132 v1.toNatClampNeg).toInt ≤ 120 := w_I.arr 12 9 kv0 eb132 kb132 rfl rfl _
    refine ⟨fun c136 => ?_, fun c136 => ?_⟩
    · skip
      first | (have t137 : (I b132 v1.toNatClampNeg).toInt < v4.toInt := (i_lt rfl rfl).mp c136) | (have t137 : (I b132 v1.toNatClampNeg).toInt < v4.toInt := (i_lt rfl rfl).mp c136) | skip
      intro b138 eb138
      obtain ⟨x139, ex139, kb138, lb138⟩ := sh_f w_I.1 kv0 (j := 45) (k := 14) (m := 484000) rfl
      cases eb138.symm.trans ex139
      intro I140 eI140
      have t141 : (1 : Int32).toInt = 1 := rfl
      have w_I140 : WD Z I140 := by rw [eI140]; exact WD_putA w_I 12 45 kv0 eb138 kb138 rfl rfl (by decide) trivial
      have f_I140 : FR [(12, 45)] Z I Z I140 := by rw [eI140]; exact FR_upA w_I.2.1 kv0 eb138 kb138 rfl rfl List.mem_cons_self
      have q_I140 : FR Ws_X12_countWays Z0 I0 Z I140 := q_I.trans w0.1 w0.2.1 (f_I140.mono (by decide))
      have ao_I140_uC : I140 uC = I uC := f_I140.2.2.2 v0 12 37 uC kv0 huC_1 (by rw [kuC.2]; rfl) rfl (by decide)
      have ao_I140_uE : I140 uE = I uE := f_I140.2.2.2 v0 12 38 uE kv0 huE_1 (by rw [kuE.2]; rfl) rfl (by decide)
      have u142 : (I140 v0 0).toInt = (I v0 0).toInt := by rw [f_I140.2.2.1 v0 12 0 kv0 (by decide) (by decide)]
      have t143 : (0 : Int32).toInt = 0 := rfl
      exact ⟨(24 - (0 : Int32).toInt).toNat + 1, l_X12_countWays_L90 w0 v0 v1 v2 kv0_0 uC huC uE huE p0 v3  hQ   _ (0 : Int32) Z I140 L w_I140 bd_Z q_I140 cp_Z   (by refine ⟨?_, ?_⟩; (omega); (refine MVB.rew (by omega) (MVB.same (fun q _ => congrFun ao_I140_uC q) (fun q _ => congrFun ao_I140_uE q) li1)))  (by omega)⟩
    · skip
      first | (have t144 : ¬ ((I b132 v1.toNatClampNeg).toInt < v4.toInt) := (not_congr (i_lt rfl rfl)).mp c136) | (have t144 : ¬ ((I b132 v1.toNatClampNeg).toInt < v4.toInt) := (not_congr (i_lt rfl rfl)).mp c136) | skip
      have t145 : (0 : Int32).toInt = 0 := rfl
      exact ⟨(1000 - (0 : Int32).toInt).toNat + 1, l_X12_countWays_L47 w0 v0 v1 v2 kv0_0 uC huC uE huE p0 v3 v4  hQ ih  _ (0 : Int32) Z I L w_I bd_Z q_I cp_Z   (by refine ⟨?_, ?_⟩; (omega); (refine MVB.rew (by omega) (MVB.same (fun _ _ => rfl) (fun _ _ => rfl) li1))) (by omega) (by omega)⟩
set_option maxHeartbeats 4000000 in
set_option maxRecDepth 100000 in
theorem s_X12_countWays {B : Nat × Nat} {T : Nat} {Z : jZ} {I : jI} {L : jL} (w_I : WD Z I) (bd_Z : BUD B Z T) (v0 : Nat) (v1 : Int32) (v2 : Int32) (kv0 : jk Z v0 12) (uC : Nat) (huC : jr Z v0 37 = some uC) (uE : Nat) (huE : jr Z v0 38 = some uE) (p0 : 0 ≤ v1.toInt ∧ v1.toInt ≤ 5 ∧ 0 ≤ v2.toInt ∧ v2.toInt ≤ 999) {Q : Int32 → jZ → jI → jL → Prop} (hQ : ∀ (r : Int32) (Z' : jZ) (I' : jI) (L' : jL), WD Z' I' → BUD B Z' T → FR Ws_X12_countWays Z I Z' I' → CP Z Z' → Q r Z' I' L') : f_X12_countWays B v0 v1 v2 Z I L Q := by
  unfold f_X12_countWays
  have q_I : FR Ws_X12_countWays Z I Z I := FR.rf
  have cp_Z : CP Z Z := CP.rf
  have rv1 := i_rng v1
  have rv2 := i_rng v2
  have t146 : 0 ≤ (I v0 0).toInt ∧ (I v0 0).toInt ≤ 24 := w_I.fld 12 0 kv0 (by decide)
  have luC : jlen Z uC = 75 := by obtain ⟨b9, e9, -, l9⟩ := sh_f w_I.1 kv0 (j := 37) (k := 14) (m := 75) rfl; cases huC.symm.trans e9; exact l9
  have kuC : jk Z uC 14 := by obtain ⟨b9, e9, k9, -⟩ := sh_f w_I.1 kv0 (j := 37) (k := 14) (m := 75) rfl; cases huC.symm.trans e9; exact k9
  have luE : jlen Z uE = 75 := by obtain ⟨b9, e9, -, l9⟩ := sh_f w_I.1 kv0 (j := 38) (k := 14) (m := 75) rfl; cases huE.symm.trans e9; exact l9
  have kuE : jk Z uE 14 := by obtain ⟨b9, e9, k9, -⟩ := sh_f w_I.1 kv0 (j := 38) (k := 14) (m := 75) rfl; cases huE.symm.trans e9; exact k9
  intro I147 eI147
  have t148 : (-1 : Int32).toInt = -1 := rfl
  have w_I147 : WD Z I147 := by rw [eI147]; exact WD_putF w_I 12 46 kv0 (by decide) (by decide) trivial
  have f_I147 : FR [(12, 46)] Z I Z I147 := by rw [eI147]; exact FR_putF kv0 (by decide) List.mem_cons_self
  have q_I147 : FR Ws_X12_countWays Z I Z I147 := q_I.trans w_I.1 w_I.2.1 (f_I147.mono (by decide))
  have ao_I147_uC : I147 uC = I uC := f_I147.2.2.2 v0 12 37 uC kv0 huC (by rw [kuC.2]; rfl) rfl (by decide)
  have ao_I147_uE : I147 uE = I uE := f_I147.2.2.2 v0 12 38 uE kv0 huE (by rw [kuE.2]; rfl) rfl (by decide)
  have u149 : (I147 v0 0).toInt = (I v0 0).toInt := by rw [f_I147.2.2.1 v0 12 0 kv0 (by decide) (by decide)]
  first | (have u150 : (I147 v0 46).toInt = (-1) := by (rw [eI147, show jpI I v0 46 (-1 : Int32) v0 46 = (-1 : Int32) from jpI_at] <;> exact (show (-1 : Int32).toInt = -1 from rfl))) | skip
  intro I151 eI151
  have t152 : (0 : Int32).toInt = 0 := rfl
  have w_I151 : WD Z I151 := by rw [eI151]; exact WD_putF w_I147 12 47 kv0 (by decide) (by decide) trivial
  have f_I151 : FR [(12, 47)] Z I147 Z I151 := by rw [eI151]; exact FR_putF kv0 (by decide) List.mem_cons_self
  have q_I151 : FR Ws_X12_countWays Z I Z I151 := q_I147.trans w_I.1 w_I.2.1 (f_I151.mono (by decide))
  have ao_I151_uC : I151 uC = I uC := (f_I151.2.2.2 v0 12 37 uC kv0 huC (by rw [kuC.2]; rfl) rfl (by decide)).trans ao_I147_uC
  have ao_I151_uE : I151 uE = I uE := (f_I151.2.2.2 v0 12 38 uE kv0 huE (by rw [kuE.2]; rfl) rfl (by decide)).trans ao_I147_uE
  have u153 : (I151 v0 0).toInt = (I147 v0 0).toInt := by rw [f_I151.2.2.1 v0 12 0 kv0 (by decide) (by decide)]
  have u154 : (I151 v0 46).toInt = (I147 v0 46).toInt := by rw [f_I151.2.2.1 v0 12 46 kv0 (by decide) (by decide)]
  first | (have u155 : (I151 v0 47).toInt = (0) := by (rw [eI151, show jpI I147 v0 47 (0 : Int32) v0 47 = (0 : Int32) from jpI_at] <;> exact (show (0 : Int32).toInt = 0 from rfl))) | skip
  intro b156 eb156
  obtain ⟨x157, ex157, kb156, lb156⟩ := sh_f w_I151.1 kv0 (j := 10) (k := 14) (m := 6) rfl
  cases eb156.symm.trans ex157
  have o158 : vp_in v1 6 := vi_of rfl (by omega) (by omega)
  refine ⟨o158, ?_⟩
  have t159 : 0 ≤ (I151 b156 v1.toNatClampNeg).toInt ∧ (I151 b156 v1.toNatClampNeg).toInt ≤ 999 := w_I151.arr 12 10 kv0 eb156 kb156 rfl rfl _
  refine ⟨fun c160 => ?_, fun c160 => ?_⟩
  · skip
    first | (have t161 : v2.toInt ≤ (I151 b156 v1.toNatClampNeg).toInt := (i_le rfl rfl).mp c160) | (have t161 : v2.toInt ≤ (I151 b156 v1.toNatClampNeg).toInt := (i_le rfl rfl).mp c160) | skip
    refine s_X12_layMoves w_I151 bd_Z v0 v1 kv0 uC huC uE huE (by omega) (fun  Z165 I163 L164 w_I163 bd_Z165 f_I163 c_Z165 p162 => ?_)
    have q_I163 : FR Ws_X12_countWays Z I Z165 I163 := q_I151.trans w_I.1 w_I.2.1 (f_I163.mono (by decide))
    have cp_Z165 : CP Z Z165 := cp_Z.trans q_I151.1 c_Z165
    have x_Z165 := f_I163.1
    have k166 := (f_I163.1 _ _ kv0).1
    have k167 := (f_I163.1 _ _ kuC).1
    have l168 := (f_I163.1 _ _ kuC).2.trans luC
    have k169 := (f_I163.1 _ _ kv0).1
    have e170 := (f_I163.2.1 v0 12 37 kv0 (by decide) (by decide)).trans huC
    have k171 := (f_I163.1 _ _ kuE).1
    have l172 := (f_I163.1 _ _ kuE).2.trans luE
    have k173 := (f_I163.1 _ _ kv0).1
    have e174 := (f_I163.2.1 v0 12 38 kv0 (by decide) (by decide)).trans huE
    have k175 := (f_I163.1 _ _ kb156).1
    have l176 := (f_I163.1 _ _ kb156).2.trans lb156
    have k177 := (f_I163.1 _ _ kv0).1
    have e178 := (f_I163.2.1 v0 12 10 kv0 (by decide) (by decide)).trans eb156
    have u179 : (I163 v0 0).toInt = (I151 v0 0).toInt := by rw [f_I163.2.2.1 v0 12 0 kv0 (by decide) (by decide)]
    have u180 : (I163 v0 46).toInt = (I151 v0 46).toInt := by rw [f_I163.2.2.1 v0 12 46 kv0 (by decide) (by decide)]
    have u181 : (I163 v0 47).toInt = (I151 v0 47).toInt := by rw [f_I163.2.2.1 v0 12 47 kv0 (by decide) (by decide)]
    have t182 : (121 : Int32).toInt = 121 := rfl
    have t183 : (0 : Int32).toInt = 0 := rfl
    exact ⟨(121 - (0 : Int32).toInt).toNat + 1, l_X12_countWays_L33 w_I v0 v1 v2 kv0 uC huC uE huE p0 (121 : Int32)  hQ   _ (0 : Int32) Z165 I163 L164 w_I163 bd_Z165 q_I163 cp_Z165   (by refine ⟨?_, ?_⟩; (omega); (first | assumption | refine MVB.rew (by omega) (MVB.same (fun _ _ => rfl) (fun _ _ => rfl) (by assumption))))  (by omega)⟩
  · skip
    first | (have t184 : ¬ (v2.toInt ≤ (I151 b156 v1.toNatClampNeg).toInt) := (not_congr (i_le rfl rfl)).mp c160) | (have t184 : ¬ (v2.toInt ≤ (I151 b156 v1.toNatClampNeg).toInt) := (not_congr (i_le rfl rfl)).mp c160) | skip
    have t185 : (0 : Int32).toInt = 0 := rfl
    exact hQ (0 : Int32) Z I151 L w_I151 bd_Z q_I151 cp_Z 
