def Ws_X12_findClimb : List (Nat × Nat) := [(12, 24), (12, 25), (12, 26), (12, 27), (12, 31), (12, 32), (12, 33), (12, 34), (12, 37), (12, 38), (12, 40), (12, 41), (12, 42), (12, 43), (12, 44)]
set_option maxHeartbeats 4000000 in
set_option maxRecDepth 100000 in
theorem l_X12_findClimb_L144 {B : Nat × Nat} {T : Nat} {Z0 : jZ} {I0 : jI} {Q : Int32 → jZ → jI → jL → Prop} (w0 : WD Z0 I0) (v0 : Nat) (v1 : Int32) (kv0 : jk Z0 v0 12) (uC : Nat) (huC : jr Z0 v0 37 = some uC) (uE : Nat) (huE : jr Z0 v0 38 = some uE) (uB : Nat) (huB : jr Z0 v0 40 = some uB) (uK : Nat) (huK : jr Z0 v0 9 = some uK) (p0 : 0 ≤ v1.toInt ∧ v1.toInt ≤ 5) (p1 : 1 ≤ (I0 v0 0).toInt) (v3 : Int32) (v4 : Int32) (hQ : ∀ (r : Int32) (Z' : jZ) (I' : jI) (L' : jL), WD Z' I' → BUD B Z' T → FR Ws_X12_findClimb Z0 I0 Z' I' → CP Z0 Z' → Q r Z' I' L') {K131 : Nat → Int32 → Int32 → jZ → jI → jL → Prop} {N131 : Int} (hK131 : ∀ (v3 : Int32) (v4 : Int32) (Z : jZ) (I : jI) (L : jL), WD Z I → BUD B Z T → FR Ws_X12_findClimb Z0 I0 Z I → CP Z0 Z →   ((-1 ≤ v3.toInt ∧ v3.toInt < (I0 v0 0).toInt ∧ (I0 v0 0).toInt ≤ 24 ∧ 0 ≤ v4.toInt ∧ v4.toInt ≤ (I0 uK v1.toNatClampNeg).toInt ∧ (I0 uK v1.toNatClampNeg).toInt ≤ 120 ∧ ¬ (I uB (1000 * (v3.toInt + 1) + v4.toInt).toNat).toInt = 1000000000 ∧ 0 ≤ (I v0 43).toInt ∧ (I v0 43).toInt ≤ v3.toInt + 1) ∧ MVB (3 * ((I0 v0 0).toInt + 1)) (I0 v0 0).toInt (I uC) (I uE) ∧ DPR (I0 v0 0).toInt (I0 uK v1.toNatClampNeg).toInt (I uC) (I uE) (I uB) (-1) 0) → 24 - v3.toInt < N131 → K131 v0 v3 v4 Z I L) : ∀ (n : Nat) (v5 : Int32) (Z : jZ) (I : jI) (L : jL), WD Z I → BUD B Z T → FR Ws_X12_findClimb Z0 I0 Z I → CP Z0 Z →   ((-1 ≤ v3.toInt ∧ v3.toInt < (I0 v0 0).toInt - 1 ∧ (I0 v0 0).toInt ≤ 24 ∧ 0 ≤ v4.toInt ∧ v4.toInt ≤ (I0 uK v1.toNatClampNeg).toInt ∧ (I0 uK v1.toNatClampNeg).toInt ≤ 120 ∧ 0 ≤ (I v0 43).toInt ∧ (I v0 43).toInt ≤ v3.toInt + 1 ∧ 1 ≤ v5.toInt ∧ v5.toInt ≤ 3) ∧ MVB (3 * ((I0 v0 0).toInt + 1)) (I0 v0 0).toInt (I uC) (I uE) ∧ DPR (I0 v0 0).toInt (I0 uK v1.toNatClampNeg).toInt (I uC) (I uE) (I uB) (-1) 0 ∧ ∃ far : Int, v5.toInt ≤ far ∧ far ≤ 3 ∧ CN (I uC) (I uE) (I uB) (v3.toInt + 1) v4.toInt far) → 24 - v3.toInt ≤ N131 → 4 - v5.toInt < (n : Int) → f_X12_findClimb_L144 B K131 Q n v0 v3 v4 v5 Z I L := by
  intro n
  induction n with
  | zero =>
    intro v5 Z I L w_I bd_Z q_I cp_Z   li hm131 me
    exfalso
    omega
  | succ n ih =>
    intro v5 Z I L w_I bd_Z q_I cp_Z   li hm131 me
    unfold f_X12_findClimb_L144
    have rv5 := i_rng v5
    have rv3 := i_rng v3
    have rv4 := i_rng v4
    have rv1 := i_rng v1
    obtain ⟨li0, li1, li2, li3⟩ := li
    have kv0_0 := kv0
    have kv0 := (q_I.1 _ _ kv0).1
    have t1 : 0 ≤ (I v0 0).toInt ∧ (I v0 0).toInt ≤ 24 := w_I.fld 12 0 kv0 (by decide)
    have t2 : 0 ≤ (I v0 43).toInt ∧ (I v0 43).toInt ≤ 24 := w_I.fld 12 43 kv0 (by decide)
    have huC_1 : jr Z v0 37 = some uC := (q_I.2.1 v0 12 37 kv0_0 (by decide) (by decide)).trans huC
    have luC : jlen Z uC = 75 := by obtain ⟨b9, e9, -, l9⟩ := sh_f w_I.1 kv0 (j := 37) (k := 14) (m := 75) rfl; cases huC_1.symm.trans e9; exact l9
    have kuC : jk Z uC 14 := by obtain ⟨b9, e9, k9, -⟩ := sh_f w_I.1 kv0 (j := 37) (k := 14) (m := 75) rfl; cases huC_1.symm.trans e9; exact k9
    have huE_1 : jr Z v0 38 = some uE := (q_I.2.1 v0 12 38 kv0_0 (by decide) (by decide)).trans huE
    have luE : jlen Z uE = 75 := by obtain ⟨b9, e9, -, l9⟩ := sh_f w_I.1 kv0 (j := 38) (k := 14) (m := 75) rfl; cases huE_1.symm.trans e9; exact l9
    have kuE : jk Z uE 14 := by obtain ⟨b9, e9, k9, -⟩ := sh_f w_I.1 kv0 (j := 38) (k := 14) (m := 75) rfl; cases huE_1.symm.trans e9; exact k9
    have huB_1 : jr Z v0 40 = some uB := (q_I.2.1 v0 12 40 kv0_0 (by decide) (by decide)).trans huB
    have luB : jlen Z uB = 25000 := by obtain ⟨b9, e9, -, l9⟩ := sh_f w_I.1 kv0 (j := 40) (k := 14) (m := 25000) rfl; cases huB_1.symm.trans e9; exact l9
    have kuB : jk Z uB 14 := by obtain ⟨b9, e9, k9, -⟩ := sh_f w_I.1 kv0 (j := 40) (k := 14) (m := 25000) rfl; cases huB_1.symm.trans e9; exact k9
    have huK_1 : jr Z v0 9 = some uK := (q_I.2.1 v0 12 9 kv0_0 (by decide) (by decide)).trans huK
    have luK : jlen Z uK = 6 := by obtain ⟨b9, e9, -, l9⟩ := sh_f w_I.1 kv0 (j := 9) (k := 14) (m := 6) rfl; cases huK_1.symm.trans e9; exact l9
    have kuK : jk Z uK 14 := by obtain ⟨b9, e9, k9, -⟩ := sh_f w_I.1 kv0 (j := 9) (k := 14) (m := 6) rfl; cases huK_1.symm.trans e9; exact k9
    have xq_I := q_I.1
    have e0 : (I v0 0).toInt = (I0 v0 0).toInt := by rw [q_I.2.2.1 v0 12 0 kv0_0 (by decide) (by decide)]
    have ek : I uK = I0 uK := q_I.2.2.2 v0 12 9 uK kv0_0 huK (by obtain ⟨b9, e9, k9, -⟩ := sh_f w0.1 kv0_0 (j := 9) (k := 14) (m := 6) rfl; cases huK.symm.trans e9; rw [k9.2]; rfl) rfl (by decide)
    have ekv : (I uK v1.toNatClampNeg).toInt = (I0 uK v1.toNatClampNeg).toInt := by rw [ek]
    have okn : 0 ≤ (I uK v1.toNatClampNeg).toInt ∧ (I uK v1.toNatClampNeg).toInt ≤ 120 := w_I.arr 12 9 kv0 huK_1 kuK rfl rfl _
    have mvI : MVB (3 * ((I v0 0).toInt + 1)) (I v0 0).toInt (I uC) (I uE) := by rw [e0]; exact li1
    have dpI : DPR (I v0 0).toInt (I0 uK v1.toNatClampNeg).toInt (I uC) (I uE) (I uB) (-1) 0 := by rw [e0]; exact li2
    refine s_X12_isOn w_I v0 v3 v5 v4 kv0 uC huC_1 uE huE_1 uB huB_1 (by first | exact mvI | assumption) (by omega) (by exact ⟨_, by omega, dpI⟩) (fun r3 p4 => ?_)
    have rr3 := i_rng r3
    refine ⟨fun c5 => ?_, fun c5 => ?_⟩
    · skip
      first | (have t6 : ¬ (r3.toInt = (0)) := (not_congr (i_eq rfl (show (0 : Int32).toInt = 0 from rfl))).mp c5) | (have t6 : ¬ (r3.toInt = (0 : Int32).toInt) := (not_congr (i_eq rfl rfl)).mp c5) | skip
      have hcn : CN (I uC) (I uE) (I uB) (v3.toInt + 1) v4.toInt v5.toInt := by
        rcases p4 with h4 | h4
        · exact h4.2
        · exfalso; omega
      obtain ⟨kk, ii, c1, c2, c3, c4, c8, c6⟩ := hcn
      have tk := i_nat (x := ((((3 : Int32) * (v3 + (1 : Int32))) + v5) - (1 : Int32))) (i_sub (i_add (i_mul (show (3 : Int32).toInt = 3 from rfl) (i_add rfl (show (1 : Int32).toInt = 1 from rfl) (by omega) (by omega)) (by omega) (by omega)) rfl (by omega) (by omega)) (show (1 : Int32).toInt = 1 from rfl) (by omega) (by omega)) (by omega)
      obtain rfl : kk = ((((3 : Int32) * (v3 + (1 : Int32))) + v5) - (1 : Int32)).toNatClampNeg := by omega
      have hm9 := li1 ((((3 : Int32) * (v3 + (1 : Int32))) + v5) - (1 : Int32)).toNatClampNeg (by omega)
      have hm8 := hm9.resolve_left c2
      intro b7 eb7
      obtain rfl : uE = b7 := Option.some.inj (huE_1.symm.trans eb7)
      have o8 : vp_in ((((3 : Int32) * (v3 + (1 : Int32))) + v5) - (1 : Int32)) 75 := vi_of (i_sub (i_add (i_mul (show (3 : Int32).toInt = 3 from rfl) (i_add rfl (show (1 : Int32).toInt = 1 from rfl) (by omega) (by omega)) (by omega) (by omega)) rfl (by omega) (by omega)) (show (1 : Int32).toInt = 1 from rfl) (by omega) (by omega)) (by omega) (by omega)
      refine ⟨o8, ?_⟩
      intro x9 ex9
      have rx9 := i_rng x9
      first | (have tx9 : x9.toInt = (v4.toInt - (I uE ((((3 : Int32) * (v3 + (1 : Int32))) + v5) - (1 : Int32)).toNatClampNeg).toInt) := by (rw [ex9]; exact (i_sub rfl rfl (by omega) (by omega)))) | (have tx9 : x9.toInt = (v4 - (I uE ((((3 : Int32) * (v3 + (1 : Int32))) + v5) - (1 : Int32)).toNatClampNeg)).toInt := by rw [ex9])
      intro x10 ex10
      have rx10 := i_rng x10
      first | (have tx10 : x10.toInt = (v3.toInt + v5.toInt) := by (rw [ex10]; exact (i_add rfl rfl (by omega) (by omega)))) | (have tx10 : x10.toInt = (v3 + v5).toInt := by rw [ex10])
      intro b11 eb11
      obtain ⟨x12, ex12, kb11, lb11⟩ := sh_f w_I.1 kv0 (j := 44) (k := 14) (m := 24) rfl
      cases eb11.symm.trans ex12
      have t14 : 0 ≤ (I v0 43).toInt ∧ (I v0 43).toInt ≤ 24 := w_I.fld 12 43 kv0 (by decide)
      have o15 : vp_in (I v0 43) 24 := vi_of rfl (by omega) (by omega)
      refine ⟨o15, ?_⟩
      intro I16 eI16
      have w_I16 : WD Z I16 := by rw [eI16]; exact WD_putA w_I 12 44 kv0 eb11 kb11 rfl rfl (by decide) (by constructor <;> omega)
      have f_I16 : FR [(12, 44)] Z I Z I16 := by rw [eI16]; exact FR_upA w_I.2.1 kv0 eb11 kb11 rfl rfl List.mem_cons_self
      have q_I16 : FR Ws_X12_findClimb Z0 I0 Z I16 := q_I.trans w0.1 w0.2.1 (f_I16.mono (by decide))
      have ao_I16_uC : I16 uC = I uC := f_I16.2.2.2 v0 12 37 uC kv0 huC_1 (by rw [kuC.2]; rfl) rfl (by decide)
      have ao_I16_uE : I16 uE = I uE := f_I16.2.2.2 v0 12 38 uE kv0 huE_1 (by rw [kuE.2]; rfl) rfl (by decide)
      have ao_I16_uB : I16 uB = I uB := f_I16.2.2.2 v0 12 40 uB kv0 huB_1 (by rw [kuB.2]; rfl) rfl (by decide)
      have u17 : (I16 v0 0).toInt = (I v0 0).toInt := by rw [f_I16.2.2.1 v0 12 0 kv0 (by decide) (by decide)]
      have u18 : (I16 v0 43).toInt = (I v0 43).toInt := by rw [f_I16.2.2.1 v0 12 43 kv0 (by decide) (by decide)]
      have t20 : 0 ≤ (I16 v0 43).toInt ∧ (I16 v0 43).toInt ≤ 24 := w_I16.fld 12 43 kv0 (by decide)
      intro I21 eI21
      try (have t22 : ((I16 v0 43) + (1 : Int32)).toInt = ((I16 v0 43).toInt + (1)) := (i_add rfl (show (1 : Int32).toInt = 1 from rfl) (by omega) (by omega)))
      have w_I21 : WD Z I21 := by rw [eI21]; exact WD_putF w_I16 12 43 kv0 (by decide) (by decide) (by constructor <;> omega)
      have f_I21 : FR [(12, 43)] Z I16 Z I21 := by rw [eI21]; exact FR_putF kv0 (by decide) List.mem_cons_self
      have q_I21 : FR Ws_X12_findClimb Z0 I0 Z I21 := q_I16.trans w0.1 w0.2.1 (f_I21.mono (by decide))
      have ao_I21_uC : I21 uC = I uC := (f_I21.2.2.2 v0 12 37 uC kv0 huC_1 (by rw [kuC.2]; rfl) rfl (by decide)).trans ao_I16_uC
      have ao_I21_uE : I21 uE = I uE := (f_I21.2.2.2 v0 12 38 uE kv0 huE_1 (by rw [kuE.2]; rfl) rfl (by decide)).trans ao_I16_uE
      have ao_I21_uB : I21 uB = I uB := (f_I21.2.2.2 v0 12 40 uB kv0 huB_1 (by rw [kuB.2]; rfl) rfl (by decide)).trans ao_I16_uB
      have u23 : (I21 v0 0).toInt = (I16 v0 0).toInt := by rw [f_I21.2.2.1 v0 12 0 kv0 (by decide) (by decide)]
      first | (have u24 : (I21 v0 43).toInt = ((I16 v0 43).toInt + (1)) := by (rw [eI21, show jpI I16 v0 43 ((I16 v0 43) + (1 : Int32)) v0 43 = ((I16 v0 43) + (1 : Int32)) from jpI_at] <;> exact (i_add rfl (show (1 : Int32).toInt = 1 from rfl) (by omega) (by omega)))) | skip
      exact hK131 x10 x9 Z I21 L w_I21 bd_Z q_I21 cp_Z   (by rw [ao_I21_uC, ao_I21_uE, ao_I21_uB]; have e7 : (1000 * (x10.toInt + 1) + x9.toInt).toNat = ii := (by omega); rw [e7]; exact ⟨by omega, li1, li2⟩)  (by omega)
    · skip
      first | (have t25 : r3.toInt = (0) := (i_eq rfl (show (0 : Int32).toInt = 0 from rfl)).mp c5) | (have t25 : r3.toInt = (0 : Int32).toInt := (i_eq rfl rfl).mp c5) | skip
      intro x26 ex26
      have rx26 := i_rng x26
      first | (have tx26 : x26.toInt = v5.toInt + (1) := by (rw [ex26]; exact (i_add rfl (show (1 : Int32).toInt = 1 from rfl) (by omega) (by omega)))) | skip
      exact ih x26 Z I L w_I bd_Z q_I cp_Z   (by obtain ⟨far, g1, g2, g3⟩ := li3; have hne : ¬ far = v5.toInt := (fun h => by (rcases p4 with h4 | h4; (omega); exact h4.2 (by rw [← h]; exact g3))); refine ⟨?_, li1, li2, far, ?_, g2, g3⟩ <;> omega) (by omega) (by omega)
set_option maxHeartbeats 4000000 in
set_option maxRecDepth 100000 in
theorem l_X12_findClimb_L131 {B : Nat × Nat} {T : Nat} {Z0 : jZ} {I0 : jI} {Q : Int32 → jZ → jI → jL → Prop} (w0 : WD Z0 I0) (v0 : Nat) (v1 : Int32) (kv0 : jk Z0 v0 12) (uC : Nat) (huC : jr Z0 v0 37 = some uC) (uE : Nat) (huE : jr Z0 v0 38 = some uE) (uB : Nat) (huB : jr Z0 v0 40 = some uB) (uK : Nat) (huK : jr Z0 v0 9 = some uK) (p0 : 0 ≤ v1.toInt ∧ v1.toInt ≤ 5) (p1 : 1 ≤ (I0 v0 0).toInt) (hQ : ∀ (r : Int32) (Z' : jZ) (I' : jI) (L' : jL), WD Z' I' → BUD B Z' T → FR Ws_X12_findClimb Z0 I0 Z' I' → CP Z0 Z' → Q r Z' I' L') : ∀ (n : Nat) (v3 : Int32) (v4 : Int32) (Z : jZ) (I : jI) (L : jL), WD Z I → BUD B Z T → FR Ws_X12_findClimb Z0 I0 Z I → CP Z0 Z →   ((-1 ≤ v3.toInt ∧ v3.toInt < (I0 v0 0).toInt ∧ (I0 v0 0).toInt ≤ 24 ∧ 0 ≤ v4.toInt ∧ v4.toInt ≤ (I0 uK v1.toNatClampNeg).toInt ∧ (I0 uK v1.toNatClampNeg).toInt ≤ 120 ∧ ¬ (I uB (1000 * (v3.toInt + 1) + v4.toInt).toNat).toInt = 1000000000 ∧ 0 ≤ (I v0 43).toInt ∧ (I v0 43).toInt ≤ v3.toInt + 1) ∧ MVB (3 * ((I0 v0 0).toInt + 1)) (I0 v0 0).toInt (I uC) (I uE) ∧ DPR (I0 v0 0).toInt (I0 uK v1.toNatClampNeg).toInt (I uC) (I uE) (I uB) (-1) 0) → 24 - v3.toInt < (n : Int) → f_X12_findClimb_L131 B  Q n v0 v3 v4 Z I L := by
  intro n
  induction n with
  | zero =>
    intro v3 v4 Z I L w_I bd_Z q_I cp_Z   li  me
    exfalso
    omega
  | succ n ih =>
    intro v3 v4 Z I L w_I bd_Z q_I cp_Z   li  me
    unfold f_X12_findClimb_L131
    have rv3 := i_rng v3
    have rv4 := i_rng v4
    have rv1 := i_rng v1
    obtain ⟨li0, li1, li2⟩ := li
    have kv0_0 := kv0
    have kv0 := (q_I.1 _ _ kv0).1
    have t27 : 0 ≤ (I v0 0).toInt ∧ (I v0 0).toInt ≤ 24 := w_I.fld 12 0 kv0 (by decide)
    have t28 : 0 ≤ (I v0 43).toInt ∧ (I v0 43).toInt ≤ 24 := w_I.fld 12 43 kv0 (by decide)
    have huC_1 : jr Z v0 37 = some uC := (q_I.2.1 v0 12 37 kv0_0 (by decide) (by decide)).trans huC
    have luC : jlen Z uC = 75 := by obtain ⟨b9, e9, -, l9⟩ := sh_f w_I.1 kv0 (j := 37) (k := 14) (m := 75) rfl; cases huC_1.symm.trans e9; exact l9
    have kuC : jk Z uC 14 := by obtain ⟨b9, e9, k9, -⟩ := sh_f w_I.1 kv0 (j := 37) (k := 14) (m := 75) rfl; cases huC_1.symm.trans e9; exact k9
    have huE_1 : jr Z v0 38 = some uE := (q_I.2.1 v0 12 38 kv0_0 (by decide) (by decide)).trans huE
    have luE : jlen Z uE = 75 := by obtain ⟨b9, e9, -, l9⟩ := sh_f w_I.1 kv0 (j := 38) (k := 14) (m := 75) rfl; cases huE_1.symm.trans e9; exact l9
    have kuE : jk Z uE 14 := by obtain ⟨b9, e9, k9, -⟩ := sh_f w_I.1 kv0 (j := 38) (k := 14) (m := 75) rfl; cases huE_1.symm.trans e9; exact k9
    have huB_1 : jr Z v0 40 = some uB := (q_I.2.1 v0 12 40 kv0_0 (by decide) (by decide)).trans huB
    have luB : jlen Z uB = 25000 := by obtain ⟨b9, e9, -, l9⟩ := sh_f w_I.1 kv0 (j := 40) (k := 14) (m := 25000) rfl; cases huB_1.symm.trans e9; exact l9
    have kuB : jk Z uB 14 := by obtain ⟨b9, e9, k9, -⟩ := sh_f w_I.1 kv0 (j := 40) (k := 14) (m := 25000) rfl; cases huB_1.symm.trans e9; exact k9
    have huK_1 : jr Z v0 9 = some uK := (q_I.2.1 v0 12 9 kv0_0 (by decide) (by decide)).trans huK
    have luK : jlen Z uK = 6 := by obtain ⟨b9, e9, -, l9⟩ := sh_f w_I.1 kv0 (j := 9) (k := 14) (m := 6) rfl; cases huK_1.symm.trans e9; exact l9
    have kuK : jk Z uK 14 := by obtain ⟨b9, e9, k9, -⟩ := sh_f w_I.1 kv0 (j := 9) (k := 14) (m := 6) rfl; cases huK_1.symm.trans e9; exact k9
    have xq_I := q_I.1
    have e0 : (I v0 0).toInt = (I0 v0 0).toInt := by rw [q_I.2.2.1 v0 12 0 kv0_0 (by decide) (by decide)]
    have ek : I uK = I0 uK := q_I.2.2.2 v0 12 9 uK kv0_0 huK (by obtain ⟨b9, e9, k9, -⟩ := sh_f w0.1 kv0_0 (j := 9) (k := 14) (m := 6) rfl; cases huK.symm.trans e9; rw [k9.2]; rfl) rfl (by decide)
    have ekv : (I uK v1.toNatClampNeg).toInt = (I0 uK v1.toNatClampNeg).toInt := by rw [ek]
    have okn : 0 ≤ (I uK v1.toNatClampNeg).toInt ∧ (I uK v1.toNatClampNeg).toInt ≤ 120 := w_I.arr 12 9 kv0 huK_1 kuK rfl rfl _
    have mvI : MVB (3 * ((I v0 0).toInt + 1)) (I v0 0).toInt (I uC) (I uE) := by rw [e0]; exact li1
    have dpI : DPR (I v0 0).toInt (I0 uK v1.toNatClampNeg).toInt (I uC) (I uE) (I uB) (-1) 0 := by rw [e0]; exact li2
    have t30 : 0 ≤ (I v0 0).toInt ∧ (I v0 0).toInt ≤ 24 := w_I.fld 12 0 kv0 (by decide)
    refine ⟨fun c31 => ?_, fun c31 => ?_⟩
    · skip
      first | (have t32 : ((I v0 0).toInt - (1)) ≤ v3.toInt := (i_le (i_sub rfl (show (1 : Int32).toInt = 1 from rfl) (by omega) (by omega)) rfl).mp c31) | (have t32 : ((I v0 0) - (1 : Int32)).toInt ≤ v3.toInt := (i_le rfl rfl).mp c31) | skip
      have t33 : (1 : Int32).toInt = 1 := rfl
      exact hQ (1 : Int32) Z I L w_I bd_Z q_I cp_Z 
    · skip
      first | (have t34 : ¬ (((I v0 0).toInt - (1)) ≤ v3.toInt) := (not_congr (i_le (i_sub rfl (show (1 : Int32).toInt = 1 from rfl) (by omega) (by omega)) rfl)).mp c31) | (have t34 : ¬ (((I v0 0) - (1 : Int32)).toInt ≤ v3.toInt) := (not_congr (i_le rfl rfl)).mp c31) | skip
      have t35 : (1 : Int32).toInt = 1 := rfl
      exact ⟨(4 - (1 : Int32).toInt).toNat + 1, l_X12_findClimb_L144 w0 v0 v1 kv0_0 uC huC uE huE uB huB uK huK p0 p1 v3 v4  hQ ih  _ (1 : Int32) Z I L w_I bd_Z q_I cp_Z   (by obtain ⟨far, g1, g2, g3⟩ := DPR.cn li2 (f := v3.toInt + 1) (e := v4.toInt) (by omega) (by omega); refine ⟨?_, li1, li2, far, ?_, g2, g3⟩ <;> omega) (by omega) (by omega)⟩
set_option maxHeartbeats 4000000 in
set_option maxRecDepth 100000 in
theorem l_X12_findClimb_L19 {B : Nat × Nat} {T : Nat} {Z0 : jZ} {I0 : jI} {Q : Int32 → jZ → jI → jL → Prop} (w0 : WD Z0 I0) (v0 : Nat) (v1 : Int32) (kv0 : jk Z0 v0 12) (uC : Nat) (huC : jr Z0 v0 37 = some uC) (uE : Nat) (huE : jr Z0 v0 38 = some uE) (uB : Nat) (huB : jr Z0 v0 40 = some uB) (uK : Nat) (huK : jr Z0 v0 9 = some uK) (p0 : 0 ≤ v1.toInt ∧ v1.toInt ≤ 5) (p1 : 1 ≤ (I0 v0 0).toInt) (hQ : ∀ (r : Int32) (Z' : jZ) (I' : jI) (L' : jL), WD Z' I' → BUD B Z' T → FR Ws_X12_findClimb Z0 I0 Z' I' → CP Z0 Z' → Q r Z' I' L') : ∀ (n : Nat) (v2 : Int32) (v3 : Int32) (Z : jZ) (I : jI) (L : jL), WD Z I → BUD B Z T → FR Ws_X12_findClimb Z0 I0 Z I → CP Z0 Z →   ((-1 ≤ v2.toInt ∧ v2.toInt < v3.toInt ∧ 0 ≤ v3.toInt ∧ v3.toInt ≤ 121 ∧ v2.toInt ≤ (I0 uK v1.toNatClampNeg).toInt ∧ (v2.toInt = -1 ∨ ¬ (I uB v2.toNatClampNeg).toInt = 1000000000)) ∧ MVB (3 * ((I0 v0 0).toInt + 1)) (I0 v0 0).toInt (I uC) (I uE) ∧ DPR (I0 v0 0).toInt (I0 uK v1.toNatClampNeg).toInt (I uC) (I uE) (I uB) (-1) 0) → 121 - v3.toInt < (n : Int) → f_X12_findClimb_L19 B  Q n v0 v1 v2 v3 Z I L := by
  intro n
  induction n with
  | zero =>
    intro v2 v3 Z I L w_I bd_Z q_I cp_Z   li  me
    exfalso
    omega
  | succ n ih =>
    intro v2 v3 Z I L w_I bd_Z q_I cp_Z   li  me
    unfold f_X12_findClimb_L19
    have rv2 := i_rng v2
    have rv3 := i_rng v3
    have rv1 := i_rng v1
    obtain ⟨li0, li1, li2⟩ := li
    have kv0_0 := kv0
    have kv0 := (q_I.1 _ _ kv0).1
    have t36 : 0 ≤ (I v0 0).toInt ∧ (I v0 0).toInt ≤ 24 := w_I.fld 12 0 kv0 (by decide)
    have t37 : 0 ≤ (I v0 43).toInt ∧ (I v0 43).toInt ≤ 24 := w_I.fld 12 43 kv0 (by decide)
    have huC_1 : jr Z v0 37 = some uC := (q_I.2.1 v0 12 37 kv0_0 (by decide) (by decide)).trans huC
    have luC : jlen Z uC = 75 := by obtain ⟨b9, e9, -, l9⟩ := sh_f w_I.1 kv0 (j := 37) (k := 14) (m := 75) rfl; cases huC_1.symm.trans e9; exact l9
    have kuC : jk Z uC 14 := by obtain ⟨b9, e9, k9, -⟩ := sh_f w_I.1 kv0 (j := 37) (k := 14) (m := 75) rfl; cases huC_1.symm.trans e9; exact k9
    have huE_1 : jr Z v0 38 = some uE := (q_I.2.1 v0 12 38 kv0_0 (by decide) (by decide)).trans huE
    have luE : jlen Z uE = 75 := by obtain ⟨b9, e9, -, l9⟩ := sh_f w_I.1 kv0 (j := 38) (k := 14) (m := 75) rfl; cases huE_1.symm.trans e9; exact l9
    have kuE : jk Z uE 14 := by obtain ⟨b9, e9, k9, -⟩ := sh_f w_I.1 kv0 (j := 38) (k := 14) (m := 75) rfl; cases huE_1.symm.trans e9; exact k9
    have huB_1 : jr Z v0 40 = some uB := (q_I.2.1 v0 12 40 kv0_0 (by decide) (by decide)).trans huB
    have luB : jlen Z uB = 25000 := by obtain ⟨b9, e9, -, l9⟩ := sh_f w_I.1 kv0 (j := 40) (k := 14) (m := 25000) rfl; cases huB_1.symm.trans e9; exact l9
    have kuB : jk Z uB 14 := by obtain ⟨b9, e9, k9, -⟩ := sh_f w_I.1 kv0 (j := 40) (k := 14) (m := 25000) rfl; cases huB_1.symm.trans e9; exact k9
    have huK_1 : jr Z v0 9 = some uK := (q_I.2.1 v0 12 9 kv0_0 (by decide) (by decide)).trans huK
    have luK : jlen Z uK = 6 := by obtain ⟨b9, e9, -, l9⟩ := sh_f w_I.1 kv0 (j := 9) (k := 14) (m := 6) rfl; cases huK_1.symm.trans e9; exact l9
    have kuK : jk Z uK 14 := by obtain ⟨b9, e9, k9, -⟩ := sh_f w_I.1 kv0 (j := 9) (k := 14) (m := 6) rfl; cases huK_1.symm.trans e9; exact k9
    have xq_I := q_I.1
    have e0 : (I v0 0).toInt = (I0 v0 0).toInt := by rw [q_I.2.2.1 v0 12 0 kv0_0 (by decide) (by decide)]
    have ek : I uK = I0 uK := q_I.2.2.2 v0 12 9 uK kv0_0 huK (by obtain ⟨b9, e9, k9, -⟩ := sh_f w0.1 kv0_0 (j := 9) (k := 14) (m := 6) rfl; cases huK.symm.trans e9; rw [k9.2]; rfl) rfl (by decide)
    have ekv : (I uK v1.toNatClampNeg).toInt = (I0 uK v1.toNatClampNeg).toInt := by rw [ek]
    have okn : 0 ≤ (I uK v1.toNatClampNeg).toInt ∧ (I uK v1.toNatClampNeg).toInt ≤ 120 := w_I.arr 12 9 kv0 huK_1 kuK rfl rfl _
    intro b38 eb38
    obtain rfl : uK = b38 := Option.some.inj (huK_1.symm.trans eb38)
    have o39 : vp_in v1 6 := vi_of rfl (by omega) (by omega)
    refine ⟨o39, ?_⟩
    have t40 : 0 ≤ (I uK v1.toNatClampNeg).toInt ∧ (I uK v1.toNatClampNeg).toInt ≤ 120 := w_I.arr 12 9 kv0 huK_1 kuK rfl rfl _
    refine ⟨fun c41 => ?_, fun c41 => ?_⟩
    · skip
      first | (have t42 : (I uK v1.toNatClampNeg).toInt < v3.toInt := (i_lt rfl rfl).mp c41) | (have t42 : (I uK v1.toNatClampNeg).toInt < v3.toInt := (i_lt rfl rfl).mp c41) | skip
      refine ⟨fun c43 => ?_, fun c43 => ?_⟩
      · skip
        first | (have t44 : ¬ (v2.toInt = (-1)) := (not_congr (i_eq rfl (show (-1 : Int32).toInt = -1 from rfl))).mp c43) | (have t44 : ¬ (v2.toInt = (-1 : Int32).toInt) := (not_congr (i_eq rfl rfl)).mp c43) | skip
        intro b45 eb45
        obtain rfl : uB = b45 := Option.some.inj (huB_1.symm.trans eb45)
        have o46 : vp_in v2 25000 := vi_of rfl (by omega) (by omega)
        refine ⟨o46, ?_⟩
        intro I47 eI47
        try (have t48 : ((I uB v2.toNatClampNeg) / (100 : Int32)).toInt = ((I uB v2.toNatClampNeg).toInt / (100)) := (i_div rfl (show (100 : Int32).toInt = 100 from rfl) (by omega) (by omega)))
        have w_I47 : WD Z I47 := by rw [eI47]; exact WD_putF w_I 12 41 kv0 (by decide) (by decide) trivial
        have f_I47 : FR [(12, 41)] Z I Z I47 := by rw [eI47]; exact FR_putF kv0 (by decide) List.mem_cons_self
        have q_I47 : FR Ws_X12_findClimb Z0 I0 Z I47 := q_I.trans w0.1 w0.2.1 (f_I47.mono (by decide))
        have ao_I47_uC : I47 uC = I uC := f_I47.2.2.2 v0 12 37 uC kv0 huC_1 (by rw [kuC.2]; rfl) rfl (by decide)
        have ao_I47_uE : I47 uE = I uE := f_I47.2.2.2 v0 12 38 uE kv0 huE_1 (by rw [kuE.2]; rfl) rfl (by decide)
        have ao_I47_uB : I47 uB = I uB := f_I47.2.2.2 v0 12 40 uB kv0 huB_1 (by rw [kuB.2]; rfl) rfl (by decide)
        have u49 : (I47 uK (v1.toNatClampNeg)).toInt = (I uK (v1.toNatClampNeg)).toInt := by rw [f_I47.2.2.2 v0 12 9 uK kv0 huK_1 (by rw [kuK.2]; rfl) rfl (by decide)]
        have u50 : (I47 v0 0).toInt = (I v0 0).toInt := by rw [f_I47.2.2.1 v0 12 0 kv0 (by decide) (by decide)]
        have u51 : (I47 v0 43).toInt = (I v0 43).toInt := by rw [f_I47.2.2.1 v0 12 43 kv0 (by decide) (by decide)]
        first | (have u52 : (I47 v0 41).toInt = ((I uB v2.toNatClampNeg).toInt / (100)) := by (rw [eI47, show jpI I v0 41 ((I uB v2.toNatClampNeg) / (100 : Int32)) v0 41 = ((I uB v2.toNatClampNeg) / (100 : Int32)) from jpI_at] <;> exact (i_div rfl (show (100 : Int32).toInt = 100 from rfl) (by omega) (by omega)))) | skip
        intro I53 eI53
        have w_I53 : WD Z I53 := by rw [eI53]; exact WD_putF w_I47 12 42 kv0 (by decide) (by decide) trivial
        have f_I53 : FR [(12, 42)] Z I47 Z I53 := by rw [eI53]; exact FR_putF kv0 (by decide) List.mem_cons_self
        have q_I53 : FR Ws_X12_findClimb Z0 I0 Z I53 := q_I47.trans w0.1 w0.2.1 (f_I53.mono (by decide))
        have ao_I53_uC : I53 uC = I uC := (f_I53.2.2.2 v0 12 37 uC kv0 huC_1 (by rw [kuC.2]; rfl) rfl (by decide)).trans ao_I47_uC
        have ao_I53_uE : I53 uE = I uE := (f_I53.2.2.2 v0 12 38 uE kv0 huE_1 (by rw [kuE.2]; rfl) rfl (by decide)).trans ao_I47_uE
        have ao_I53_uB : I53 uB = I uB := (f_I53.2.2.2 v0 12 40 uB kv0 huB_1 (by rw [kuB.2]; rfl) rfl (by decide)).trans ao_I47_uB
        have u54 : (I53 uK (v1.toNatClampNeg)).toInt = (I47 uK (v1.toNatClampNeg)).toInt := by rw [f_I53.2.2.2 v0 12 9 uK kv0 huK_1 (by rw [kuK.2]; rfl) rfl (by decide)]
        have u55 : (I53 v0 0).toInt = (I47 v0 0).toInt := by rw [f_I53.2.2.1 v0 12 0 kv0 (by decide) (by decide)]
        have u56 : (I53 v0 43).toInt = (I47 v0 43).toInt := by rw [f_I53.2.2.1 v0 12 43 kv0 (by decide) (by decide)]
        have u57 : (I53 v0 41).toInt = (I47 v0 41).toInt := by rw [f_I53.2.2.1 v0 12 41 kv0 (by decide) (by decide)]
        first | (have u58 : (I53 v0 42).toInt = v2.toInt := by (rw [eI53, show jpI I47 v0 42 v2 v0 42 = v2 from jpI_at] <;> exact rfl)) | skip
        intro I59 eI59
        have t60 : (0 : Int32).toInt = 0 := rfl
        have w_I59 : WD Z I59 := by rw [eI59]; exact WD_putF w_I53 12 43 kv0 (by decide) (by decide) (by constructor <;> omega)
        have f_I59 : FR [(12, 43)] Z I53 Z I59 := by rw [eI59]; exact FR_putF kv0 (by decide) List.mem_cons_self
        have q_I59 : FR Ws_X12_findClimb Z0 I0 Z I59 := q_I53.trans w0.1 w0.2.1 (f_I59.mono (by decide))
        have ao_I59_uC : I59 uC = I uC := (f_I59.2.2.2 v0 12 37 uC kv0 huC_1 (by rw [kuC.2]; rfl) rfl (by decide)).trans ao_I53_uC
        have ao_I59_uE : I59 uE = I uE := (f_I59.2.2.2 v0 12 38 uE kv0 huE_1 (by rw [kuE.2]; rfl) rfl (by decide)).trans ao_I53_uE
        have ao_I59_uB : I59 uB = I uB := (f_I59.2.2.2 v0 12 40 uB kv0 huB_1 (by rw [kuB.2]; rfl) rfl (by decide)).trans ao_I53_uB
        have u61 : (I59 uK (v1.toNatClampNeg)).toInt = (I53 uK (v1.toNatClampNeg)).toInt := by rw [f_I59.2.2.2 v0 12 9 uK kv0 huK_1 (by rw [kuK.2]; rfl) rfl (by decide)]
        have u62 : (I59 v0 0).toInt = (I53 v0 0).toInt := by rw [f_I59.2.2.1 v0 12 0 kv0 (by decide) (by decide)]
        have u63 : (I59 v0 41).toInt = (I53 v0 41).toInt := by rw [f_I59.2.2.1 v0 12 41 kv0 (by decide) (by decide)]
        have u64 : (I59 v0 42).toInt = (I53 v0 42).toInt := by rw [f_I59.2.2.1 v0 12 42 kv0 (by decide) (by decide)]
        first | (have u65 : (I59 v0 43).toInt = (0) := by (rw [eI59, show jpI I53 v0 43 (0 : Int32) v0 43 = (0 : Int32) from jpI_at] <;> exact (show (0 : Int32).toInt = 0 from rfl))) | skip
        have t66 : (-1 : Int32).toInt = -1 := rfl
        exact ⟨(24 - (-1 : Int32).toInt).toNat + 1, l_X12_findClimb_L131 w0 v0 v1 kv0_0 uC huC uE huE uB huB uK huK p0 p1   hQ   _ (-1 : Int32) v2 Z I59 L w_I59 bd_Z q_I59 cp_Z   (by rw [ao_I59_uC, ao_I59_uE, ao_I59_uB]; have hv2 := i_nat (x := v2) rfl (by omega); have e7 : (1000 * ((-1 : Int32).toInt + 1) + v2.toInt).toNat = v2.toNatClampNeg := (by omega); rw [e7]; exact ⟨by omega, li1, li2⟩)  (by omega)⟩
      · skip
        first | (have t67 : v2.toInt = (-1) := (i_eq rfl (show (-1 : Int32).toInt = -1 from rfl)).mp c43) | (have t67 : v2.toInt = (-1 : Int32).toInt := (i_eq rfl rfl).mp c43) | skip
        have t68 : (0 : Int32).toInt = 0 := rfl
        exact hQ (0 : Int32) Z I L w_I bd_Z q_I cp_Z 
    · skip
      first | (have t69 : ¬ ((I uK v1.toNatClampNeg).toInt < v3.toInt) := (not_congr (i_lt rfl rfl)).mp c41) | (have t69 : ¬ ((I uK v1.toNatClampNeg).toInt < v3.toInt) := (not_congr (i_lt rfl rfl)).mp c41) | skip
      intro b70 eb70
      obtain rfl : uB = b70 := Option.some.inj (huB_1.symm.trans eb70)
      have o71 : vp_in v3 25000 := vi_of rfl (by omega) (by omega)
      refine ⟨o71, ?_⟩
      refine ⟨fun c72 => ?_, fun c72 => ?_⟩
      · skip
        first | (have t73 : (I uB v3.toNatClampNeg).toInt = (1000000000) := (i_eq rfl (show (1000000000 : Int32).toInt = 1000000000 from rfl)).mp c72) | (have t73 : (I uB v3.toNatClampNeg).toInt = (1000000000 : Int32).toInt := (i_eq rfl rfl).mp c72) | skip
        unfold f_X12_findClimb_b90
        intro x74 ex74
        have rx74 := i_rng x74
        first | (have tx74 : x74.toInt = v3.toInt + (1) := by (rw [ex74]; exact (i_add rfl (show (1 : Int32).toInt = 1 from rfl) (by omega) (by omega)))) | skip
        exact ih v2 x74 Z I L w_I bd_Z q_I cp_Z   (by exact ⟨by omega, li1, li2⟩)  (by omega)
      · skip
        first | (have t75 : ¬ ((I uB v3.toNatClampNeg).toInt = (1000000000)) := (not_congr (i_eq rfl (show (1000000000 : Int32).toInt = 1000000000 from rfl))).mp c72) | (have t75 : ¬ ((I uB v3.toNatClampNeg).toInt = (1000000000 : Int32).toInt) := (not_congr (i_eq rfl rfl)).mp c72) | skip
        intro b76 eb76
        obtain rfl : uB = b76 := Option.some.inj (huB_1.symm.trans eb76)
        have o77 : vp_in v3 25000 := vi_of rfl (by omega) (by omega)
        refine ⟨o77, ?_⟩
        intro b78 eb78
        obtain ⟨x79, ex79, kb78, lb78⟩ := sh_f w_I.1 kv0 (j := 10) (k := 14) (m := 6) rfl
        cases eb78.symm.trans ex79
        have o80 : vp_in v1 6 := vi_of rfl (by omega) (by omega)
        refine ⟨o80, ?_⟩
        have t81 : 0 ≤ (I b78 v1.toNatClampNeg).toInt ∧ (I b78 v1.toNatClampNeg).toInt ≤ 999 := w_I.arr 12 10 kv0 eb78 kb78 rfl rfl _
        refine ⟨fun c82 => ?_, fun c82 => ?_⟩
        · skip
          first | (have t83 : ((I uB v3.toNatClampNeg).toInt / (100)) ≤ (I b78 v1.toNatClampNeg).toInt := (i_le (i_div rfl (show (100 : Int32).toInt = 100 from rfl) (by omega) (by omega)) rfl).mp c82) | (have t83 : ((I uB v3.toNatClampNeg) / (100 : Int32)).toInt ≤ (I b78 v1.toNatClampNeg).toInt := (i_le rfl rfl).mp c82) | skip
          refine ⟨fun c84 => ?_, fun c84 => ?_⟩
          · skip
            first | (have t85 : v2.toInt = (-1) := (i_eq rfl (show (-1 : Int32).toInt = -1 from rfl)).mp c84) | (have t85 : v2.toInt = (-1 : Int32).toInt := (i_eq rfl rfl).mp c84) | skip
            unfold f_X12_findClimb_b88
            unfold f_X12_findClimb_b90
            intro x86 ex86
            have rx86 := i_rng x86
            first | (have tx86 : x86.toInt = v3.toInt + (1) := by (rw [ex86]; exact (i_add rfl (show (1 : Int32).toInt = 1 from rfl) (by omega) (by omega)))) | skip
            exact ih v3 x86 Z I L w_I bd_Z q_I cp_Z   (by exact ⟨by omega, li1, li2⟩)  (by omega)
          · skip
            first | (have t87 : ¬ (v2.toInt = (-1)) := (not_congr (i_eq rfl (show (-1 : Int32).toInt = -1 from rfl))).mp c84) | (have t87 : ¬ (v2.toInt = (-1 : Int32).toInt) := (not_congr (i_eq rfl rfl)).mp c84) | skip
            intro b88 eb88
            obtain rfl : uB = b88 := Option.some.inj (huB_1.symm.trans eb88)
            have o89 : vp_in v3 25000 := vi_of rfl (by omega) (by omega)
            refine ⟨o89, ?_⟩
            intro b90 eb90
            obtain rfl : uB = b90 := Option.some.inj (huB_1.symm.trans eb90)
            have o91 : vp_in v2 25000 := vi_of rfl (by omega) (by omega)
            refine ⟨o91, ?_⟩
            refine ⟨fun c92 => ?_, fun c92 => ?_⟩
            · skip
              first | (have t93 : ((I uB v2.toNatClampNeg).toInt / (100)) ≤ ((I uB v3.toNatClampNeg).toInt / (100)) := (i_le (i_div rfl (show (100 : Int32).toInt = 100 from rfl) (by omega) (by omega)) (i_div rfl (show (100 : Int32).toInt = 100 from rfl) (by omega) (by omega))).mp c92) | (have t93 : ((I uB v2.toNatClampNeg) / (100 : Int32)).toInt ≤ ((I uB v3.toNatClampNeg) / (100 : Int32)).toInt := (i_le rfl rfl).mp c92) | skip
              unfold f_X12_findClimb_b90
              intro x94 ex94
              have rx94 := i_rng x94
              first | (have tx94 : x94.toInt = v3.toInt + (1) := by (rw [ex94]; exact (i_add rfl (show (1 : Int32).toInt = 1 from rfl) (by omega) (by omega)))) | skip
              exact ih v2 x94 Z I L w_I bd_Z q_I cp_Z   (by exact ⟨by omega, li1, li2⟩)  (by omega)
            · skip
              first | (have t95 : ¬ (((I uB v2.toNatClampNeg).toInt / (100)) ≤ ((I uB v3.toNatClampNeg).toInt / (100))) := (not_congr (i_le (i_div rfl (show (100 : Int32).toInt = 100 from rfl) (by omega) (by omega)) (i_div rfl (show (100 : Int32).toInt = 100 from rfl) (by omega) (by omega)))).mp c92) | (have t95 : ¬ (((I uB v2.toNatClampNeg) / (100 : Int32)).toInt ≤ ((I uB v3.toNatClampNeg) / (100 : Int32)).toInt) := (not_congr (i_le rfl rfl)).mp c92) | skip
              unfold f_X12_findClimb_b88
              unfold f_X12_findClimb_b90
              intro x96 ex96
              have rx96 := i_rng x96
              first | (have tx96 : x96.toInt = v3.toInt + (1) := by (rw [ex96]; exact (i_add rfl (show (1 : Int32).toInt = 1 from rfl) (by omega) (by omega)))) | skip
              exact ih v3 x96 Z I L w_I bd_Z q_I cp_Z   (by exact ⟨by omega, li1, li2⟩)  (by omega)
        · skip
          first | (have t97 : ¬ (((I uB v3.toNatClampNeg).toInt / (100)) ≤ (I b78 v1.toNatClampNeg).toInt) := (not_congr (i_le (i_div rfl (show (100 : Int32).toInt = 100 from rfl) (by omega) (by omega)) rfl)).mp c82) | (have t97 : ¬ (((I uB v3.toNatClampNeg) / (100 : Int32)).toInt ≤ (I b78 v1.toNatClampNeg).toInt) := (not_congr (i_le rfl rfl)).mp c82) | skip
          unfold f_X12_findClimb_b90
          intro x98 ex98
          have rx98 := i_rng x98
          first | (have tx98 : x98.toInt = v3.toInt + (1) := by (rw [ex98]; exact (i_add rfl (show (1 : Int32).toInt = 1 from rfl) (by omega) (by omega)))) | skip
          exact ih v2 x98 Z I L w_I bd_Z q_I cp_Z   (by exact ⟨by omega, li1, li2⟩)  (by omega)
set_option maxHeartbeats 4000000 in
set_option maxRecDepth 100000 in
theorem s_X12_findClimb {B : Nat × Nat} {T : Nat} {Z : jZ} {I : jI} {L : jL} (w_I : WD Z I) (bd_Z : BUD B Z T) (v0 : Nat) (v1 : Int32) (kv0 : jk Z v0 12) (uC : Nat) (huC : jr Z v0 37 = some uC) (uE : Nat) (huE : jr Z v0 38 = some uE) (uB : Nat) (huB : jr Z v0 40 = some uB) (uK : Nat) (huK : jr Z v0 9 = some uK) (p0 : 0 ≤ v1.toInt ∧ v1.toInt ≤ 5) (p1 : 1 ≤ (I v0 0).toInt) {Q : Int32 → jZ → jI → jL → Prop} (hQ : ∀ (r : Int32) (Z' : jZ) (I' : jI) (L' : jL), WD Z' I' → BUD B Z' T → FR Ws_X12_findClimb Z I Z' I' → CP Z Z' → Q r Z' I' L') : f_X12_findClimb B v0 v1 Z I L Q := by
  unfold f_X12_findClimb
  have q_I : FR Ws_X12_findClimb Z I Z I := FR.rf
  have cp_Z : CP Z Z := CP.rf
  have rv1 := i_rng v1
  have t99 : 0 ≤ (I v0 0).toInt ∧ (I v0 0).toInt ≤ 24 := w_I.fld 12 0 kv0 (by decide)
  have t100 : 0 ≤ (I v0 43).toInt ∧ (I v0 43).toInt ≤ 24 := w_I.fld 12 43 kv0 (by decide)
  have luC : jlen Z uC = 75 := by obtain ⟨b9, e9, -, l9⟩ := sh_f w_I.1 kv0 (j := 37) (k := 14) (m := 75) rfl; cases huC.symm.trans e9; exact l9
  have kuC : jk Z uC 14 := by obtain ⟨b9, e9, k9, -⟩ := sh_f w_I.1 kv0 (j := 37) (k := 14) (m := 75) rfl; cases huC.symm.trans e9; exact k9
  have luE : jlen Z uE = 75 := by obtain ⟨b9, e9, -, l9⟩ := sh_f w_I.1 kv0 (j := 38) (k := 14) (m := 75) rfl; cases huE.symm.trans e9; exact l9
  have kuE : jk Z uE 14 := by obtain ⟨b9, e9, k9, -⟩ := sh_f w_I.1 kv0 (j := 38) (k := 14) (m := 75) rfl; cases huE.symm.trans e9; exact k9
  have luB : jlen Z uB = 25000 := by obtain ⟨b9, e9, -, l9⟩ := sh_f w_I.1 kv0 (j := 40) (k := 14) (m := 25000) rfl; cases huB.symm.trans e9; exact l9
  have kuB : jk Z uB 14 := by obtain ⟨b9, e9, k9, -⟩ := sh_f w_I.1 kv0 (j := 40) (k := 14) (m := 25000) rfl; cases huB.symm.trans e9; exact k9
  have luK : jlen Z uK = 6 := by obtain ⟨b9, e9, -, l9⟩ := sh_f w_I.1 kv0 (j := 9) (k := 14) (m := 6) rfl; cases huK.symm.trans e9; exact l9
  have kuK : jk Z uK 14 := by obtain ⟨b9, e9, k9, -⟩ := sh_f w_I.1 kv0 (j := 9) (k := 14) (m := 6) rfl; cases huK.symm.trans e9; exact k9
  refine s_X12_layMoves w_I bd_Z v0 v1 kv0 uC huC uE huE (by omega) (fun  Z104 I102 L103 w_I102 bd_Z104 f_I102 c_Z104 p101 => ?_)
  have q_I102 : FR Ws_X12_findClimb Z I Z104 I102 := q_I.trans w_I.1 w_I.2.1 (f_I102.mono (by decide))
  have cp_Z104 : CP Z Z104 := cp_Z.trans q_I.1 c_Z104
  have x_Z104 := f_I102.1
  have k105 := (f_I102.1 _ _ kv0).1
  have k106 := (f_I102.1 _ _ kuC).1
  have l107 := (f_I102.1 _ _ kuC).2.trans luC
  have k108 := (f_I102.1 _ _ kv0).1
  have e109 := (f_I102.2.1 v0 12 37 kv0 (by decide) (by decide)).trans huC
  have k110 := (f_I102.1 _ _ kuE).1
  have l111 := (f_I102.1 _ _ kuE).2.trans luE
  have k112 := (f_I102.1 _ _ kv0).1
  have e113 := (f_I102.2.1 v0 12 38 kv0 (by decide) (by decide)).trans huE
  have k114 := (f_I102.1 _ _ kuB).1
  have l115 := (f_I102.1 _ _ kuB).2.trans luB
  have k116 := (f_I102.1 _ _ kv0).1
  have e117 := (f_I102.2.1 v0 12 40 kv0 (by decide) (by decide)).trans huB
  have k118 := (f_I102.1 _ _ kuK).1
  have l119 := (f_I102.1 _ _ kuK).2.trans luK
  have k120 := (f_I102.1 _ _ kv0).1
  have e121 := (f_I102.2.1 v0 12 9 kv0 (by decide) (by decide)).trans huK
  have ao_I102_uB : I102 uB = I uB := f_I102.2.2.2 v0 12 40 uB kv0 huB (by rw [kuB.2]; rfl) rfl (by decide)
  have u122 : (I102 v0 0).toInt = (I v0 0).toInt := by rw [f_I102.2.2.1 v0 12 0 kv0 (by decide) (by decide)]
  have u123 : (I102 v0 43).toInt = (I v0 43).toInt := by rw [f_I102.2.2.1 v0 12 43 kv0 (by decide) (by decide)]
  intro b124 eb124
  obtain rfl : uK = b124 := Option.some.inj (e121.symm.trans eb124)
  have o125 : vp_in v1 6 := vi_of rfl (by omega) (by omega)
  refine ⟨o125, ?_⟩
  have t126 : 0 ≤ (I102 uK v1.toNatClampNeg).toInt ∧ (I102 uK v1.toNatClampNeg).toInt ≤ 120 := w_I102.arr 12 9 k120 e121 k118 rfl rfl _
  refine s_X12_findByEffort w_I102 v0 (I102 uK v1.toNatClampNeg) k105 uC e109 uE e113 uB e117 (by assumption) (by omega) (fun  I128 L129 w_I128 f_I128 p127 => ?_)
  have q_I128 : FR Ws_X12_findClimb Z I Z104 I128 := q_I102.trans w_I.1 w_I.2.1 (f_I128.mono (by decide))
  have u130 : (I128 uK (v1.toNatClampNeg)).toInt = (I102 uK (v1.toNatClampNeg)).toInt := by rw [f_I128.2.2.2 v0 12 9 uK k120 e121 (by rw [k118.2]; rfl) rfl (by decide)]
  have u131 : (I128 v0 0).toInt = (I102 v0 0).toInt := by rw [f_I128.2.2.1 v0 12 0 k105 (by decide) (by decide)]
  have u132 : (I128 v0 43).toInt = (I102 v0 43).toInt := by rw [f_I128.2.2.1 v0 12 43 k105 (by decide) (by decide)]
  have t133 : (-1 : Int32).toInt = -1 := rfl
  have t134 : (0 : Int32).toInt = 0 := rfl
  exact ⟨(121 - (0 : Int32).toInt).toNat + 1, l_X12_findClimb_L19 w_I v0 v1 kv0 uC huC uE huE uB huB uK huK p0 p1   hQ   _ (-1 : Int32) (0 : Int32) Z104 I128 L129 w_I128 bd_Z104 q_I128 cp_Z104   (by have ec : I128 uC = I102 uC := f_I128.2.2.2 v0 12 37 uC k105 e109 (by rw [k106.2]; rfl) rfl (by decide); have ee : I128 uE = I102 uE := f_I128.2.2.2 v0 12 38 uE k105 e113 (by rw [k110.2]; rfl) rfl (by decide); have u121K : (I102 uK v1.toNatClampNeg).toInt = (I uK v1.toNatClampNeg).toInt := (by rw [f_I102.2.2.2 v0 12 9 uK kv0 huK (by rw [kuK.2]; rfl) rfl (by decide)]); rw [ec, ee, ← u122, ← u121K]; exact ⟨by omega, p101, p127⟩)  (by omega)⟩
