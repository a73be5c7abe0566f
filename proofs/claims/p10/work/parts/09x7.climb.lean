
set_option maxHeartbeats 4000000 in
set_option maxRecDepth 100000 in
theorem l9_X12_findClimb_L144 {B : Nat × Nat} {T : Nat} {Z0 : jZ} {I0 : jI} {Q : Int32 → jZ → jI → jL → Prop} (w0 : WD Z0 I0) (v0 : Nat) (v1 : Int32) (kv0 : jk Z0 v0 12) (uC : Nat) (huC : jr Z0 v0 37 = some uC) (uE : Nat) (huE : jr Z0 v0 38 = some uE) (uB : Nat) (huB : jr Z0 v0 40 = some uB) (uK : Nat) (huK : jr Z0 v0 9 = some uK) (uR : Nat) (huR : jr Z0 v0 44 = some uR) (uL : Nat) (huL : jr Z0 v0 11 = some uL) (uV : Nat) (huV : jr Z0 v0 13 = some uV) (uQ : Nat) (huQ : jr Z0 v0 10 = some uQ) (p0 : 0 ≤ v1.toInt ∧ v1.toInt ≤ 5) (p1 : 1 ≤ (I0 v0 0).toInt) (v3 : Int32) (v4 : Int32) (hQ : ∀ (r : Int32) (Z' : jZ) (I' : jI) (L' : jL), WD Z' I' → BUD B Z' T → FR Ws_X12_findClimb Z0 I0 Z' I' → CP Z0 Z' → ((r.toInt = 0 ∨ (r.toInt = 1 ∧ CRP (I' uR) (I' v0 43).toInt ((I' v0 0).toInt - 1))) ∧ (r.toInt = 1 ↔ FCv B v0 Z0 I0 (I0 v0 0).toInt (I0 v0 39).toInt (I0 uL v1.toNatClampNeg) (I0 uV v1.toNatClampNeg) v1 (I0 uK v1.toNatClampNeg).toInt (I0 uQ v1.toNatClampNeg).toInt)) → Q r Z' I' L') {K131 : Nat → Int32 → Int32 → jZ → jI → jL → Prop} {N131 : Int} (hK131 : ∀ (v3 : Int32) (v4 : Int32) (Z : jZ) (I : jI) (L : jL), WD Z I → BUD B Z T → FR Ws_X12_findClimb Z0 I0 Z I → CP Z0 Z →   ((-1 ≤ v3.toInt ∧ v3.toInt < (I0 v0 0).toInt ∧ (I0 v0 0).toInt ≤ 24 ∧ 0 ≤ v4.toInt ∧ v4.toInt ≤ (I0 uK v1.toNatClampNeg).toInt ∧ (I0 uK v1.toNatClampNeg).toInt ≤ 120 ∧ ¬ (I uB (1000 * (v3.toInt + 1) + v4.toInt).toNat).toInt = 1000000000 ∧ 0 ≤ (I v0 43).toInt ∧ (I v0 43).toInt ≤ v3.toInt + 1) ∧ MVB (3 * ((I0 v0 0).toInt + 1)) (I0 v0 0).toInt (I uC) (I uE) ∧ DPR (I0 v0 0).toInt (I0 uK v1.toNatClampNeg).toInt (I uC) (I uE) (I uB) (-1) 0 ∧ CRP (I uR) (I v0 43).toInt v3.toInt ∧ FCv B v0 Z0 I0 (I0 v0 0).toInt (I0 v0 39).toInt (I0 uL v1.toNatClampNeg) (I0 uV v1.toNatClampNeg) v1 (I0 uK v1.toNatClampNeg).toInt (I0 uQ v1.toNatClampNeg).toInt) → 24 - v3.toInt < N131 → K131 v0 v3 v4 Z I L) : ∀ (n : Nat) (v5 : Int32) (Z : jZ) (I : jI) (L : jL), WD Z I → BUD B Z T → FR Ws_X12_findClimb Z0 I0 Z I → CP Z0 Z →   ((-1 ≤ v3.toInt ∧ v3.toInt < (I0 v0 0).toInt - 1 ∧ (I0 v0 0).toInt ≤ 24 ∧ 0 ≤ v4.toInt ∧ v4.toInt ≤ (I0 uK v1.toNatClampNeg).toInt ∧ (I0 uK v1.toNatClampNeg).toInt ≤ 120 ∧ 0 ≤ (I v0 43).toInt ∧ (I v0 43).toInt ≤ v3.toInt + 1 ∧ 1 ≤ v5.toInt ∧ v5.toInt ≤ 3) ∧ MVB (3 * ((I0 v0 0).toInt + 1)) (I0 v0 0).toInt (I uC) (I uE) ∧ DPR (I0 v0 0).toInt (I0 uK v1.toNatClampNeg).toInt (I uC) (I uE) (I uB) (-1) 0 ∧ (∃ far : Int, v5.toInt ≤ far ∧ far ≤ 3 ∧ CN (I uC) (I uE) (I uB) (v3.toInt + 1) v4.toInt far) ∧ CRP (I uR) (I v0 43).toInt v3.toInt ∧ FCv B v0 Z0 I0 (I0 v0 0).toInt (I0 v0 39).toInt (I0 uL v1.toNatClampNeg) (I0 uV v1.toNatClampNeg) v1 (I0 uK v1.toNatClampNeg).toInt (I0 uQ v1.toNatClampNeg).toInt) → 24 - v3.toInt ≤ N131 → 4 - v5.toInt < (n : Int) → f_X12_findClimb_L144 B K131 Q n v0 v3 v4 v5 Z I L := by
  intro n
  induction n with
  | zero =>
    intro v5 Z I L w_I bd_Z q_I cp_Z   li hm131 me
    exfalso
    omega
  | succ n ih =>
    intro v5 Z I L w_I bd_Z q_I cp_Z   li hm131 me
    unfold f_X12_findClimb_L144
    have rv5 := i_rng v5
    have rv3 := i_rng v3
    have rv4 := i_rng v4
    have rv1 := i_rng v1
    obtain ⟨li0, li1, li2, li3, li4, li5⟩ := li
    have kv0_0 := kv0
    have kv0 := (q_I.1 _ _ kv0).1
    have t1 : 0 ≤ (I v0 0).toInt ∧ (I v0 0).toInt ≤ 24 := w_I.fld 12 0 kv0 (by decide)
    have t2 : 0 ≤ (I v0 43).toInt ∧ (I v0 43).toInt ≤ 24 := w_I.fld 12 43 kv0 (by decide)
    have huC_1 : jr Z v0 37 = some uC := (q_I.2.1 v0 12 37 kv0_0 (by decide) (by decide)).trans huC
    have luC : jlen Z uC = 75 := by obtain ⟨b9, e9, -, l9⟩ := sh_f w_I.1 kv0 (j := 37) (k := 14) (m := 75) rfl; cases huC_1.symm.trans e9; exact l9
    have kuC : jk Z uC 14 := by obtain ⟨b9, e9, k9, -⟩ := sh_f w_I.1 kv0 (j := 37) (k := 14) (m := 75) rfl; cases huC_1.symm.trans e9; exact k9
    have huE_1 : jr Z v0 38 = some uE := (q_I.2.1 v0 12 38 kv0_0 (by decide) (by decide)).trans huE
    have luE : jlen Z uE = 75 := by obtain ⟨b9, e9, -, l9⟩ := sh_f w_I.1 kv0 (j := 38) (k := 14) (m := 75) rfl; cases huE_1.symm.trans e9; exact l9
    have kuE : jk Z uE 14 := by obtain ⟨b9, e9, k9, -⟩ := sh_f w_I.1 kv0 (j := 38) (k := 14) (m := 75) rfl; cases huE_1.symm.trans e9; exact k9
    have huB_1 : jr Z v0 40 = some uB := (q_I.2.1 v0 12 40 kv0_0 (by decide) (by decide)).trans huB
    have luB : jlen Z uB = 25000 := by obtain ⟨b9, e9, -, l9⟩ := sh_f w_I.1 kv0 (j := 40) (k := 14) (m := 25000) rfl; cases huB_1.symm.trans e9; exact l9
    have kuB : jk Z uB 14 := by obtain ⟨b9, e9, k9, -⟩ := sh_f w_I.1 kv0 (j := 40) (k := 14) (m := 25000) rfl; cases huB_1.symm.trans e9; exact k9
    have huK_1 : jr Z v0 9 = some uK := (q_I.2.1 v0 12 9 kv0_0 (by decide) (by decide)).trans huK
    have luK : jlen Z uK = 6 := by obtain ⟨b9, e9, -, l9⟩ := sh_f w_I.1 kv0 (j := 9) (k := 14) (m := 6) rfl; cases huK_1.symm.trans e9; exact l9
    have kuK : jk Z uK 14 := by obtain ⟨b9, e9, k9, -⟩ := sh_f w_I.1 kv0 (j := 9) (k := 14) (m := 6) rfl; cases huK_1.symm.trans e9; exact k9
    have huR_1 : jr Z v0 44 = some uR := (q_I.2.1 v0 12 44 kv0_0 (by decide) (by decide)).trans huR
    have luR : jlen Z uR = 24 := by obtain ⟨b9, e9, -, l9⟩ := sh_f w_I.1 kv0 (j := 44) (k := 14) (m := 24) rfl; cases huR_1.symm.trans e9; exact l9
    have kuR : jk Z uR 14 := by obtain ⟨b9, e9, k9, -⟩ := sh_f w_I.1 kv0 (j := 44) (k := 14) (m := 24) rfl; cases huR_1.symm.trans e9; exact k9
    have huL_1 : jr Z v0 11 = some uL := (q_I.2.1 v0 12 11 kv0_0 (by decide) (by decide)).trans huL
    have luL : jlen Z uL = 6 := by obtain ⟨b9, e9, -, l9⟩ := sh_f w_I.1 kv0 (j := 11) (k := 14) (m := 6) rfl; cases huL_1.symm.trans e9; exact l9
    have kuL : jk Z uL 14 := by obtain ⟨b9, e9, k9, -⟩ := sh_f w_I.1 kv0 (j := 11) (k := 14) (m := 6) rfl; cases huL_1.symm.trans e9; exact k9
    have huV_1 : jr Z v0 13 = some uV := (q_I.2.1 v0 12 13 kv0_0 (by decide) (by decide)).trans huV
    have luV : jlen Z uV = 6 := by obtain ⟨b9, e9, -, l9⟩ := sh_f w_I.1 kv0 (j := 13) (k := 14) (m := 6) rfl; cases huV_1.symm.trans e9; exact l9
    have kuV : jk Z uV 14 := by obtain ⟨b9, e9, k9, -⟩ := sh_f w_I.1 kv0 (j := 13) (k := 14) (m := 6) rfl; cases huV_1.symm.trans e9; exact k9
    have huQ_1 : jr Z v0 10 = some uQ := (q_I.2.1 v0 12 10 kv0_0 (by decide) (by decide)).trans huQ
    have luQ : jlen Z uQ = 6 := by obtain ⟨b9, e9, -, l9⟩ := sh_f w_I.1 kv0 (j := 10) (k := 14) (m := 6) rfl; cases huQ_1.symm.trans e9; exact l9
    have kuQ : jk Z uQ 14 := by obtain ⟨b9, e9, k9, -⟩ := sh_f w_I.1 kv0 (j := 10) (k := 14) (m := 6) rfl; cases huQ_1.symm.trans e9; exact k9
    have xq_I := q_I.1
    have e0 : (I v0 0).toInt = (I0 v0 0).toInt := by rw [q_I.2.2.1 v0 12 0 kv0_0 (by decide) (by decide)]
    have ek : I uK = I0 uK := q_I.2.2.2 v0 12 9 uK kv0_0 huK (by obtain ⟨b9, e9, k9, -⟩ := sh_f w0.1 kv0_0 (j := 9) (k := 14) (m := 6) rfl; cases huK.symm.trans e9; rw [k9.2]; rfl) rfl (by decide)
    have ekv : (I uK v1.toNatClampNeg).toInt = (I0 uK v1.toNatClampNeg).toInt := by rw [ek]
    have okn : 0 ≤ (I uK v1.toNatClampNeg).toInt ∧ (I uK v1.toNatClampNeg).toInt ≤ 120 := w_I.arr 12 9 kv0 huK_1 kuK rfl rfl _
    have mvI : MVB (3 * ((I v0 0).toInt + 1)) (I v0 0).toInt (I uC) (I uE) := by rw [e0]; exact li1
    have dpI : DPR (I v0 0).toInt (I0 uK v1.toNatClampNeg).toInt (I uC) (I uE) (I uB) (-1) 0 := by rw [e0]; exact li2
    have eq9 : I uQ = I0 uQ := q_I.2.2.2 v0 12 10 uQ kv0_0 huQ (by obtain ⟨b9, e9, k9, -⟩ := sh_f w0.1 kv0_0 (j := 10) (k := 14) (m := 6) rfl; cases huQ.symm.trans e9; rw [k9.2]; rfl) rfl (by decide)
    have eqv : (I uQ v1.toNatClampNeg).toInt = (I0 uQ v1.toNatClampNeg).toInt := by rw [eq9]
    have h00 : 0 ≤ (I0 v0 0).toInt ∧ (I0 v0 0).toInt ≤ 24 := w0.fld 12 0 kv0_0 (by decide)
    refine s_X12_isOn w_I v0 v3 v5 v4 kv0 uC huC_1 uE huE_1 uB huB_1 (by first | exact mvI | assumption) (by omega) (by exact ⟨_, by omega, dpI⟩) (fun r3 p4 => ?_)
    have rr3 := i_rng r3
    refine ⟨fun c5 => ?_, fun c5 => ?_⟩
    · skip
      first | (have t6 : ¬ (r3.toInt = (0)) := (not_congr (i_eq rfl (show (0 : Int32).toInt = 0 from rfl))).mp c5) | (have t6 : ¬ (r3.toInt = (0 : Int32).toInt) := (not_congr (i_eq rfl rfl)).mp c5) | skip
      have hcn : CN (I uC) (I uE) (I uB) (v3.toInt + 1) v4.toInt v5.toInt := by
        rcases p4 with h4 | h4
        · exact h4.2
        · exfalso; omega
      obtain ⟨kk, ii, c1, c2, c3, c4, c8, c6⟩ := hcn
      have tk := i_nat (x := ((((3 : Int32) * (v3 + (1 : Int32))) + v5) - (1 : Int32))) (i_sub (i_add (i_mul (show (3 : Int32).toInt = 3 from rfl) (i_add rfl (show (1 : Int32).toInt = 1 from rfl) (by omega) (by omega)) (by omega) (by omega)) rfl (by omega) (by omega)) (show (1 : Int32).toInt = 1 from rfl) (by omega) (by omega)) (by omega)
      obtain rfl : kk = ((((3 : Int32) * (v3 + (1 : Int32))) + v5) - (1 : Int32)).toNatClampNeg := by omega
      have hm9 := li1 ((((3 : Int32) * (v3 + (1 : Int32))) + v5) - (1 : Int32)).toNatClampNeg (by omega)
      have hm8 := hm9.resolve_left c2
      intro b7 eb7
      obtain rfl : uE = b7 := Option.some.inj (huE_1.symm.trans eb7)
      have o8 : vp_in ((((3 : Int32) * (v3 + (1 : Int32))) + v5) - (1 : Int32)) 75 := vi_of (i_sub (i_add (i_mul (show (3 : Int32).toInt = 3 from rfl) (i_add rfl (show (1 : Int32).toInt = 1 from rfl) (by omega) (by omega)) (by omega) (by omega)) rfl (by omega) (by omega)) (show (1 : Int32).toInt = 1 from rfl) (by omega) (by omega)) (by omega) (by omega)
      refine ⟨o8, ?_⟩
      intro x9 ex9
      have rx9 := i_rng x9
      first | (have tx9 : x9.toInt = (v4.toInt - (I uE ((((3 : Int32) * (v3 + (1 : Int32))) + v5) - (1 : Int32)).toNatClampNeg).toInt) := by (rw [ex9]; exact (i_sub rfl rfl (by omega) (by omega)))) | (have tx9 : x9.toInt = (v4 - (I uE ((((3 : Int32) * (v3 + (1 : Int32))) + v5) - (1 : Int32)).toNatClampNeg)).toInt := by rw [ex9])
      intro x10 ex10
      have rx10 := i_rng x10
      first | (have tx10 : x10.toInt = (v3.toInt + v5.toInt) := by (rw [ex10]; exact (i_add rfl rfl (by omega) (by omega)))) | (have tx10 : x10.toInt = (v3 + v5).toInt := by rw [ex10])
      intro b11 eb11
      obtain rfl : uR = b11 := Option.some.inj (huR_1.symm.trans eb11)
      have t13 : 0 ≤ (I v0 43).toInt ∧ (I v0 43).toInt ≤ 24 := w_I.fld 12 43 kv0 (by decide)
      have o14 : vp_in (I v0 43) 24 := vi_of rfl (by omega) (by omega)
      refine ⟨o14, ?_⟩
      intro I15 eI15
      have w_I15 : WD Z I15 := by rw [eI15]; exact WD_putA w_I 12 44 kv0 huR_1 kuR rfl rfl (by decide) (by constructor <;> omega)
      have ao_I15_uR : ∀ q, q ≠ (I v0 43).toNatClampNeg → I15 uR q = I uR q := fun q hq => by rw [eI15]; exact jpI_off hq
      first | (have u16 : (I15 uR ((I v0 43).toNatClampNeg)).toInt = x10.toInt := by (rw [eI15, show jpI I uR (I v0 43).toNatClampNeg x10 uR (I v0 43).toNatClampNeg = x10 from jpI_at] <;> exact rfl)) | skip
      have f_I15 : FR [(12, 44)] Z I Z I15 := by rw [eI15]; exact FR_upA w_I.2.1 kv0 huR_1 kuR rfl rfl List.mem_cons_self
      have q_I15 : FR Ws_X12_findClimb Z0 I0 Z I15 := q_I.trans w0.1 w0.2.1 (f_I15.mono (by decide))
      have ao_I15_uC : I15 uC = I uC := f_I15.2.2.2 v0 12 37 uC kv0 huC_1 (by rw [kuC.2]; rfl) rfl (by decide)
      have ao_I15_uE : I15 uE = I uE := f_I15.2.2.2 v0 12 38 uE kv0 huE_1 (by rw [kuE.2]; rfl) rfl (by decide)
      have ao_I15_uB : I15 uB = I uB := f_I15.2.2.2 v0 12 40 uB kv0 huB_1 (by rw [kuB.2]; rfl) rfl (by decide)
      have u17 : (I15 v0 0).toInt = (I v0 0).toInt := by rw [f_I15.2.2.1 v0 12 0 kv0 (by decide) (by decide)]
      have u18 : (I15 v0 43).toInt = (I v0 43).toInt := by rw [f_I15.2.2.1 v0 12 43 kv0 (by decide) (by decide)]
      have t20 : 0 ≤ (I15 v0 43).toInt ∧ (I15 v0 43).toInt ≤ 24 := w_I15.fld 12 43 kv0 (by decide)
      intro I21 eI21
      try (have t22 : ((I15 v0 43) + (1 : Int32)).toInt = ((I15 v0 43).toInt + (1)) := (i_add rfl (show (1 : Int32).toInt = 1 from rfl) (by omega) (by omega)))
      have w_I21 : WD Z I21 := by rw [eI21]; exact WD_putF w_I15 12 43 kv0 (by decide) (by decide) (by constructor <;> omega)
      have f_I21 : FR [(12, 43)] Z I15 Z I21 := by rw [eI21]; exact FR_putF kv0 (by decide) List.mem_cons_self
      have q_I21 : FR Ws_X12_findClimb Z0 I0 Z I21 := q_I15.trans w0.1 w0.2.1 (f_I21.mono (by decide))
      have ao_I21_uC : I21 uC = I uC := (f_I21.2.2.2 v0 12 37 uC kv0 huC_1 (by rw [kuC.2]; rfl) rfl (by decide)).trans ao_I15_uC
      have ao_I21_uE : I21 uE = I uE := (f_I21.2.2.2 v0 12 38 uE kv0 huE_1 (by rw [kuE.2]; rfl) rfl (by decide)).trans ao_I15_uE
      have ao_I21_uB : I21 uB = I uB := (f_I21.2.2.2 v0 12 40 uB kv0 huB_1 (by rw [kuB.2]; rfl) rfl (by decide)).trans ao_I15_uB
      have ao_I21_uR : ∀ q, q ≠ (I v0 43).toNatClampNeg → I21 uR q = I uR q := fun q hq => by rw [f_I21.2.2.2 v0 12 44 uR kv0 huR_1 (by rw [kuR.2]; rfl) rfl (by decide)]; exact ao_I15_uR q hq
      have u23 : (I21 uR ((I v0 43).toNatClampNeg)).toInt = (I15 uR ((I v0 43).toNatClampNeg)).toInt := by rw [f_I21.2.2.2 v0 12 44 uR kv0 huR_1 (by rw [kuR.2]; rfl) rfl (by decide)]
      have u24 : (I21 v0 0).toInt = (I15 v0 0).toInt := by rw [f_I21.2.2.1 v0 12 0 kv0 (by decide) (by decide)]
      first | (have u25 : (I21 v0 43).toInt = ((I15 v0 43).toInt + (1)) := by (rw [eI21, show jpI I15 v0 43 ((I15 v0 43) + (1 : Int32)) v0 43 = ((I15 v0 43) + (1 : Int32)) from jpI_at] <;> exact (i_add rfl (show (1 : Int32).toInt = 1 from rfl) (by omega) (by omega)))) | skip
      exact hK131 x10 x9 Z I21 L w_I21 bd_Z q_I21 cp_Z   (by have hcr : CRP (I21 uR) (I21 v0 43).toInt x10.toInt := CRP.step li4 (x := I v0 43) rfl (by omega) (by omega) (by omega) ao_I21_uR (by omega) (by omega); rw [ao_I21_uC, ao_I21_uE, ao_I21_uB]; have e7 : (1000 * (x10.toInt + 1) + x9.toInt).toNat = ii := (by omega); rw [e7]; exact ⟨by omega, li1, li2, hcr, li5⟩)  (by omega)
    · skip
      first | (have t26 : r3.toInt = (0) := (i_eq rfl (show (0 : Int32).toInt = 0 from rfl)).mp c5) | (have t26 : r3.toInt = (0 : Int32).toInt := (i_eq rfl rfl).mp c5) | skip
      intro x27 ex27
      have rx27 := i_rng x27
      first | (have tx27 : x27.toInt = v5.toInt + (1) := by (rw [ex27]; exact (i_add rfl (show (1 : Int32).toInt = 1 from rfl) (by omega) (by omega)))) | skip
      exact ih x27 Z I L w_I bd_Z q_I cp_Z   (by obtain ⟨far, g1, g2, g3⟩ := li3; have hne : ¬ far = v5.toInt := (fun h => by (rcases p4 with h4 | h4; (omega); exact h4.2 (by rw [← h]; exact g3))); refine ⟨?_, li1, li2, ⟨far, ?_, g2, g3⟩, li4, li5⟩ <;> omega) (by omega) (by omega)
set_option maxHeartbeats 4000000 in
set_option maxRecDepth 100000 in
theorem l9_X12_findClimb_L131 {B : Nat × Nat} {T : Nat} {Z0 : jZ} {I0 : jI} {Q : Int32 → jZ → jI → jL → Prop} (w0 : WD Z0 I0) (v0 : Nat) (v1 : Int32) (kv0 : jk Z0 v0 12) (uC : Nat) (huC : jr Z0 v0 37 = some uC) (uE : Nat) (huE : jr Z0 v0 38 = some uE) (uB : Nat) (huB : jr Z0 v0 40 = some uB) (uK : Nat) (huK : jr Z0 v0 9 = some uK) (uR : Nat) (huR : jr Z0 v0 44 = some uR) (uL : Nat) (huL : jr Z0 v0 11 = some uL) (uV : Nat) (huV : jr Z0 v0 13 = some uV) (uQ : Nat) (huQ : jr Z0 v0 10 = some uQ) (p0 : 0 ≤ v1.toInt ∧ v1.toInt ≤ 5) (p1 : 1 ≤ (I0 v0 0).toInt) (hQ : ∀ (r : Int32) (Z' : jZ) (I' : jI) (L' : jL), WD Z' I' → BUD B Z' T → FR Ws_X12_findClimb Z0 I0 Z' I' → CP Z0 Z' → ((r.toInt = 0 ∨ (r.toInt = 1 ∧ CRP (I' uR) (I' v0 43).toInt ((I' v0 0).toInt - 1))) ∧ (r.toInt = 1 ↔ FCv B v0 Z0 I0 (I0 v0 0).toInt (I0 v0 39).toInt (I0 uL v1.toNatClampNeg) (I0 uV v1.toNatClampNeg) v1 (I0 uK v1.toNatClampNeg).toInt (I0 uQ v1.toNatClampNeg).toInt)) → Q r Z' I' L') : ∀ (n : Nat) (v3 : Int32) (v4 : Int32) (Z : jZ) (I : jI) (L : jL), WD Z I → BUD B Z T → FR Ws_X12_findClimb Z0 I0 Z I → CP Z0 Z →   ((-1 ≤ v3.toInt ∧ v3.toInt < (I0 v0 0).toInt ∧ (I0 v0 0).toInt ≤ 24 ∧ 0 ≤ v4.toInt ∧ v4.toInt ≤ (I0 uK v1.toNatClampNeg).toInt ∧ (I0 uK v1.toNatClampNeg).toInt ≤ 120 ∧ ¬ (I uB (1000 * (v3.toInt + 1) + v4.toInt).toNat).toInt = 1000000000 ∧ 0 ≤ (I v0 43).toInt ∧ (I v0 43).toInt ≤ v3.toInt + 1) ∧ MVB (3 * ((I0 v0 0).toInt + 1)) (I0 v0 0).toInt (I uC) (I uE) ∧ DPR (I0 v0 0).toInt (I0 uK v1.toNatClampNeg).toInt (I uC) (I uE) (I uB) (-1) 0 ∧ CRP (I uR) (I v0 43).toInt v3.toInt ∧ FCv B v0 Z0 I0 (I0 v0 0).toInt (I0 v0 39).toInt (I0 uL v1.toNatClampNeg) (I0 uV v1.toNatClampNeg) v1 (I0 uK v1.toNatClampNeg).toInt (I0 uQ v1.toNatClampNeg).toInt) → 24 - v3.toInt < (n : Int) → f_X12_findClimb_L131 B  Q n v0 v3 v4 Z I L := by
  intro n
  induction n with
  | zero =>
    intro v3 v4 Z I L w_I bd_Z q_I cp_Z   li  me
    exfalso
    omega
  | succ n ih =>
    intro v3 v4 Z I L w_I bd_Z q_I cp_Z   li  me
    unfold f_X12_findClimb_L131
    have rv3 := i_rng v3
    have rv4 := i_rng v4
    have rv1 := i_rng v1
    obtain ⟨li0, li1, li2, li3, li4⟩ := li
    have kv0_0 := kv0
    have kv0 := (q_I.1 _ _ kv0).1
    have t28 : 0 ≤ (I v0 0).toInt ∧ (I v0 0).toInt ≤ 24 := w_I.fld 12 0 kv0 (by decide)
    have t29 : 0 ≤ (I v0 43).toInt ∧ (I v0 43).toInt ≤ 24 := w_I.fld 12 43 kv0 (by decide)
    have huC_1 : jr Z v0 37 = some uC := (q_I.2.1 v0 12 37 kv0_0 (by decide) (by decide)).trans huC
    have luC : jlen Z uC = 75 := by obtain ⟨b9, e9, -, l9⟩ := sh_f w_I.1 kv0 (j := 37) (k := 14) (m := 75) rfl; cases huC_1.symm.trans e9; exact l9
    have kuC : jk Z uC 14 := by obtain ⟨b9, e9, k9, -⟩ := sh_f w_I.1 kv0 (j := 37) (k := 14) (m := 75) rfl; cases huC_1.symm.trans e9; exact k9
    have huE_1 : jr Z v0 38 = some uE := (q_I.2.1 v0 12 38 kv0_0 (by decide) (by decide)).trans huE
    have luE : jlen Z uE = 75 := by obtain ⟨b9, e9, -, l9⟩ := sh_f w_I.1 kv0 (j := 38) (k := 14) (m := 75) rfl; cases huE_1.symm.trans e9; exact l9
    have kuE : jk Z uE 14 := by obtain ⟨b9, e9, k9, -⟩ := sh_f w_I.1 kv0 (j := 38) (k := 14) (m := 75) rfl; cases huE_1.symm.trans e9; exact k9
    have huB_1 : jr Z v0 40 = some uB := (q_I.2.1 v0 12 40 kv0_0 (by decide) (by decide)).trans huB
    have luB : jlen Z uB = 25000 := by obtain ⟨b9, e9, -, l9⟩ := sh_f w_I.1 kv0 (j := 40) (k := 14) (m := 25000) rfl; cases huB_1.symm.trans e9; exact l9
    have kuB : jk Z uB 14 := by obtain ⟨b9, e9, k9, -⟩ := sh_f w_I.1 kv0 (j := 40) (k := 14) (m := 25000) rfl; cases huB_1.symm.trans e9; exact k9
    have huK_1 : jr Z v0 9 = some uK := (q_I.2.1 v0 12 9 kv0_0 (by decide) (by decide)).trans huK
    have luK : jlen Z uK = 6 := by obtain ⟨b9, e9, -, l9⟩ := sh_f w_I.1 kv0 (j := 9) (k := 14) (m := 6) rfl; cases huK_1.symm.trans e9; exact l9
    have kuK : jk Z uK 14 := by obtain ⟨b9, e9, k9, -⟩ := sh_f w_I.1 kv0 (j := 9) (k := 14) (m := 6) rfl; cases huK_1.symm.trans e9; exact k9
    have huR_1 : jr Z v0 44 = some uR := (q_I.2.1 v0 12 44 kv0_0 (by decide) (by decide)).trans huR
    have luR : jlen Z uR = 24 := by obtain ⟨b9, e9, -, l9⟩ := sh_f w_I.1 kv0 (j := 44) (k := 14) (m := 24) rfl; cases huR_1.symm.trans e9; exact l9
    have kuR : jk Z uR 14 := by obtain ⟨b9, e9, k9, -⟩ := sh_f w_I.1 kv0 (j := 44) (k := 14) (m := 24) rfl; cases huR_1.symm.trans e9; exact k9
    have huL_1 : jr Z v0 11 = some uL := (q_I.2.1 v0 12 11 kv0_0 (by decide) (by decide)).trans huL
    have luL : jlen Z uL = 6 := by obtain ⟨b9, e9, -, l9⟩ := sh_f w_I.1 kv0 (j := 11) (k := 14) (m := 6) rfl; cases huL_1.symm.trans e9; exact l9
    have kuL : jk Z uL 14 := by obtain ⟨b9, e9, k9, -⟩ := sh_f w_I.1 kv0 (j := 11) (k := 14) (m := 6) rfl; cases huL_1.symm.trans e9; exact k9
    have huV_1 : jr Z v0 13 = some uV := (q_I.2.1 v0 12 13 kv0_0 (by decide) (by decide)).trans huV
    have luV : jlen Z uV = 6 := by obtain ⟨b9, e9, -, l9⟩ := sh_f w_I.1 kv0 (j := 13) (k := 14) (m := 6) rfl; cases huV_1.symm.trans e9; exact l9
    have kuV : jk Z uV 14 := by obtain ⟨b9, e9, k9, -⟩ := sh_f w_I.1 kv0 (j := 13) (k := 14) (m := 6) rfl; cases huV_1.symm.trans e9; exact k9
    have huQ_1 : jr Z v0 10 = some uQ := (q_I.2.1 v0 12 10 kv0_0 (by decide) (by decide)).trans huQ
    have luQ : jlen Z uQ = 6 := by obtain ⟨b9, e9, -, l9⟩ := sh_f w_I.1 kv0 (j := 10) (k := 14) (m := 6) rfl; cases huQ_1.symm.trans e9; exact l9
    have kuQ : jk Z uQ 14 := by obtain ⟨b9, e9, k9, -⟩ := sh_f w_I.1 kv0 (j := 10) (k := 14) (m := 6) rfl; cases huQ_1.symm.trans e9; exact k9
    have xq_I := q_I.1
    have e0 : (I v0 0).toInt = (I0 v0 0).toInt := by rw [q_I.2.2.1 v0 12 0 kv0_0 (by decide) (by decide)]
    have ek : I uK = I0 uK := q_I.2.2.2 v0 12 9 uK kv0_0 huK (by obtain ⟨b9, e9, k9, -⟩ := sh_f w0.1 kv0_0 (j := 9) (k := 14) (m := 6) rfl; cases huK.symm.trans e9; rw [k9.2]; rfl) rfl (by decide)
    have ekv : (I uK v1.toNatClampNeg).toInt = (I0 uK v1.toNatClampNeg).toInt := by rw [ek]
    have okn : 0 ≤ (I uK v1.toNatClampNeg).toInt ∧ (I uK v1.toNatClampNeg).toInt ≤ 120 := w_I.arr 12 9 kv0 huK_1 kuK rfl rfl _
    have mvI : MVB (3 * ((I v0 0).toInt + 1)) (I v0 0).toInt (I uC) (I uE) := by rw [e0]; exact li1
    have dpI : DPR (I v0 0).toInt (I0 uK v1.toNatClampNeg).toInt (I uC) (I uE) (I uB) (-1) 0 := by rw [e0]; exact li2
    have eq9 : I uQ = I0 uQ := q_I.2.2.2 v0 12 10 uQ kv0_0 huQ (by obtain ⟨b9, e9, k9, -⟩ := sh_f w0.1 kv0_0 (j := 10) (k := 14) (m := 6) rfl; cases huQ.symm.trans e9; rw [k9.2]; rfl) rfl (by decide)
    have eqv : (I uQ v1.toNatClampNeg).toInt = (I0 uQ v1.toNatClampNeg).toInt := by rw [eq9]
    have h00 : 0 ≤ (I0 v0 0).toInt ∧ (I0 v0 0).toInt ≤ 24 := w0.fld 12 0 kv0_0 (by decide)
    have t31 : 0 ≤ (I v0 0).toInt ∧ (I v0 0).toInt ≤ 24 := w_I.fld 12 0 kv0 (by decide)
    refine ⟨fun c32 => ?_, fun c32 => ?_⟩
    · skip
      first | (have t33 : ((I v0 0).toInt - (1)) ≤ v3.toInt := (i_le (i_sub rfl (show (1 : Int32).toInt = 1 from rfl) (by omega) (by omega)) rfl).mp c32) | (have t33 : ((I v0 0) - (1 : Int32)).toInt ≤ v3.toInt := (i_le rfl rfl).mp c32) | skip
      have t34 : (1 : Int32).toInt = 1 := rfl
      exact hQ (1 : Int32) Z I L w_I bd_Z q_I cp_Z (by exact ⟨Or.inr ⟨rfl, by rw [show (I v0 0).toInt - 1 = v3.toInt by omega]; exact li3⟩, fun _ => li4, fun _ => rfl⟩)
    · skip
      first | (have t35 : ¬ (((I v0 0).toInt - (1)) ≤ v3.toInt) := (not_congr (i_le (i_sub rfl (show (1 : Int32).toInt = 1 from rfl) (by omega) (by omega)) rfl)).mp c32) | (have t35 : ¬ (((I v0 0) - (1 : Int32)).toInt ≤ v3.toInt) := (not_congr (i_le rfl rfl)).mp c32) | skip
      have t36 : (1 : Int32).toInt = 1 := rfl
      exact ⟨(4 - (1 : Int32).toInt).toNat + 1, l9_X12_findClimb_L144 w0 v0 v1 kv0_0 uC huC uE huE uB huB uK huK uR huR uL huL uV huV uQ huQ p0 p1 v3 v4  hQ ih  _ (1 : Int32) Z I L w_I bd_Z q_I cp_Z   (by obtain ⟨far, g1, g2, g3⟩ := DPR.cn li2 (f := v3.toInt + 1) (e := v4.toInt) (by omega) (by omega); refine ⟨?_, li1, li2, ⟨far, ?_, g2, g3⟩, li3, li4⟩ <;> omega) (by omega) (by omega)⟩
set_option maxHeartbeats 4000000 in
set_option maxRecDepth 100000 in
theorem l9_X12_findClimb_L19 {B : Nat × Nat} {T : Nat} {Z0 : jZ} {I0 : jI} {Q : Int32 → jZ → jI → jL → Prop} (w0 : WD Z0 I0) (v0 : Nat) (v1 : Int32) (kv0 : jk Z0 v0 12) (uC : Nat) (huC : jr Z0 v0 37 = some uC) (uE : Nat) (huE : jr Z0 v0 38 = some uE) (uB : Nat) (huB : jr Z0 v0 40 = some uB) (uK : Nat) (huK : jr Z0 v0 9 = some uK) (uR : Nat) (huR : jr Z0 v0 44 = some uR) (uL : Nat) (huL : jr Z0 v0 11 = some uL) (uV : Nat) (huV : jr Z0 v0 13 = some uV) (uQ : Nat) (huQ : jr Z0 v0 10 = some uQ) (p0 : 0 ≤ v1.toInt ∧ v1.toInt ≤ 5) (p1 : 1 ≤ (I0 v0 0).toInt) (hQ : ∀ (r : Int32) (Z' : jZ) (I' : jI) (L' : jL), WD Z' I' → BUD B Z' T → FR Ws_X12_findClimb Z0 I0 Z' I' → CP Z0 Z' → ((r.toInt = 0 ∨ (r.toInt = 1 ∧ CRP (I' uR) (I' v0 43).toInt ((I' v0 0).toInt - 1))) ∧ (r.toInt = 1 ↔ FCv B v0 Z0 I0 (I0 v0 0).toInt (I0 v0 39).toInt (I0 uL v1.toNatClampNeg) (I0 uV v1.toNatClampNeg) v1 (I0 uK v1.toNatClampNeg).toInt (I0 uQ v1.toNatClampNeg).toInt)) → Q r Z' I' L') : ∀ (n : Nat) (v2 : Int32) (v3 : Int32) (Z : jZ) (I : jI) (L : jL), WD Z I → BUD B Z T → FR Ws_X12_findClimb Z0 I0 Z I → CP Z0 Z →   ((-1 ≤ v2.toInt ∧ v2.toInt < v3.toInt ∧ 0 ≤ v3.toInt ∧ v3.toInt ≤ 121 ∧ v2.toInt ≤ (I0 uK v1.toNatClampNeg).toInt ∧ (v2.toInt = -1 ∨ ¬ (I uB v2.toNatClampNeg).toInt = 1000000000)) ∧ MVB (3 * ((I0 v0 0).toInt + 1)) (I0 v0 0).toInt (I uC) (I uE) ∧ DPR (I0 v0 0).toInt (I0 uK v1.toNatClampNeg).toInt (I uC) (I uE) (I uB) (-1) 0 ∧ XT B v0 Z0 I0 (I0 v0 0).toInt (I0 v0 39).toInt (I0 uL v1.toNatClampNeg) (I0 uV v1.toNatClampNeg) v1 (I0 uK v1.toNatClampNeg).toInt (I uC) (I uE) (I uB) ∧ ((v2.toInt = -1 ∧ ∀ e : Nat, (e : Int) < v3.toInt → ¬ (¬ (I uB e).toInt = 1000000000 ∧ (I uB e).toInt / 100 ≤ (I0 uQ v1.toNatClampNeg).toInt)) ∨ (¬ v2.toInt = -1 ∧ GD (I uB) (I0 uK v1.toNatClampNeg).toInt (I0 uQ v1.toNatClampNeg).toInt))) → 121 - v3.toInt < (n : Int) → f_X12_findClimb_L19 B  Q n v0 v1 v2 v3 Z I L := by
  intro n
  induction n with
  | zero =>
    intro v2 v3 Z I L w_I bd_Z q_I cp_Z   li  me
    exfalso
    omega
  | succ n ih =>
    intro v2 v3 Z I L w_I bd_Z q_I cp_Z   li  me
    unfold f_X12_findClimb_L19
    have rv2 := i_rng v2
    have rv3 := i_rng v3
    have rv1 := i_rng v1
    obtain ⟨li0, li1, li2, li3, li4⟩ := li
    have kv0_0 := kv0
    have kv0 := (q_I.1 _ _ kv0).1
    have t37 : 0 ≤ (I v0 0).toInt ∧ (I v0 0).toInt ≤ 24 := w_I.fld 12 0 kv0 (by decide)
    have t38 : 0 ≤ (I v0 43).toInt ∧ (I v0 43).toInt ≤ 24 := w_I.fld 12 43 kv0 (by decide)
    have huC_1 : jr Z v0 37 = some uC := (q_I.2.1 v0 12 37 kv0_0 (by decide) (by decide)).trans huC
    have luC : jlen Z uC = 75 := by obtain ⟨b9, e9, -, l9⟩ := sh_f w_I.1 kv0 (j := 37) (k := 14) (m := 75) rfl; cases huC_1.symm.trans e9; exact l9
    have kuC : jk Z uC 14 := by obtain ⟨b9, e9, k9, -⟩ := sh_f w_I.1 kv0 (j := 37) (k := 14) (m := 75) rfl; cases huC_1.symm.trans e9; exact k9
    have huE_1 : jr Z v0 38 = some uE := (q_I.2.1 v0 12 38 kv0_0 (by decide) (by decide)).trans huE
    have luE : jlen Z uE = 75 := by obtain ⟨b9, e9, -, l9⟩ := sh_f w_I.1 kv0 (j := 38) (k := 14) (m := 75) rfl; cases huE_1.symm.trans e9; exact l9
    have kuE : jk Z uE 14 := by obtain ⟨b9, e9, k9, -⟩ := sh_f w_I.1 kv0 (j := 38) (k := 14) (m := 75) rfl; cases huE_1.symm.trans e9; exact k9
    have huB_1 : jr Z v0 40 = some uB := (q_I.2.1 v0 12 40 kv0_0 (by decide) (by decide)).trans huB
    have luB : jlen Z uB = 25000 := by obtain ⟨b9, e9, -, l9⟩ := sh_f w_I.1 kv0 (j := 40) (k := 14) (m := 25000) rfl; cases huB_1.symm.trans e9; exact l9
    have kuB : jk Z uB 14 := by obtain ⟨b9, e9, k9, -⟩ := sh_f w_I.1 kv0 (j := 40) (k := 14) (m := 25000) rfl; cases huB_1.symm.trans e9; exact k9
    have huK_1 : jr Z v0 9 = some uK := (q_I.2.1 v0 12 9 kv0_0 (by decide) (by decide)).trans huK
    have luK : jlen Z uK = 6 := by obtain ⟨b9, e9, -, l9⟩ := sh_f w_I.1 kv0 (j := 9) (k := 14) (m := 6) rfl; cases huK_1.symm.trans e9; exact l9
    have kuK : jk Z uK 14 := by obtain ⟨b9, e9, k9, -⟩ := sh_f w_I.1 kv0 (j := 9) (k := 14) (m := 6) rfl; cases huK_1.symm.trans e9; exact k9
    have huR_1 : jr Z v0 44 = some uR := (q_I.2.1 v0 12 44 kv0_0 (by decide) (by decide)).trans huR
    have luR : jlen Z uR = 24 := by obtain ⟨b9, e9, -, l9⟩ := sh_f w_I.1 kv0 (j := 44) (k := 14) (m := 24) rfl; cases huR_1.symm.trans e9; exact l9
    have kuR : jk Z uR 14 := by obtain ⟨b9, e9, k9, -⟩ := sh_f w_I.1 kv0 (j := 44) (k := 14) (m := 24) rfl; cases huR_1.symm.trans e9; exact k9
    have huL_1 : jr Z v0 11 = some uL := (q_I.2.1 v0 12 11 kv0_0 (by decide) (by decide)).trans huL
    have luL : jlen Z uL = 6 := by obtain ⟨b9, e9, -, l9⟩ := sh_f w_I.1 kv0 (j := 11) (k := 14) (m := 6) rfl; cases huL_1.symm.trans e9; exact l9
    have kuL : jk Z uL 14 := by obtain ⟨b9, e9, k9, -⟩ := sh_f w_I.1 kv0 (j := 11) (k := 14) (m := 6) rfl; cases huL_1.symm.trans e9; exact k9
    have huV_1 : jr Z v0 13 = some uV := (q_I.2.1 v0 12 13 kv0_0 (by decide) (by decide)).trans huV
    have luV : jlen Z uV = 6 := by obtain ⟨b9, e9, -, l9⟩ := sh_f w_I.1 kv0 (j := 13) (k := 14) (m := 6) rfl; cases huV_1.symm.trans e9; exact l9
    have kuV : jk Z uV 14 := by obtain ⟨b9, e9, k9, -⟩ := sh_f w_I.1 kv0 (j := 13) (k := 14) (m := 6) rfl; cases huV_1.symm.trans e9; exact k9
    have huQ_1 : jr Z v0 10 = some uQ := (q_I.2.1 v0 12 10 kv0_0 (by decide) (by decide)).trans huQ
    have luQ : jlen Z uQ = 6 := by obtain ⟨b9, e9, -, l9⟩ := sh_f w_I.1 kv0 (j := 10) (k := 14) (m := 6) rfl; cases huQ_1.symm.trans e9; exact l9
    have kuQ : jk Z uQ 14 := by obtain ⟨b9, e9, k9, -⟩ := sh_f w_I.1 kv0 (j := 10) (k := 14) (m := 6) rfl; cases huQ_1.symm.trans e9; exact k9
    have xq_I := q_I.1
    have e0 : (I v0 0).toInt = (I0 v0 0).toInt := by rw [q_I.2.2.1 v0 12 0 kv0_0 (by decide) (by decide)]
    have ek : I uK = I0 uK := q_I.2.2.2 v0 12 9 uK kv0_0 huK (by obtain ⟨b9, e9, k9, -⟩ := sh_f w0.1 kv0_0 (j := 9) (k := 14) (m := 6) rfl; cases huK.symm.trans e9; rw [k9.2]; rfl) rfl (by decide)
    have ekv : (I uK v1.toNatClampNeg).toInt = (I0 uK v1.toNatClampNeg).toInt := by rw [ek]
    have okn : 0 ≤ (I uK v1.toNatClampNeg).toInt ∧ (I uK v1.toNatClampNeg).toInt ≤ 120 := w_I.arr 12 9 kv0 huK_1 kuK rfl rfl _
    have eq9 : I uQ = I0 uQ := q_I.2.2.2 v0 12 10 uQ kv0_0 huQ (by obtain ⟨b9, e9, k9, -⟩ := sh_f w0.1 kv0_0 (j := 10) (k := 14) (m := 6) rfl; cases huQ.symm.trans e9; rw [k9.2]; rfl) rfl (by decide)
    have eqv : (I uQ v1.toNatClampNeg).toInt = (I0 uQ v1.toNatClampNeg).toInt := by rw [eq9]
    have h00 : 0 ≤ (I0 v0 0).toInt ∧ (I0 v0 0).toInt ≤ 24 := w0.fld 12 0 kv0_0 (by decide)
    have nv3 := i_nat (x := v3) rfl (by omega)
    intro b39 eb39
    obtain rfl : uK = b39 := Option.some.inj (huK_1.symm.trans eb39)
    have o40 : vp_in v1 6 := vi_of rfl (by omega) (by omega)
    refine ⟨o40, ?_⟩
    have t41 : 0 ≤ (I uK v1.toNatClampNeg).toInt ∧ (I uK v1.toNatClampNeg).toInt ≤ 120 := w_I.arr 12 9 kv0 huK_1 kuK rfl rfl _
    refine ⟨fun c42 => ?_, fun c42 => ?_⟩
    · skip
      first | (have t43 : (I uK v1.toNatClampNeg).toInt < v3.toInt := (i_lt rfl rfl).mp c42) | (have t43 : (I uK v1.toNatClampNeg).toInt < v3.toInt := (i_lt rfl rfl).mp c42) | skip
      refine ⟨fun c44 => ?_, fun c44 => ?_⟩
      · skip
        first | (have t45 : ¬ (v2.toInt = (-1)) := (not_congr (i_eq rfl (show (-1 : Int32).toInt = -1 from rfl))).mp c44) | (have t45 : ¬ (v2.toInt = (-1 : Int32).toInt) := (not_congr (i_eq rfl rfl)).mp c44) | skip
        intro b46 eb46
        obtain rfl : uB = b46 := Option.some.inj (huB_1.symm.trans eb46)
        have o47 : vp_in v2 25000 := vi_of rfl (by omega) (by omega)
        refine ⟨o47, ?_⟩
        intro I48 eI48
        try (have t49 : ((I uB v2.toNatClampNeg) / (100 : Int32)).toInt = ((I uB v2.toNatClampNeg).toInt / (100)) := (i_div rfl (show (100 : Int32).toInt = 100 from rfl) (by omega) (by omega)))
        have w_I48 : WD Z I48 := by rw [eI48]; exact WD_putF w_I 12 41 kv0 (by decide) (by decide) trivial
        have f_I48 : FR [(12, 41)] Z I Z I48 := by rw [eI48]; exact FR_putF kv0 (by decide) List.mem_cons_self
        have q_I48 : FR Ws_X12_findClimb Z0 I0 Z I48 := q_I.trans w0.1 w0.2.1 (f_I48.mono (by decide))
        have ao_I48_uC : I48 uC = I uC := f_I48.2.2.2 v0 12 37 uC kv0 huC_1 (by rw [kuC.2]; rfl) rfl (by decide)
        have ao_I48_uE : I48 uE = I uE := f_I48.2.2.2 v0 12 38 uE kv0 huE_1 (by rw [kuE.2]; rfl) rfl (by decide)
        have ao_I48_uB : I48 uB = I uB := f_I48.2.2.2 v0 12 40 uB kv0 huB_1 (by rw [kuB.2]; rfl) rfl (by decide)
        have ao_I48_uR : I48 uR = I uR := f_I48.2.2.2 v0 12 44 uR kv0 huR_1 (by rw [kuR.2]; rfl) rfl (by decide)
        have u50 : (I48 uK (v1.toNatClampNeg)).toInt = (I uK (v1.toNatClampNeg)).toInt := by rw [f_I48.2.2.2 v0 12 9 uK kv0 huK_1 (by rw [kuK.2]; rfl) rfl (by decide)]
        have u51 : (I48 v0 0).toInt = (I v0 0).toInt := by rw [f_I48.2.2.1 v0 12 0 kv0 (by decide) (by decide)]
        have u52 : (I48 v0 43).toInt = (I v0 43).toInt := by rw [f_I48.2.2.1 v0 12 43 kv0 (by decide) (by decide)]
        first | (have u53 : (I48 v0 41).toInt = ((I uB v2.toNatClampNeg).toInt / (100)) := by (rw [eI48, show jpI I v0 41 ((I uB v2.toNatClampNeg) / (100 : Int32)) v0 41 = ((I uB v2.toNatClampNeg) / (100 : Int32)) from jpI_at] <;> exact (i_div rfl (show (100 : Int32).toInt = 100 from rfl) (by omega) (by omega)))) | skip
        intro I54 eI54
        have w_I54 : WD Z I54 := by rw [eI54]; exact WD_putF w_I48 12 42 kv0 (by decide) (by decide) trivial
        have f_I54 : FR [(12, 42)] Z I48 Z I54 := by rw [eI54]; exact FR_putF kv0 (by decide) List.mem_cons_self
        have q_I54 : FR Ws_X12_findClimb Z0 I0 Z I54 := q_I48.trans w0.1 w0.2.1 (f_I54.mono (by decide))
        have ao_I54_uC : I54 uC = I uC := (f_I54.2.2.2 v0 12 37 uC kv0 huC_1 (by rw [kuC.2]; rfl) rfl (by decide)).trans ao_I48_uC
        have ao_I54_uE : I54 uE = I uE := (f_I54.2.2.2 v0 12 38 uE kv0 huE_1 (by rw [kuE.2]; rfl) rfl (by decide)).trans ao_I48_uE
        have ao_I54_uB : I54 uB = I uB := (f_I54.2.2.2 v0 12 40 uB kv0 huB_1 (by rw [kuB.2]; rfl) rfl (by decide)).trans ao_I48_uB
        have ao_I54_uR : I54 uR = I uR := (f_I54.2.2.2 v0 12 44 uR kv0 huR_1 (by rw [kuR.2]; rfl) rfl (by decide)).trans ao_I48_uR
        have u55 : (I54 uK (v1.toNatClampNeg)).toInt = (I48 uK (v1.toNatClampNeg)).toInt := by rw [f_I54.2.2.2 v0 12 9 uK kv0 huK_1 (by rw [kuK.2]; rfl) rfl (by decide)]
        have u56 : (I54 v0 0).toInt = (I48 v0 0).toInt := by rw [f_I54.2.2.1 v0 12 0 kv0 (by decide) (by decide)]
        have u57 : (I54 v0 43).toInt = (I48 v0 43).toInt := by rw [f_I54.2.2.1 v0 12 43 kv0 (by decide) (by decide)]
        have u58 : (I54 v0 41).toInt = (I48 v0 41).toInt := by rw [f_I54.2.2.1 v0 12 41 kv0 (by decide) (by decide)]
        first | (have u59 : (I54 v0 42).toInt = v2.toInt := by (rw [eI54, show jpI I48 v0 42 v2 v0 42 = v2 from jpI_at] <;> exact rfl)) | skip
        intro I60 eI60
        have t61 : (0 : Int32).toInt = 0 := rfl
        have w_I60 : WD Z I60 := by rw [eI60]; exact WD_putF w_I54 12 43 kv0 (by decide) (by decide) (by constructor <;> omega)
        have f_I60 : FR [(12, 43)] Z I54 Z I60 := by rw [eI60]; exact FR_putF kv0 (by decide) List.mem_cons_self
        have q_I60 : FR Ws_X12_findClimb Z0 I0 Z I60 := q_I54.trans w0.1 w0.2.1 (f_I60.mono (by decide))
        have ao_I60_uC : I60 uC = I uC := (f_I60.2.2.2 v0 12 37 uC kv0 huC_1 (by rw [kuC.2]; rfl) rfl (by decide)).trans ao_I54_uC
        have ao_I60_uE : I60 uE = I uE := (f_I60.2.2.2 v0 12 38 uE kv0 huE_1 (by rw [kuE.2]; rfl) rfl (by decide)).trans ao_I54_uE
        have ao_I60_uB : I60 uB = I uB := (f_I60.2.2.2 v0 12 40 uB kv0 huB_1 (by rw [kuB.2]; rfl) rfl (by decide)).trans ao_I54_uB
        have ao_I60_uR : I60 uR = I uR := (f_I60.2.2.2 v0 12 44 uR kv0 huR_1 (by rw [kuR.2]; rfl) rfl (by decide)).trans ao_I54_uR
        have u62 : (I60 uK (v1.toNatClampNeg)).toInt = (I54 uK (v1.toNatClampNeg)).toInt := by rw [f_I60.2.2.2 v0 12 9 uK kv0 huK_1 (by rw [kuK.2]; rfl) rfl (by decide)]
        have u63 : (I60 v0 0).toInt = (I54 v0 0).toInt := by rw [f_I60.2.2.1 v0 12 0 kv0 (by decide) (by decide)]
        have u64 : (I60 v0 41).toInt = (I54 v0 41).toInt := by rw [f_I60.2.2.1 v0 12 41 kv0 (by decide) (by decide)]
        have u65 : (I60 v0 42).toInt = (I54 v0 42).toInt := by rw [f_I60.2.2.1 v0 12 42 kv0 (by decide) (by decide)]
        first | (have u66 : (I60 v0 43).toInt = (0) := by (rw [eI60, show jpI I54 v0 43 (0 : Int32) v0 43 = (0 : Int32) from jpI_at] <;> exact (show (0 : Int32).toInt = 0 from rfl))) | skip
        have t67 : (-1 : Int32).toInt = -1 := rfl
        exact ⟨(24 - (-1 : Int32).toInt).toNat + 1, l9_X12_findClimb_L131 w0 v0 v1 kv0_0 uC huC uE huE uB huB uK huK uR huR uL huL uV huV uQ huQ p0 p1   hQ   _ (-1 : Int32) v2 Z I60 L w_I60 bd_Z q_I60 cp_Z   (by have hcr : CRP (I60 uR) (I60 v0 43).toInt (-1 : Int32).toInt := (by rw [show (I60 v0 43).toInt = 0 by omega]; exact CRP.zero); rw [ao_I60_uC, ao_I60_uE, ao_I60_uB]; have hv2 := i_nat (x := v2) rfl (by omega); have e7 : (1000 * ((-1 : Int32).toInt + 1) + v2.toInt).toNat = v2.toNatClampNeg := (by omega); rw [e7]; exact ⟨by omega, li1, li2, hcr, (XT.fc li3 (by omega)).mp (li4.resolve_left (fun h => by omega)).2⟩)  (by omega)⟩
      · skip
        first | (have t68 : v2.toInt = (-1) := (i_eq rfl (show (-1 : Int32).toInt = -1 from rfl)).mp c44) | (have t68 : v2.toInt = (-1 : Int32).toInt := (i_eq rfl rfl).mp c44) | skip
        have t69 : (0 : Int32).toInt = 0 := rfl
        exact hQ (0 : Int32) Z I L w_I bd_Z q_I cp_Z (by refine ⟨Or.inl rfl, fun h => absurd h (by decide), fun h => ?_⟩; exfalso; rcases li4 with ⟨a1, a2⟩ | ⟨a1, a2⟩; (obtain ⟨e, g1, g2, g3⟩ := (XT.fc li3 (by omega)).mpr h; exact a2 e (by omega) ⟨g2, g3⟩); (omega))
    · skip
      first | (have t70 : ¬ ((I uK v1.toNatClampNeg).toInt < v3.toInt) := (not_congr (i_lt rfl rfl)).mp c42) | (have t70 : ¬ ((I uK v1.toNatClampNeg).toInt < v3.toInt) := (not_congr (i_lt rfl rfl)).mp c42) | skip
      intro b71 eb71
      obtain rfl : uB = b71 := Option.some.inj (huB_1.symm.trans eb71)
      have o72 : vp_in v3 25000 := vi_of rfl (by omega) (by omega)
      refine ⟨o72, ?_⟩
      refine ⟨fun c73 => ?_, fun c73 => ?_⟩
      · skip
        first | (have t74 : (I uB v3.toNatClampNeg).toInt = (1000000000) := (i_eq rfl (show (1000000000 : Int32).toInt = 1000000000 from rfl)).mp c73) | (have t74 : (I uB v3.toNatClampNeg).toInt = (1000000000 : Int32).toInt := (i_eq rfl rfl).mp c73) | skip
        unfold f_X12_findClimb_b90
        intro x75 ex75
        have rx75 := i_rng x75
        first | (have tx75 : x75.toInt = v3.toInt + (1) := by (rw [ex75]; exact (i_add rfl (show (1 : Int32).toInt = 1 from rfl) (by omega) (by omega)))) | skip
        exact ih v2 x75 Z I L w_I bd_Z q_I cp_Z   (by refine ⟨by omega, li1, li2, li3, ?_⟩; first | exact Or.inr ⟨by omega, v3.toNatClampNeg, by omega, by omega, by omega⟩ | (rcases li4 with ⟨a1, a2⟩ | ⟨a1, a2⟩; (refine Or.inl ⟨by omega, fun e he => ?_⟩; by_cases e9 : e = v3.toNatClampNeg; (subst e9; omega); exact a2 e (by omega)); exact Or.inr ⟨by omega, a2⟩))  (by omega)
      · skip
        first | (have t76 : ¬ ((I uB v3.toNatClampNeg).toInt = (1000000000)) := (not_congr (i_eq rfl (show (1000000000 : Int32).toInt = 1000000000 from rfl))).mp c73) | (have t76 : ¬ ((I uB v3.toNatClampNeg).toInt = (1000000000 : Int32).toInt) := (not_congr (i_eq rfl rfl)).mp c73) | skip
        have hb0 : 0 ≤ (I uB v3.toNatClampNeg).toInt := DPR.nn li2 (by omega) (by omega)
        intro b77 eb77
        obtain rfl : uB = b77 := Option.some.inj (huB_1.symm.trans eb77)
        have o78 : vp_in v3 25000 := vi_of rfl (by omega) (by omega)
        refine ⟨o78, ?_⟩
        intro b79 eb79
        obtain rfl : uQ = b79 := Option.some.inj (huQ_1.symm.trans eb79)
        have o80 : vp_in v1 6 := vi_of rfl (by omega) (by omega)
        refine ⟨o80, ?_⟩
        have t81 : 0 ≤ (I uQ v1.toNatClampNeg).toInt ∧ (I uQ v1.toNatClampNeg).toInt ≤ 999 := w_I.arr 12 10 kv0 huQ_1 kuQ rfl rfl _
        refine ⟨fun c82 => ?_, fun c82 => ?_⟩
        · skip
          first | (have t83 : ((I uB v3.toNatClampNeg).toInt / (100)) ≤ (I uQ v1.toNatClampNeg).toInt := (i_le (i_div rfl (show (100 : Int32).toInt = 100 from rfl) (by omega) (by omega)) rfl).mp c82) | (have t83 : ((I uB v3.toNatClampNeg) / (100 : Int32)).toInt ≤ (I uQ v1.toNatClampNeg).toInt := (i_le rfl rfl).mp c82) | skip
          refine ⟨fun c84 => ?_, fun c84 => ?_⟩
          · skip
            first | (have t85 : v2.toInt = (-1) := (i_eq rfl (show (-1 : Int32).toInt = -1 from rfl)).mp c84) | (have t85 : v2.toInt = (-1 : Int32).toInt := (i_eq rfl rfl).mp c84) | skip
            unfold f_X12_findClimb_b88
            unfold f_X12_findClimb_b90
            intro x86 ex86
            have rx86 := i_rng x86
            first | (have tx86 : x86.toInt = v3.toInt + (1) := by (rw [ex86]; exact (i_add rfl (show (1 : Int32).toInt = 1 from rfl) (by omega) (by omega)))) | skip
            exact ih v3 x86 Z I L w_I bd_Z q_I cp_Z   (by refine ⟨by omega, li1, li2, li3, ?_⟩; first | exact Or.inr ⟨by omega, v3.toNatClampNeg, by omega, by omega, by omega⟩ | (rcases li4 with ⟨a1, a2⟩ | ⟨a1, a2⟩; (refine Or.inl ⟨by omega, fun e he => ?_⟩; by_cases e9 : e = v3.toNatClampNeg; (subst e9; omega); exact a2 e (by omega)); exact Or.inr ⟨by omega, a2⟩))  (by omega)
          · skip
            first | (have t87 : ¬ (v2.toInt = (-1)) := (not_congr (i_eq rfl (show (-1 : Int32).toInt = -1 from rfl))).mp c84) | (have t87 : ¬ (v2.toInt = (-1 : Int32).toInt) := (not_congr (i_eq rfl rfl)).mp c84) | skip
            intro b88 eb88
            obtain rfl : uB = b88 := Option.some.inj (huB_1.symm.trans eb88)
            have o89 : vp_in v3 25000 := vi_of rfl (by omega) (by omega)
            refine ⟨o89, ?_⟩
            intro b90 eb90
            obtain rfl : uB = b90 := Option.some.inj (huB_1.symm.trans eb90)
            have o91 : vp_in v2 25000 := vi_of rfl (by omega) (by omega)
            refine ⟨o91, ?_⟩
            refine ⟨fun c92 => ?_, fun c92 => ?_⟩
            · skip
              first | (have t93 : ((I uB v2.toNatClampNeg).toInt / (100)) ≤ ((I uB v3.toNatClampNeg).toInt / (100)) := (i_le (i_div rfl (show (100 : Int32).toInt = 100 from rfl) (by omega) (by omega)) (i_div rfl (show (100 : Int32).toInt = 100 from rfl) (by omega) (by omega))).mp c92) | (have t93 : ((I uB v2.toNatClampNeg) / (100 : Int32)).toInt ≤ ((I uB v3.toNatClampNeg) / (100 : Int32)).toInt := (i_le rfl rfl).mp c92) | skip
              unfold f_X12_findClimb_b90
              intro x94 ex94
              have rx94 := i_rng x94
              first | (have tx94 : x94.toInt = v3.toInt + (1) := by (rw [ex94]; exact (i_add rfl (show (1 : Int32).toInt = 1 from rfl) (by omega) (by omega)))) | skip
              exact ih v2 x94 Z I L w_I bd_Z q_I cp_Z   (by refine ⟨by omega, li1, li2, li3, ?_⟩; first | exact Or.inr ⟨by omega, v3.toNatClampNeg, by omega, by omega, by omega⟩ | (rcases li4 with ⟨a1, a2⟩ | ⟨a1, a2⟩; (refine Or.inl ⟨by omega, fun e he => ?_⟩; by_cases e9 : e = v3.toNatClampNeg; (subst e9; omega); exact a2 e (by omega)); exact Or.inr ⟨by omega, a2⟩))  (by omega)
            · skip
              first | (have t95 : ¬ (((I uB v2.toNatClampNeg).toInt / (100)) ≤ ((I uB v3.toNatClampNeg).toInt / (100))) := (not_congr (i_le (i_div rfl (show (100 : Int32).toInt = 100 from rfl) (by omega) (by omega)) (i_div rfl (show (100 : Int32).toInt = 100 from rfl) (by omega) (by omega)))).mp c92) | (have t95 : ¬ (((I uB v2.toNatClampNeg) / (100 : Int32)).toInt ≤ ((I uB v3.toNatClampNeg) / (100 : Int32)).toInt) := (not_congr (i_le rfl rfl)).mp c92) | skip
              unfold f_X12_findClimb_b88
              unfold f_X12_findClimb_b90
              intro x96 ex96
              have rx96 := i_rng x96
              first | (have tx96 : x96.toInt = v3.toInt + (1) := by (rw [ex96]; exact (i_add rfl (show (1 : Int32).toInt = 1 from rfl) (by omega) (by omega)))) | skip
              exact ih v3 x96 Z I L w_I bd_Z q_I cp_Z   (by refine ⟨by omega, li1, li2, li3, ?_⟩; first | exact Or.inr ⟨by omega, v3.toNatClampNeg, by omega, by omega, by omega⟩ | (rcases li4 with ⟨a1, a2⟩ | ⟨a1, a2⟩; (refine Or.inl ⟨by omega, fun e he => ?_⟩; by_cases e9 : e = v3.toNatClampNeg; (subst e9; omega); exact a2 e (by omega)); exact Or.inr ⟨by omega, a2⟩))  (by omega)
        · skip
          first | (have t97 : ¬ (((I uB v3.toNatClampNeg).toInt / (100)) ≤ (I uQ v1.toNatClampNeg).toInt) := (not_congr (i_le (i_div rfl (show (100 : Int32).toInt = 100 from rfl) (by omega) (by omega)) rfl)).mp c82) | (have t97 : ¬ (((I uB v3.toNatClampNeg) / (100 : Int32)).toInt ≤ (I uQ v1.toNatClampNeg).toInt) := (not_congr (i_le rfl rfl)).mp c82) | skip
          unfold f_X12_findClimb_b90
          intro x98 ex98
          have rx98 := i_rng x98
          first | (have tx98 : x98.toInt = v3.toInt + (1) := by (rw [ex98]; exact (i_add rfl (show (1 : Int32).toInt = 1 from rfl) (by omega) (by omega)))) | skip
          exact ih v2 x98 Z I L w_I bd_Z q_I cp_Z   (by refine ⟨by omega, li1, li2, li3, ?_⟩; first | exact Or.inr ⟨by omega, v3.toNatClampNeg, by omega, by omega, by omega⟩ | (rcases li4 with ⟨a1, a2⟩ | ⟨a1, a2⟩; (refine Or.inl ⟨by omega, fun e he => ?_⟩; by_cases e9 : e = v3.toNatClampNeg; (subst e9; omega); exact a2 e (by omega)); exact Or.inr ⟨by omega, a2⟩))  (by omega)
set_option maxHeartbeats 4000000 in
set_option maxRecDepth 100000 in
theorem s9_X12_findClimb {B : Nat × Nat} {T : Nat} {Z : jZ} {I : jI} {L : jL} (w_I : WD Z I) (bd_Z : BUD B Z T) (v0 : Nat) (v1 : Int32) (kv0 : jk Z v0 12) (uC : Nat) (huC : jr Z v0 37 = some uC) (uE : Nat) (huE : jr Z v0 38 = some uE) (uB : Nat) (huB : jr Z v0 40 = some uB) (uK : Nat) (huK : jr Z v0 9 = some uK) (uR : Nat) (huR : jr Z v0 44 = some uR) (uL : Nat) (huL : jr Z v0 11 = some uL) (uV : Nat) (huV : jr Z v0 13 = some uV) (uQ : Nat) (huQ : jr Z v0 10 = some uQ) (p0 : 0 ≤ v1.toInt ∧ v1.toInt ≤ 5) (p1 : 1 ≤ (I v0 0).toInt) {Q : Int32 → jZ → jI → jL → Prop} (hQ : ∀ (r : Int32) (Z' : jZ) (I' : jI) (L' : jL), WD Z' I' → BUD B Z' T → FR Ws_X12_findClimb Z I Z' I' → CP Z Z' → ((r.toInt = 0 ∨ (r.toInt = 1 ∧ CRP (I' uR) (I' v0 43).toInt ((I' v0 0).toInt - 1))) ∧ (r.toInt = 1 ↔ FCv B v0 Z I (I v0 0).toInt (I v0 39).toInt (I uL v1.toNatClampNeg) (I uV v1.toNatClampNeg) v1 (I uK v1.toNatClampNeg).toInt (I uQ v1.toNatClampNeg).toInt)) → Q r Z' I' L') : f_X12_findClimb B v0 v1 Z I L Q := by
  unfold f_X12_findClimb
  have q_I : FR Ws_X12_findClimb Z I Z I := FR.rf
  have cp_Z : CP Z Z := CP.rf
  have rv1 := i_rng v1
  have t99 : 0 ≤ (I v0 0).toInt ∧ (I v0 0).toInt ≤ 24 := w_I.fld 12 0 kv0 (by decide)
  have t100 : 0 ≤ (I v0 43).toInt ∧ (I v0 43).toInt ≤ 24 := w_I.fld 12 43 kv0 (by decide)
  have luC : jlen Z uC = 75 := by obtain ⟨b9, e9, -, l9⟩ := sh_f w_I.1 kv0 (j := 37) (k := 14) (m := 75) rfl; cases huC.symm.trans e9; exact l9
  have kuC : jk Z uC 14 := by obtain ⟨b9, e9, k9, -⟩ := sh_f w_I.1 kv0 (j := 37) (k := 14) (m := 75) rfl; cases huC.symm.trans e9; exact k9
  have luE : jlen Z uE = 75 := by obtain ⟨b9, e9, -, l9⟩ := sh_f w_I.1 kv0 (j := 38) (k := 14) (m := 75) rfl; cases huE.symm.trans e9; exact l9
  have kuE : jk Z uE 14 := by obtain ⟨b9, e9, k9, -⟩ := sh_f w_I.1 kv0 (j := 38) (k := 14) (m := 75) rfl; cases huE.symm.trans e9; exact k9
  have luB : jlen Z uB = 25000 := by obtain ⟨b9, e9, -, l9⟩ := sh_f w_I.1 kv0 (j := 40) (k := 14) (m := 25000) rfl; cases huB.symm.trans e9; exact l9
  have kuB : jk Z uB 14 := by obtain ⟨b9, e9, k9, -⟩ := sh_f w_I.1 kv0 (j := 40) (k := 14) (m := 25000) rfl; cases huB.symm.trans e9; exact k9
  have luK : jlen Z uK = 6 := by obtain ⟨b9, e9, -, l9⟩ := sh_f w_I.1 kv0 (j := 9) (k := 14) (m := 6) rfl; cases huK.symm.trans e9; exact l9
  have kuK : jk Z uK 14 := by obtain ⟨b9, e9, k9, -⟩ := sh_f w_I.1 kv0 (j := 9) (k := 14) (m := 6) rfl; cases huK.symm.trans e9; exact k9
  have luR : jlen Z uR = 24 := by obtain ⟨b9, e9, -, l9⟩ := sh_f w_I.1 kv0 (j := 44) (k := 14) (m := 24) rfl; cases huR.symm.trans e9; exact l9
  have kuR : jk Z uR 14 := by obtain ⟨b9, e9, k9, -⟩ := sh_f w_I.1 kv0 (j := 44) (k := 14) (m := 24) rfl; cases huR.symm.trans e9; exact k9
  have luL : jlen Z uL = 6 := by obtain ⟨b9, e9, -, l9⟩ := sh_f w_I.1 kv0 (j := 11) (k := 14) (m := 6) rfl; cases huL.symm.trans e9; exact l9
  have kuL : jk Z uL 14 := by obtain ⟨b9, e9, k9, -⟩ := sh_f w_I.1 kv0 (j := 11) (k := 14) (m := 6) rfl; cases huL.symm.trans e9; exact k9
  have luV : jlen Z uV = 6 := by obtain ⟨b9, e9, -, l9⟩ := sh_f w_I.1 kv0 (j := 13) (k := 14) (m := 6) rfl; cases huV.symm.trans e9; exact l9
  have kuV : jk Z uV 14 := by obtain ⟨b9, e9, k9, -⟩ := sh_f w_I.1 kv0 (j := 13) (k := 14) (m := 6) rfl; cases huV.symm.trans e9; exact k9
  have luQ : jlen Z uQ = 6 := by obtain ⟨b9, e9, -, l9⟩ := sh_f w_I.1 kv0 (j := 10) (k := 14) (m := 6) rfl; cases huQ.symm.trans e9; exact l9
  have kuQ : jk Z uQ 14 := by obtain ⟨b9, e9, k9, -⟩ := sh_f w_I.1 kv0 (j := 10) (k := 14) (m := 6) rfl; cases huQ.symm.trans e9; exact k9
  refine s9_X12_layMoves w_I bd_Z v0 v1 kv0 uC huC uE huE uL huL uV huV (by omega) (fun  Z104 I102 L103 w_I102 bd_Z104 f_I102 c_Z104 p101 => ?_)
  have q_I102 : FR Ws_X12_findClimb Z I Z104 I102 := q_I.trans w_I.1 w_I.2.1 (f_I102.mono (by decide))
  have cp_Z104 : CP Z Z104 := cp_Z.trans q_I.1 c_Z104
  have x_Z104 := f_I102.1
  have k105 := (f_I102.1 _ _ kv0).1
  have k106 := (f_I102.1 _ _ kuC).1
  have l107 := (f_I102.1 _ _ kuC).2.trans luC
  have k108 := (f_I102.1 _ _ kv0).1
  have e109 := (f_I102.2.1 v0 12 37 kv0 (by decide) (by decide)).trans huC
  have k110 := (f_I102.1 _ _ kuE).1
  have l111 := (f_I102.1 _ _ kuE).2.trans luE
  have k112 := (f_I102.1 _ _ kv0).1
  have e113 := (f_I102.2.1 v0 12 38 kv0 (by decide) (by decide)).trans huE
  have k114 := (f_I102.1 _ _ kuB).1
  have l115 := (f_I102.1 _ _ kuB).2.trans luB
  have k116 := (f_I102.1 _ _ kv0).1
  have e117 := (f_I102.2.1 v0 12 40 kv0 (by decide) (by decide)).trans huB
  have k118 := (f_I102.1 _ _ kuK).1
  have l119 := (f_I102.1 _ _ kuK).2.trans luK
  have k120 := (f_I102.1 _ _ kv0).1
  have e121 := (f_I102.2.1 v0 12 9 kv0 (by decide) (by decide)).trans huK
  have k122 := (f_I102.1 _ _ kuR).1
  have l123 := (f_I102.1 _ _ kuR).2.trans luR
  have k124 := (f_I102.1 _ _ kv0).1
  have e125 := (f_I102.2.1 v0 12 44 kv0 (by decide) (by decide)).trans huR
  have k126 := (f_I102.1 _ _ kuL).1
  have l127 := (f_I102.1 _ _ kuL).2.trans luL
  have k128 := (f_I102.1 _ _ kv0).1
  have e129 := (f_I102.2.1 v0 12 11 kv0 (by decide) (by decide)).trans huL
  have k130 := (f_I102.1 _ _ kuV).1
  have l131 := (f_I102.1 _ _ kuV).2.trans luV
  have k132 := (f_I102.1 _ _ kv0).1
  have e133 := (f_I102.2.1 v0 12 13 kv0 (by decide) (by decide)).trans huV
  have k134 := (f_I102.1 _ _ kuQ).1
  have l135 := (f_I102.1 _ _ kuQ).2.trans luQ
  have k136 := (f_I102.1 _ _ kv0).1
  have e137 := (f_I102.2.1 v0 12 10 kv0 (by decide) (by decide)).trans huQ
  have ao_I102_uB : I102 uB = I uB := f_I102.2.2.2 v0 12 40 uB kv0 huB (by rw [kuB.2]; rfl) rfl (by decide)
  have ao_I102_uR : I102 uR = I uR := f_I102.2.2.2 v0 12 44 uR kv0 huR (by rw [kuR.2]; rfl) rfl (by decide)
  have u138 : (I102 v0 0).toInt = (I v0 0).toInt := by rw [f_I102.2.2.1 v0 12 0 kv0 (by decide) (by decide)]
  have u139 : (I102 v0 43).toInt = (I v0 43).toInt := by rw [f_I102.2.2.1 v0 12 43 kv0 (by decide) (by decide)]
  intro b140 eb140
  obtain rfl : uK = b140 := Option.some.inj (e121.symm.trans eb140)
  have o141 : vp_in v1 6 := vi_of rfl (by omega) (by omega)
  refine ⟨o141, ?_⟩
  have t142 : 0 ≤ (I102 uK v1.toNatClampNeg).toInt ∧ (I102 uK v1.toNatClampNeg).toInt ≤ 120 := w_I102.arr 12 9 k120 e121 k118 rfl rfl _
  refine s9_X12_findByEffort w_I102 v0 (I102 uK v1.toNatClampNeg) k105 uC e109 uE e113 uB e117 (p101).1 (by omega) (fun  I144 L145 w_I144 f_I144 p143 => ?_)
  have q_I144 : FR Ws_X12_findClimb Z I Z104 I144 := q_I102.trans w_I.1 w_I.2.1 (f_I144.mono (by decide))
  have ao_I144_uR : I144 uR = I uR := (f_I144.2.2.2 v0 12 44 uR k124 e125 (by rw [k122.2]; rfl) rfl (by decide)).trans ao_I102_uR
  have u146 : (I144 uK (v1.toNatClampNeg)).toInt = (I102 uK (v1.toNatClampNeg)).toInt := by rw [f_I144.2.2.2 v0 12 9 uK k120 e121 (by rw [k118.2]; rfl) rfl (by decide)]
  have u147 : (I144 v0 0).toInt = (I102 v0 0).toInt := by rw [f_I144.2.2.1 v0 12 0 k105 (by decide) (by decide)]
  have u148 : (I144 v0 43).toInt = (I102 v0 43).toInt := by rw [f_I144.2.2.1 v0 12 43 k105 (by decide) (by decide)]
  have t149 : (-1 : Int32).toInt = -1 := rfl
  have t150 : (0 : Int32).toInt = 0 := rfl
  exact ⟨(121 - (0 : Int32).toInt).toNat + 1, l9_X12_findClimb_L19 w_I v0 v1 kv0 uC huC uE huE uB huB uK huK uR huR uL huL uV huV uQ huQ p0 p1   hQ   _ (-1 : Int32) (0 : Int32) Z104 I144 L145 w_I144 bd_Z104 q_I144 cp_Z104   (by have ec : I144 uC = I102 uC := f_I144.2.2.2 v0 12 37 uC k105 e109 (by rw [k106.2]; rfl) rfl (by decide); have ee : I144 uE = I102 uE := f_I144.2.2.2 v0 12 38 uE k105 e113 (by rw [k110.2]; rfl) rfl (by decide); have u121K : (I102 uK v1.toNatClampNeg).toInt = (I uK v1.toNatClampNeg).toInt := (by rw [f_I102.2.2.2 v0 12 9 uK kv0 huK (by rw [kuK.2]; rfl) rfl (by decide)]); have pa9 := p101; have pb9 := p143; rw [u138] at pa9; rw [u138, u121K] at pb9; rw [ec, ee]; exact ⟨by omega, pa9.1, pb9.1, ⟨pa9.2, pa9.1, pb9.1, pb9.2⟩, Or.inl ⟨by omega, fun e he => absurd he (by omega)⟩⟩)  (by omega)⟩
