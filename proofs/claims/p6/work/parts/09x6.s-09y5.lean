section

set_option maxHeartbeats 4000000 in
set_option maxRecDepth 100000 in
theorem l9_X12_layMoves_L12 {B : Nat × Nat} {T : Nat} {Z0 : jZ} {I0 : jI} {Q : jZ → jI → jL → Prop} (w0 : WD Z0 I0) (v0 : Nat) (v1 : Int32) (kv0 : jk Z0 v0 12) (uC : Nat) (huC : jr Z0 v0 37 = some uC) (uE : Nat) (huE : jr Z0 v0 38 = some uE) (uL : Nat) (huL : jr Z0 v0 11 = some uL) (uV : Nat) (huV : jr Z0 v0 13 = some uV) (p0 : 0 ≤ v1.toInt ∧ v1.toInt ≤ 5) (v2 : Int32) (hQ : ∀  (Z' : jZ) (I' : jI) (L' : jL), WD Z' I' → BUD B Z' T → FR Ws_X12_layMoves Z0 I0 Z' I' → CP Z0 Z' → (MVB (3 * ((I' v0 0).toInt + 1)) (I' v0 0).toInt (I' uC) (I' uE) ∧ LMV B v0 Z0 I0 (I0 v0 0).toInt (I0 v0 39).toInt (I0 uL v1.toNatClampNeg) (I0 uV v1.toNatClampNeg) v1 (3 * ((I0 v0 0).toInt + 1)) (I' uC) (I' uE)) → Q Z' I' L') {K2 : Nat → Int32 → Int32 → jZ → jI → jL → Prop} {N2 : Int} (hK2 : ∀ (v2 : Int32) (Z : jZ) (I : jI) (L : jL), WD Z I → BUD B Z T → FR Ws_X12_layMoves Z0 I0 Z I → CP Z0 Z →   ((-1 ≤ v2.toInt ∧ v2.toInt ≤ (I0 v0 0).toInt ∧ (I0 v0 0).toInt ≤ 24) ∧ (I v0 0).toInt = (I0 v0 0).toInt ∧ MVB (3 * (v2.toInt + 1)) (I0 v0 0).toInt (I uC) (I uE) ∧ LMV B v0 Z0 I0 (I0 v0 0).toInt (I0 v0 39).toInt (I0 uL v1.toNatClampNeg) (I0 uV v1.toNatClampNeg) v1 (3 * (v2.toInt + 1)) (I uC) (I uE)) → 24 - v2.toInt < N2 → K2 v0 v1 v2 Z I L) : ∀ (n : Nat) (v3 : Int32) (Z : jZ) (I : jI) (L : jL), WD Z I → BUD B Z T → FR Ws_X12_layMoves Z0 I0 Z I → CP Z0 Z →   ((-1 ≤ v2.toInt ∧ v2.toInt < (I0 v0 0).toInt ∧ (I0 v0 0).toInt ≤ 24 ∧ 1 ≤ v3.toInt ∧ v3.toInt ≤ 4) ∧ (I v0 0).toInt = (I0 v0 0).toInt ∧ MVB (3 * (v2.toInt + 1) + v3.toInt - 1) (I0 v0 0).toInt (I uC) (I uE) ∧ LMV B v0 Z0 I0 (I0 v0 0).toInt (I0 v0 39).toInt (I0 uL v1.toNatClampNeg) (I0 uV v1.toNatClampNeg) v1 (3 * (v2.toInt + 1) + v3.toInt - 1) (I uC) (I uE)) → 24 - v2.toInt ≤ N2 → 4 - v3.toInt < (n : Int) → f_X12_layMoves_L12 B K2 Q n v0 v1 v2 v3 Z I L := by
  intro n
  induction n with
  | zero =>
    intro v3 Z I L w_I bd_Z q_I cp_Z   li hm2 me
    exfalso
    omega
  | succ n ih =>
    intro v3 Z I L w_I bd_Z q_I cp_Z   li hm2 me
    unfold f_X12_layMoves_L12
    have rv3 := i_rng v3
    have rv2 := i_rng v2
    have rv1 := i_rng v1
    obtain ⟨li0, li1, li2, li3⟩ := li
    have kv0_0 := kv0
    have kv0 := (q_I.1 _ _ kv0).1
    have t1 : 0 ≤ (I v0 0).toInt ∧ (I v0 0).toInt ≤ 24 := w_I.fld 12 0 kv0 (by decide)
    have t2 : -1 ≤ (I v0 39).toInt ∧ (I v0 39).toInt ≤ 23 := w_I.fld 12 39 kv0 (by decide)
    have huC_1 : jr Z v0 37 = some uC := (q_I.2.1 v0 12 37 kv0_0 (by decide) (by decide)).trans huC
    have luC : jlen Z uC = 75 := by obtain ⟨b9, e9, -, l9⟩ := sh_f w_I.1 kv0 (j := 37) (k := 14) (m := 75) rfl; cases huC_1.symm.trans e9; exact l9
    have kuC : jk Z uC 14 := by obtain ⟨b9, e9, k9, -⟩ := sh_f w_I.1 kv0 (j := 37) (k := 14) (m := 75) rfl; cases huC_1.symm.trans e9; exact k9
    have huE_1 : jr Z v0 38 = some uE := (q_I.2.1 v0 12 38 kv0_0 (by decide) (by decide)).trans huE
    have luE : jlen Z uE = 75 := by obtain ⟨b9, e9, -, l9⟩ := sh_f w_I.1 kv0 (j := 38) (k := 14) (m := 75) rfl; cases huE_1.symm.trans e9; exact l9
    have kuE : jk Z uE 14 := by obtain ⟨b9, e9, k9, -⟩ := sh_f w_I.1 kv0 (j := 38) (k := 14) (m := 75) rfl; cases huE_1.symm.trans e9; exact k9
    have huL_1 : jr Z v0 11 = some uL := (q_I.2.1 v0 12 11 kv0_0 (by decide) (by decide)).trans huL
    have luL : jlen Z uL = 6 := by obtain ⟨b9, e9, -, l9⟩ := sh_f w_I.1 kv0 (j := 11) (k := 14) (m := 6) rfl; cases huL_1.symm.trans e9; exact l9
    have kuL : jk Z uL 14 := by obtain ⟨b9, e9, k9, -⟩ := sh_f w_I.1 kv0 (j := 11) (k := 14) (m := 6) rfl; cases huL_1.symm.trans e9; exact k9
    have huV_1 : jr Z v0 13 = some uV := (q_I.2.1 v0 12 13 kv0_0 (by decide) (by decide)).trans huV
    have luV : jlen Z uV = 6 := by obtain ⟨b9, e9, -, l9⟩ := sh_f w_I.1 kv0 (j := 13) (k := 14) (m := 6) rfl; cases huV_1.symm.trans e9; exact l9
    have kuV : jk Z uV 14 := by obtain ⟨b9, e9, k9, -⟩ := sh_f w_I.1 kv0 (j := 13) (k := 14) (m := 6) rfl; cases huV_1.symm.trans e9; exact k9
    have xq_I := q_I.1
    refine ⟨fun c3 => ?_, fun c3 => ?_⟩
    · skip
      first | (have t4 : (3) < v3.toInt := (i_lt (show (3 : Int32).toInt = 3 from rfl) rfl).mp c3) | (have t4 : (3 : Int32).toInt < v3.toInt := (i_lt rfl rfl).mp c3) | skip
      intro x5 ex5
      have rx5 := i_rng x5
      first | (have tx5 : x5.toInt = v2.toInt + (1) := by (rw [ex5]; exact (i_add rfl (show (1 : Int32).toInt = 1 from rfl) (by omega) (by omega)))) | skip
      exact hK2 x5 Z I L w_I bd_Z q_I cp_Z   (by refine ⟨?_, ?_, ?_, ?_⟩; (omega); (omega); (first | exact MVB.zero (by omega) | (rw [show 3 * (x5.toInt + 1) = 3 * (v2.toInt + 1) + v3.toInt - 1 by omega]; exact li2)); (first | exact LMV.zero (by omega) | (rw [show 3 * (x5.toInt + 1) = 3 * (v2.toInt + 1) + v3.toInt - 1 by omega]; exact li3)))  (by omega)
    · skip
      first | (have t6 : ¬ ((3) < v3.toInt) := (not_congr (i_lt (show (3 : Int32).toInt = 3 from rfl) rfl)).mp c3) | (have t6 : ¬ ((3 : Int32).toInt < v3.toInt) := (not_congr (i_lt rfl rfl)).mp c3) | skip
      intro x7 ex7
      have rx7 := i_rng x7
      first | (have tx7 : x7.toInt = ((((3) * (v2.toInt + (1))) + v3.toInt) - (1)) := by (rw [ex7]; exact (i_sub (i_add (i_mul (show (3 : Int32).toInt = 3 from rfl) (i_add rfl (show (1 : Int32).toInt = 1 from rfl) (by omega) (by omega)) (by omega) (by omega)) rfl (by omega) (by omega)) (show (1 : Int32).toInt = 1 from rfl) (by omega) (by omega)))) | (have tx7 : x7.toInt = ((((3 : Int32) * (v2 + (1 : Int32))) + v3) - (1 : Int32)).toInt := by rw [ex7])
      intro x8 ex8
      have rx8 := i_rng x8
      first | (have tx8 : x8.toInt = (v2.toInt + v3.toInt) := by (rw [ex8]; exact (i_add rfl rfl (by omega) (by omega)))) | (have tx8 : x8.toInt = (v2 + v3).toInt := by rw [ex8])
      intro b9 eb9
      obtain rfl : uC = b9 := Option.some.inj (huC_1.symm.trans eb9)
      have o10 : vp_in x7 75 := vi_of rfl (by omega) (by omega)
      refine ⟨o10, ?_⟩
      intro I11 eI11
      have t12 : (1000000000 : Int32).toInt = 1000000000 := rfl
      have w_I11 : WD Z I11 := by rw [eI11]; exact WD_putA w_I 12 37 kv0 huC_1 kuC rfl rfl (by decide) trivial
      have ao_I11_uC : ∀ q, q ≠ x7.toNatClampNeg → I11 uC q = I uC q := fun q hq => by rw [eI11]; exact jpI_off hq
      first | (have u13 : (I11 uC (x7.toNatClampNeg)).toInt = (1000000000) := by (rw [eI11, show jpI I uC x7.toNatClampNeg (1000000000 : Int32) uC x7.toNatClampNeg = (1000000000 : Int32) from jpI_at] <;> exact (show (1000000000 : Int32).toInt = 1000000000 from rfl))) | skip
      have f_I11 : FR [(12, 37)] Z I Z I11 := by rw [eI11]; exact FR_upA w_I.2.1 kv0 huC_1 kuC rfl rfl List.mem_cons_self
      have q_I11 : FR Ws_X12_layMoves Z0 I0 Z I11 := q_I.trans w0.1 w0.2.1 (f_I11.mono (by decide))
      have ao_I11_uE : I11 uE = I uE := f_I11.2.2.2 v0 12 38 uE kv0 huE_1 (by rw [kuE.2]; rfl) rfl (by decide)
      have u14 : (I11 v0 0).toInt = (I v0 0).toInt := by rw [f_I11.2.2.1 v0 12 0 kv0 (by decide) (by decide)]
      have u15 : (I11 v0 39).toInt = (I v0 39).toInt := by rw [f_I11.2.2.1 v0 12 39 kv0 (by decide) (by decide)]
      have el9 : I11 uL = I0 uL := q_I11.2.2.2 v0 12 11 uL kv0_0 huL (by obtain ⟨b9, e9, k9, -⟩ := sh_f w0.1 kv0_0 (j := 11) (k := 14) (m := 6) rfl; cases huL.symm.trans e9; rw [k9.2]; rfl) rfl (by decide)
      have ev9 : I11 uV = I0 uV := q_I11.2.2.2 v0 12 13 uV kv0_0 huV (by obtain ⟨b9, e9, k9, -⟩ := sh_f w0.1 kv0_0 (j := 13) (k := 14) (m := 6) rfl; cases huV.symm.trans e9; rw [k9.2]; rfl) rfl (by decide)
      have es9 : (I11 v0 39).toInt = (I0 v0 39).toInt := by rw [q_I11.2.2.1 v0 12 39 kv0_0 (by decide) (by decide)]
      have el8 : (I11 uL v1.toNatClampNeg).toInt = (I0 uL v1.toNatClampNeg).toInt := by rw [el9]
      intro b16 eb16
      obtain rfl : uL = b16 := Option.some.inj (huL_1.symm.trans eb16)
      have o17 : vp_in v1 6 := vi_of rfl (by omega) (by omega)
      refine ⟨o17, ?_⟩
      have t18 : 0 ≤ (I11 uL v1.toNatClampNeg).toInt ∧ (I11 uL v1.toNatClampNeg).toInt ≤ 3 := w_I11.arr 12 11 kv0 huL_1 kuL rfl rfl _
      refine ⟨fun c19 => ?_, fun c19 => ?_⟩
      · skip
        first | (have t20 : (I11 uL v1.toNatClampNeg).toInt < v3.toInt := (i_lt rfl rfl).mp c19) | (have t20 : (I11 uL v1.toNatClampNeg).toInt < v3.toInt := (i_lt rfl rfl).mp c19) | skip
        unfold f_X12_layMoves_b122
        intro x21 ex21
        have rx21 := i_rng x21
        first | (have tx21 : x21.toInt = v3.toInt + (1) := by (rw [ex21]; exact (i_add rfl (show (1 : Int32).toInt = 1 from rfl) (by omega) (by omega)))) | skip
        exact ih x21 Z I11 L w_I11 bd_Z q_I11 cp_Z   (by refine ⟨?_, ?_, ?_, ?_⟩; (omega); (omega); (first | (rw [show 3 * (v2.toInt + 1) + (1 : Int32).toInt - 1 = 3 * (v2.toInt + 1) by omega]; exact li2) | (have hn := i_nat (x := x7) rfl (by omega); exact MVB.step li2 x7.toNatClampNeg (by omega) ao_I11_uC (fun q _ => congrFun ao_I11_uE q) (by omega) (by omega))); (first | (rw [show 3 * (v2.toInt + 1) + (1 : Int32).toInt - 1 = 3 * (v2.toInt + 1) by omega]; exact li3) | (have hn := i_nat (x := x7) rfl (by omega); refine LMV.step li3 x7.toNatClampNeg (by omega) ao_I11_uC (fun q _ => congrFun ao_I11_uE q) ?_ (by omega); first | exact Or.inl ⟨by omega, by omega⟩ | exact Or.inr ⟨by omega, v2, _, rm, by omega, by omega, hmn, Or.inl ⟨(hhv.resolve_right (fun h => by omega)).2, by omega⟩⟩ | exact Or.inr ⟨by omega, v2, _, rm, by omega, by omega, hmn, Or.inr ⟨(hhv.resolve_left (fun h => by omega)).2, by rw [show I11 uC x7.toNatClampNeg = rc from (i_eq rfl rfl).mpr (by rw [hrc]; omega)]; exact hcv, by rw [show I11 uE x7.toNatClampNeg = re from (i_eq rfl rfl).mpr (by rw [hre]; omega)]; exact hev⟩⟩))) (by omega) (by omega)
      · skip
        first | (have t22 : ¬ ((I11 uL v1.toNatClampNeg).toInt < v3.toInt) := (not_congr (i_lt rfl rfl)).mp c19) | (have t22 : ¬ ((I11 uL v1.toNatClampNeg).toInt < v3.toInt) := (not_congr (i_lt rfl rfl)).mp c19) | skip
        have t24 : 0 ≤ (I11 v0 0).toInt ∧ (I11 v0 0).toInt ≤ 24 := w_I11.fld 12 0 kv0 (by decide)
        refine ⟨fun c25 => ?_, fun c25 => ?_⟩
        · skip
          first | (have t26 : (I11 v0 0).toInt ≤ x8.toInt := (i_le rfl rfl).mp c25) | (have t26 : (I11 v0 0).toInt ≤ x8.toInt := (i_le rfl rfl).mp c25) | skip
          unfold f_X12_layMoves_b122
          intro x27 ex27
          have rx27 := i_rng x27
          first | (have tx27 : x27.toInt = v3.toInt + (1) := by (rw [ex27]; exact (i_add rfl (show (1 : Int32).toInt = 1 from rfl) (by omega) (by omega)))) | skip
          exact ih x27 Z I11 L w_I11 bd_Z q_I11 cp_Z   (by refine ⟨?_, ?_, ?_, ?_⟩; (omega); (omega); (first | (rw [show 3 * (v2.toInt + 1) + (1 : Int32).toInt - 1 = 3 * (v2.toInt + 1) by omega]; exact li2) | (have hn := i_nat (x := x7) rfl (by omega); exact MVB.step li2 x7.toNatClampNeg (by omega) ao_I11_uC (fun q _ => congrFun ao_I11_uE q) (by omega) (by omega))); (first | (rw [show 3 * (v2.toInt + 1) + (1 : Int32).toInt - 1 = 3 * (v2.toInt + 1) by omega]; exact li3) | (have hn := i_nat (x := x7) rfl (by omega); refine LMV.step li3 x7.toNatClampNeg (by omega) ao_I11_uC (fun q _ => congrFun ao_I11_uE q) ?_ (by omega); first | exact Or.inl ⟨by omega, by omega⟩ | exact Or.inr ⟨by omega, v2, _, rm, by omega, by omega, hmn, Or.inl ⟨(hhv.resolve_right (fun h => by omega)).2, by omega⟩⟩ | exact Or.inr ⟨by omega, v2, _, rm, by omega, by omega, hmn, Or.inr ⟨(hhv.resolve_left (fun h => by omega)).2, by rw [show I11 uC x7.toNatClampNeg = rc from (i_eq rfl rfl).mpr (by rw [hrc]; omega)]; exact hcv, by rw [show I11 uE x7.toNatClampNeg = re from (i_eq rfl rfl).mpr (by rw [hre]; omega)]; exact hev⟩⟩))) (by omega) (by omega)
        · skip
          first | (have t28 : ¬ ((I11 v0 0).toInt ≤ x8.toInt) := (not_congr (i_le rfl rfl)).mp c25) | (have t28 : ¬ ((I11 v0 0).toInt ≤ x8.toInt) := (not_congr (i_le rfl rfl)).mp c25) | skip
          have t30 : -1 ≤ (I11 v0 39).toInt ∧ (I11 v0 39).toInt ≤ 23 := w_I11.fld 12 39 kv0 (by decide)
          refine ⟨fun c31 => ?_, fun c31 => ?_⟩
          · skip
            first | (have t32 : x8.toInt = (I11 v0 39).toInt := (i_eq rfl rfl).mp c31) | (have t32 : x8.toInt = (I11 v0 39).toInt := (i_eq rfl rfl).mp c31) | skip
            unfold f_X12_layMoves_b122
            intro x33 ex33
            have rx33 := i_rng x33
            first | (have tx33 : x33.toInt = v3.toInt + (1) := by (rw [ex33]; exact (i_add rfl (show (1 : Int32).toInt = 1 from rfl) (by omega) (by omega)))) | skip
            exact ih x33 Z I11 L w_I11 bd_Z q_I11 cp_Z   (by refine ⟨?_, ?_, ?_, ?_⟩; (omega); (omega); (first | (rw [show 3 * (v2.toInt + 1) + (1 : Int32).toInt - 1 = 3 * (v2.toInt + 1) by omega]; exact li2) | (have hn := i_nat (x := x7) rfl (by omega); exact MVB.step li2 x7.toNatClampNeg (by omega) ao_I11_uC (fun q _ => congrFun ao_I11_uE q) (by omega) (by omega))); (first | (rw [show 3 * (v2.toInt + 1) + (1 : Int32).toInt - 1 = 3 * (v2.toInt + 1) by omega]; exact li3) | (have hn := i_nat (x := x7) rfl (by omega); refine LMV.step li3 x7.toNatClampNeg (by omega) ao_I11_uC (fun q _ => congrFun ao_I11_uE q) ?_ (by omega); first | exact Or.inl ⟨by omega, by omega⟩ | exact Or.inr ⟨by omega, v2, _, rm, by omega, by omega, hmn, Or.inl ⟨(hhv.resolve_right (fun h => by omega)).2, by omega⟩⟩ | exact Or.inr ⟨by omega, v2, _, rm, by omega, by omega, hmn, Or.inr ⟨(hhv.resolve_left (fun h => by omega)).2, by rw [show I11 uC x7.toNatClampNeg = rc from (i_eq rfl rfl).mpr (by rw [hrc]; omega)]; exact hcv, by rw [show I11 uE x7.toNatClampNeg = re from (i_eq rfl rfl).mpr (by rw [hre]; omega)]; exact hev⟩⟩))) (by omega) (by omega)
          · skip
            first | (have t34 : ¬ (x8.toInt = (I11 v0 39).toInt) := (not_congr (i_eq rfl rfl)).mp c31) | (have t34 : ¬ (x8.toInt = (I11 v0 39).toInt) := (not_congr (i_eq rfl rfl)).mp c31) | skip
            intro b35 eb35
            obtain rfl : uV = b35 := Option.some.inj (huV_1.symm.trans eb35)
            have o36 : vp_in v1 6 := vi_of rfl (by omega) (by omega)
            refine ⟨o36, ?_⟩
            refine s9_X12_mainOf w_I11 v0 x8 kv0  (by omega) (fun r37 p38 => ?_)
            have rr37 := i_rng r37
            obtain ⟨rm, hrm, hmn⟩ : ∃ rm : Int32, rm = r37 ∧ MN0 v0 Z0 I0 x8 rm := ⟨_, rfl, MN0.cls (L := jL0) (L' := jL0) (A0_FR w0 kv0_0 q_I11 (by decide) (fun e => e.elim)) (p38).2⟩
            refine s9_X12_has w_I11 (I11 uV v1.toNatClampNeg) r37    (fun r39 p40 => ?_)
            have rr39 := i_rng r39
            have hhv : (r39.toInt = 1 ∧ hvb (I0 uV v1.toNatClampNeg) rm) ∨ (r39.toInt = 0 ∧ ¬ hvb (I0 uV v1.toNatClampNeg) rm) := by rw [hrm, ← ev9]; exact p40
            refine ⟨fun c41 => ?_, fun c41 => ?_⟩
            · skip
              first | (have t42 : r39.toInt = (0) := (i_eq rfl (show (0 : Int32).toInt = 0 from rfl)).mp c41) | (have t42 : r39.toInt = (0 : Int32).toInt := (i_eq rfl rfl).mp c41) | skip
              intro b43 eb43
              obtain rfl : uC = b43 := Option.some.inj (huC_1.symm.trans eb43)
              have ag9 : A0 False v0 Z0 I0 jL0 Z I11 jL0 := A0_FR w0 kv0_0 q_I11 (by decide) (fun e => e.elim)
              refine s9_X12_costOf w_I11 bd_Z v0 v1 v2 x8 kv0  (by omega) (fun r44 Z48 I46 L47 w_I46 bd_Z48 f_I46 c_Z48 p45 => ?_)
              have q_I46 : FR Ws_X12_layMoves Z0 I0 Z48 I46 := q_I11.trans w0.1 w0.2.1 (f_I46.mono (by decide))
              have cp_Z48 : CP Z0 Z48 := cp_Z.trans q_I11.1 c_Z48
              have x_Z48 := f_I46.1
              have k49 := (f_I46.1 _ _ kv0).1
              have k50 := (f_I46.1 _ _ kuC).1
              have l51 := (f_I46.1 _ _ kuC).2.trans luC
              have k52 := (f_I46.1 _ _ kv0).1
              have e53 := (f_I46.2.1 v0 12 37 kv0 (by decide) (by decide)).trans huC_1
              have k54 := (f_I46.1 _ _ kuE).1
              have l55 := (f_I46.1 _ _ kuE).2.trans luE
              have k56 := (f_I46.1 _ _ kv0).1
              have e57 := (f_I46.2.1 v0 12 38 kv0 (by decide) (by decide)).trans huE_1
              have k58 := (f_I46.1 _ _ kuL).1
              have l59 := (f_I46.1 _ _ kuL).2.trans luL
              have k60 := (f_I46.1 _ _ kv0).1
              have e61 := (f_I46.2.1 v0 12 11 kv0 (by decide) (by decide)).trans huL_1
              have k62 := (f_I46.1 _ _ kuV).1
              have l63 := (f_I46.1 _ _ kuV).2.trans luV
              have k64 := (f_I46.1 _ _ kv0).1
              have e65 := (f_I46.2.1 v0 12 13 kv0 (by decide) (by decide)).trans huV_1
              have ao_I46_uC : ∀ q, q ≠ x7.toNatClampNeg → I46 uC q = I uC q := fun q hq => by rw [f_I46.2.2.2 v0 12 37 uC kv0 huC_1 (by rw [kuC.2]; rfl) rfl (by decide)]; exact ao_I11_uC q hq
              have ao_I46_uE : I46 uE = I uE := (f_I46.2.2.2 v0 12 38 uE kv0 huE_1 (by rw [kuE.2]; rfl) rfl (by decide)).trans ao_I11_uE
              have u66 : (I46 uC (x7.toNatClampNeg)).toInt = (I11 uC (x7.toNatClampNeg)).toInt := by rw [f_I46.2.2.2 v0 12 37 uC kv0 huC_1 (by rw [kuC.2]; rfl) rfl (by decide)]
              have u67 : (I46 v0 0).toInt = (I11 v0 0).toInt := by rw [f_I46.2.2.1 v0 12 0 kv0 (by decide) (by decide)]
              have u68 : (I46 v0 39).toInt = (I11 v0 39).toInt := by rw [f_I46.2.2.1 v0 12 39 kv0 (by decide) (by decide)]
              have rr44 := i_rng r44
              obtain ⟨rc, hrc, hcv⟩ : ∃ rc : Int32, rc = r44 ∧ CV0 B v0 Z0 I0 v1 v2 x8 rc := ⟨_, rfl, CV0.cls ag9 (p45).2⟩
              have o69 : vp_in x7 75 := vi_of rfl (by omega) (by omega)
              refine ⟨o69, ?_⟩
              intro I70 eI70
              have w_I70 : WD Z48 I70 := by rw [eI70]; exact WD_putA w_I46 12 37 k52 e53 k50 rfl rfl (by decide) trivial
              have ao_I70_uC : ∀ q, q ≠ x7.toNatClampNeg → I70 uC q = I uC q := fun q hq => by rw [eI70, jpI_off hq]; exact ao_I46_uC q hq
              first | (have u71 : (I70 uC (x7.toNatClampNeg)).toInt = r44.toInt := by (rw [eI70, show jpI I46 uC x7.toNatClampNeg r44 uC x7.toNatClampNeg = r44 from jpI_at] <;> exact rfl)) | skip
              have f_I70 : FR [(12, 37)] Z48 I46 Z48 I70 := by rw [eI70]; exact FR_upA w_I46.2.1 k52 e53 k50 rfl rfl List.mem_cons_self
              have q_I70 : FR Ws_X12_layMoves Z0 I0 Z48 I70 := q_I46.trans w0.1 w0.2.1 (f_I70.mono (by decide))
              have ao_I70_uE : I70 uE = I uE := (f_I70.2.2.2 v0 12 38 uE k56 e57 (by rw [k54.2]; rfl) rfl (by decide)).trans ao_I46_uE
              have u72 : (I70 v0 0).toInt = (I46 v0 0).toInt := by rw [f_I70.2.2.1 v0 12 0 k49 (by decide) (by decide)]
              have u73 : (I70 v0 39).toInt = (I46 v0 39).toInt := by rw [f_I70.2.2.1 v0 12 39 k49 (by decide) (by decide)]
              intro b74 eb74
              obtain rfl : uE = b74 := Option.some.inj (e57.symm.trans eb74)
              have ag8 : A0 False v0 Z0 I0 jL0 Z48 I70 jL0 := A0_FR w0 kv0_0 q_I70 (by decide) (fun e => e.elim)
              refine s9_X12_effortOf w_I70 v0 v1 v2 x8 k49  (by omega) (fun r75 p76 => ?_)
              have rr75 := i_rng r75
              obtain ⟨re, hre, hev⟩ : ∃ re : Int32, re = r75 ∧ EV0 v0 Z0 I0 v1 v2 x8 re := ⟨_, rfl, EV0.cls ag8 (p76).2⟩
              have o77 : vp_in x7 75 := vi_of rfl (by omega) (by omega)
              refine ⟨o77, ?_⟩
              intro I78 eI78
              have w_I78 : WD Z48 I78 := by rw [eI78]; exact WD_putA w_I70 12 38 k56 e57 k54 rfl rfl (by decide) trivial
              have ao_I78_uE : ∀ q, q ≠ x7.toNatClampNeg → I78 uE q = I uE q := fun q hq => by rw [eI78, jpI_off hq, ao_I70_uE]
              first | (have u79 : (I78 uE (x7.toNatClampNeg)).toInt = r75.toInt := by (rw [eI78, show jpI I70 uE x7.toNatClampNeg r75 uE x7.toNatClampNeg = r75 from jpI_at] <;> exact rfl)) | skip
              have f_I78 : FR [(12, 38)] Z48 I70 Z48 I78 := by rw [eI78]; exact FR_upA w_I70.2.1 k56 e57 k54 rfl rfl List.mem_cons_self
              have q_I78 : FR Ws_X12_layMoves Z0 I0 Z48 I78 := q_I70.trans w0.1 w0.2.1 (f_I78.mono (by decide))
              have ao_I78_uC : ∀ q, q ≠ x7.toNatClampNeg → I78 uC q = I uC q := fun q hq => by rw [f_I78.2.2.2 v0 12 37 uC k52 e53 (by rw [k50.2]; rfl) rfl (by decide)]; exact ao_I70_uC q hq
              have u80 : (I78 uC (x7.toNatClampNeg)).toInt = (I70 uC (x7.toNatClampNeg)).toInt := by rw [f_I78.2.2.2 v0 12 37 uC k52 e53 (by rw [k50.2]; rfl) rfl (by decide)]
              have u81 : (I78 v0 0).toInt = (I70 v0 0).toInt := by rw [f_I78.2.2.1 v0 12 0 k49 (by decide) (by decide)]
              have u82 : (I78 v0 39).toInt = (I70 v0 39).toInt := by rw [f_I78.2.2.1 v0 12 39 k49 (by decide) (by decide)]
              unfold f_X12_layMoves_b122
              intro x83 ex83
              have rx83 := i_rng x83
              first | (have tx83 : x83.toInt = v3.toInt + (1) := by (rw [ex83]; exact (i_add rfl (show (1 : Int32).toInt = 1 from rfl) (by omega) (by omega)))) | skip
              exact ih x83 Z48 I78 L47 w_I78 bd_Z48 q_I78 cp_Z48   (by refine ⟨?_, ?_, ?_, ?_⟩; (omega); (omega); (first | (rw [show 3 * (v2.toInt + 1) + (1 : Int32).toInt - 1 = 3 * (v2.toInt + 1) by omega]; exact li2) | (have hn := i_nat (x := x7) rfl (by omega); exact MVB.step li2 x7.toNatClampNeg (by omega) ao_I78_uC ao_I78_uE (by omega) (by omega))); (first | (rw [show 3 * (v2.toInt + 1) + (1 : Int32).toInt - 1 = 3 * (v2.toInt + 1) by omega]; exact li3) | (have hn := i_nat (x := x7) rfl (by omega); refine LMV.step li3 x7.toNatClampNeg (by omega) ao_I78_uC ao_I78_uE ?_ (by omega); first | exact Or.inl ⟨by omega, by omega⟩ | exact Or.inr ⟨by omega, v2, _, rm, by omega, by omega, hmn, Or.inl ⟨(hhv.resolve_right (fun h => by omega)).2, by omega⟩⟩ | exact Or.inr ⟨by omega, v2, _, rm, by omega, by omega, hmn, Or.inr ⟨(hhv.resolve_left (fun h => by omega)).2, by rw [show I78 uC x7.toNatClampNeg = rc from (i_eq rfl rfl).mpr (by rw [hrc]; omega)]; exact hcv, by rw [show I78 uE x7.toNatClampNeg = re from (i_eq rfl rfl).mpr (by rw [hre]; omega)]; exact hev⟩⟩))) (by omega) (by omega)
            · skip
              first | (have t84 : ¬ (r39.toInt = (0)) := (not_congr (i_eq rfl (show (0 : Int32).toInt = 0 from rfl))).mp c41) | (have t84 : ¬ (r39.toInt = (0 : Int32).toInt) := (not_congr (i_eq rfl rfl)).mp c41) | skip
              unfold f_X12_layMoves_b122
              intro x85 ex85
              have rx85 := i_rng x85
              first | (have tx85 : x85.toInt = v3.toInt + (1) := by (rw [ex85]; exact (i_add rfl (show (1 : Int32).toInt = 1 from rfl) (by omega) (by omega)))) | skip
              exact ih x85 Z I11 L w_I11 bd_Z q_I11 cp_Z   (by refine ⟨?_, ?_, ?_, ?_⟩; (omega); (omega); (first | (rw [show 3 * (v2.toInt + 1) + (1 : Int32).toInt - 1 = 3 * (v2.toInt + 1) by omega]; exact li2) | (have hn := i_nat (x := x7) rfl (by omega); exact MVB.step li2 x7.toNatClampNeg (by omega) ao_I11_uC (fun q _ => congrFun ao_I11_uE q) (by omega) (by omega))); (first | (rw [show 3 * (v2.toInt + 1) + (1 : Int32).toInt - 1 = 3 * (v2.toInt + 1) by omega]; exact li3) | (have hn := i_nat (x := x7) rfl (by omega); refine LMV.step li3 x7.toNatClampNeg (by omega) ao_I11_uC (fun q _ => congrFun ao_I11_uE q) ?_ (by omega); first | exact Or.inl ⟨by omega, by omega⟩ | exact Or.inr ⟨by omega, v2, _, rm, by omega, by omega, hmn, Or.inl ⟨(hhv.resolve_right (fun h => by omega)).2, by omega⟩⟩ | exact Or.inr ⟨by omega, v2, _, rm, by omega, by omega, hmn, Or.inr ⟨(hhv.resolve_left (fun h => by omega)).2, by rw [show I11 uC x7.toNatClampNeg = rc from (i_eq rfl rfl).mpr (by rw [hrc]; omega)]; exact hcv, by rw [show I11 uE x7.toNatClampNeg = re from (i_eq rfl rfl).mpr (by rw [hre]; omega)]; exact hev⟩⟩))) (by omega) (by omega)
set_option maxHeartbeats 4000000 in
set_option maxRecDepth 100000 in
theorem l9_X12_layMoves_L2 {B : Nat × Nat} {T : Nat} {Z0 : jZ} {I0 : jI} {Q : jZ → jI → jL → Prop} (w0 : WD Z0 I0) (v0 : Nat) (v1 : Int32) (kv0 : jk Z0 v0 12) (uC : Nat) (huC : jr Z0 v0 37 = some uC) (uE : Nat) (huE : jr Z0 v0 38 = some uE) (uL : Nat) (huL : jr Z0 v0 11 = some uL) (uV : Nat) (huV : jr Z0 v0 13 = some uV) (p0 : 0 ≤ v1.toInt ∧ v1.toInt ≤ 5) (hQ : ∀  (Z' : jZ) (I' : jI) (L' : jL), WD Z' I' → BUD B Z' T → FR Ws_X12_layMoves Z0 I0 Z' I' → CP Z0 Z' → (MVB (3 * ((I' v0 0).toInt + 1)) (I' v0 0).toInt (I' uC) (I' uE) ∧ LMV B v0 Z0 I0 (I0 v0 0).toInt (I0 v0 39).toInt (I0 uL v1.toNatClampNeg) (I0 uV v1.toNatClampNeg) v1 (3 * ((I0 v0 0).toInt + 1)) (I' uC) (I' uE)) → Q Z' I' L') : ∀ (n : Nat) (v2 : Int32) (Z : jZ) (I : jI) (L : jL), WD Z I → BUD B Z T → FR Ws_X12_layMoves Z0 I0 Z I → CP Z0 Z →   ((-1 ≤ v2.toInt ∧ v2.toInt ≤ (I0 v0 0).toInt ∧ (I0 v0 0).toInt ≤ 24) ∧ (I v0 0).toInt = (I0 v0 0).toInt ∧ MVB (3 * (v2.toInt + 1)) (I0 v0 0).toInt (I uC) (I uE) ∧ LMV B v0 Z0 I0 (I0 v0 0).toInt (I0 v0 39).toInt (I0 uL v1.toNatClampNeg) (I0 uV v1.toNatClampNeg) v1 (3 * (v2.toInt + 1)) (I uC) (I uE)) → 24 - v2.toInt < (n : Int) → f_X12_layMoves_L2 B  Q n v0 v1 v2 Z I L := by
  intro n
  induction n with
  | zero =>
    intro v2 Z I L w_I bd_Z q_I cp_Z   li  me
    exfalso
    omega
  | succ n ih =>
    intro v2 Z I L w_I bd_Z q_I cp_Z   li  me
    unfold f_X12_layMoves_L2
    have rv2 := i_rng v2
    have rv1 := i_rng v1
    obtain ⟨li0, li1, li2, li3⟩ := li
    have kv0_0 := kv0
    have kv0 := (q_I.1 _ _ kv0).1
    have t86 : 0 ≤ (I v0 0).toInt ∧ (I v0 0).toInt ≤ 24 := w_I.fld 12 0 kv0 (by decide)
    have t87 : -1 ≤ (I v0 39).toInt ∧ (I v0 39).toInt ≤ 23 := w_I.fld 12 39 kv0 (by decide)
    have huC_1 : jr Z v0 37 = some uC := (q_I.2.1 v0 12 37 kv0_0 (by decide) (by decide)).trans huC
    have luC : jlen Z uC = 75 := by obtain ⟨b9, e9, -, l9⟩ := sh_f w_I.1 kv0 (j := 37) (k := 14) (m := 75) rfl; cases huC_1.symm.trans e9; exact l9
    have kuC : jk Z uC 14 := by obtain ⟨b9, e9, k9, -⟩ := sh_f w_I.1 kv0 (j := 37) (k := 14) (m := 75) rfl; cases huC_1.symm.trans e9; exact k9
    have huE_1 : jr Z v0 38 = some uE := (q_I.2.1 v0 12 38 kv0_0 (by decide) (by decide)).trans huE
    have luE : jlen Z uE = 75 := by obtain ⟨b9, e9, -, l9⟩ := sh_f w_I.1 kv0 (j := 38) (k := 14) (m := 75) rfl; cases huE_1.symm.trans e9; exact l9
    have kuE : jk Z uE 14 := by obtain ⟨b9, e9, k9, -⟩ := sh_f w_I.1 kv0 (j := 38) (k := 14) (m := 75) rfl; cases huE_1.symm.trans e9; exact k9
    have huL_1 : jr Z v0 11 = some uL := (q_I.2.1 v0 12 11 kv0_0 (by decide) (by decide)).trans huL
    have luL : jlen Z uL = 6 := by obtain ⟨b9, e9, -, l9⟩ := sh_f w_I.1 kv0 (j := 11) (k := 14) (m := 6) rfl; cases huL_1.symm.trans e9; exact l9
    have kuL : jk Z uL 14 := by obtain ⟨b9, e9, k9, -⟩ := sh_f w_I.1 kv0 (j := 11) (k := 14) (m := 6) rfl; cases huL_1.symm.trans e9; exact k9
    have huV_1 : jr Z v0 13 = some uV := (q_I.2.1 v0 12 13 kv0_0 (by decide) (by decide)).trans huV
    have luV : jlen Z uV = 6 := by obtain ⟨b9, e9, -, l9⟩ := sh_f w_I.1 kv0 (j := 13) (k := 14) (m := 6) rfl; cases huV_1.symm.trans e9; exact l9
    have kuV : jk Z uV 14 := by obtain ⟨b9, e9, k9, -⟩ := sh_f w_I.1 kv0 (j := 13) (k := 14) (m := 6) rfl; cases huV_1.symm.trans e9; exact k9
    have xq_I := q_I.1
    have t89 : 0 ≤ (I v0 0).toInt ∧ (I v0 0).toInt ≤ 24 := w_I.fld 12 0 kv0 (by decide)
    refine ⟨fun c90 => ?_, fun c90 => ?_⟩
    · skip
      first | (have t91 : (I v0 0).toInt ≤ v2.toInt := (i_le rfl rfl).mp c90) | (have t91 : (I v0 0).toInt ≤ v2.toInt := (i_le rfl rfl).mp c90) | skip
      exact hQ  Z I L w_I bd_Z q_I cp_Z (by have e9 : v2.toInt = (I0 v0 0).toInt := (by omega); rw [e9] at li2 li3; rw [li1]; exact ⟨li2, li3⟩)
    · skip
      first | (have t92 : ¬ ((I v0 0).toInt ≤ v2.toInt) := (not_congr (i_le rfl rfl)).mp c90) | (have t92 : ¬ ((I v0 0).toInt ≤ v2.toInt) := (not_congr (i_le rfl rfl)).mp c90) | skip
      have t93 : (1 : Int32).toInt = 1 := rfl
      exact ⟨(4 - (1 : Int32).toInt).toNat + 1, l9_X12_layMoves_L12 w0 v0 v1 kv0_0 uC huC uE huE uL huL uV huV p0 v2  hQ ih  _ (1 : Int32) Z I L w_I bd_Z q_I cp_Z   (by refine ⟨?_, ?_, ?_, ?_⟩; (omega); (omega); (first | (rw [show 3 * (v2.toInt + 1) + (1 : Int32).toInt - 1 = 3 * (v2.toInt + 1) by omega]; exact li2) | (have hn := i_nat (x := 0) rfl (by omega); exact MVB.step li2 0 (by omega) (fun _ _ => rfl) (fun _ _ => rfl) (by omega) (by omega))); (first | (rw [show 3 * (v2.toInt + 1) + (1 : Int32).toInt - 1 = 3 * (v2.toInt + 1) by omega]; exact li3) | (have hn := i_nat (x := 0) rfl (by omega); refine LMV.step li3 0 (by omega) (fun _ _ => rfl) (fun _ _ => rfl) ?_ (by omega); first | exact Or.inl ⟨by omega, by omega⟩ | exact Or.inr ⟨by omega, v2, _, rm, by omega, by omega, hmn, Or.inl ⟨(hhv.resolve_right (fun h => by omega)).2, by omega⟩⟩ | exact Or.inr ⟨by omega, v2, _, rm, by omega, by omega, hmn, Or.inr ⟨(hhv.resolve_left (fun h => by omega)).2, by rw [show I uC 0 = rc from (i_eq rfl rfl).mpr (by rw [hrc]; omega)]; exact hcv, by rw [show I uE 0 = re from (i_eq rfl rfl).mpr (by rw [hre]; omega)]; exact hev⟩⟩))) (by omega) (by omega)⟩
set_option maxHeartbeats 4000000 in
set_option maxRecDepth 100000 in
theorem s9_X12_layMoves {B : Nat × Nat} {T : Nat} {Z : jZ} {I : jI} {L : jL} (w_I : WD Z I) (bd_Z : BUD B Z T) (v0 : Nat) (v1 : Int32) (kv0 : jk Z v0 12) (uC : Nat) (huC : jr Z v0 37 = some uC) (uE : Nat) (huE : jr Z v0 38 = some uE) (uL : Nat) (huL : jr Z v0 11 = some uL) (uV : Nat) (huV : jr Z v0 13 = some uV) (p0 : 0 ≤ v1.toInt ∧ v1.toInt ≤ 5) {Q : jZ → jI → jL → Prop} (hQ : ∀  (Z' : jZ) (I' : jI) (L' : jL), WD Z' I' → BUD B Z' T → FR Ws_X12_layMoves Z I Z' I' → CP Z Z' → (MVB (3 * ((I' v0 0).toInt + 1)) (I' v0 0).toInt (I' uC) (I' uE) ∧ LMV B v0 Z I (I v0 0).toInt (I v0 39).toInt (I uL v1.toNatClampNeg) (I uV v1.toNatClampNeg) v1 (3 * ((I v0 0).toInt + 1)) (I' uC) (I' uE)) → Q Z' I' L') : f_X12_layMoves B v0 v1 Z I L Q := by
  unfold f_X12_layMoves
  have q_I : FR Ws_X12_layMoves Z I Z I := FR.rf
  have cp_Z : CP Z Z := CP.rf
  have rv1 := i_rng v1
  have t94 : 0 ≤ (I v0 0).toInt ∧ (I v0 0).toInt ≤ 24 := w_I.fld 12 0 kv0 (by decide)
  have t95 : -1 ≤ (I v0 39).toInt ∧ (I v0 39).toInt ≤ 23 := w_I.fld 12 39 kv0 (by decide)
  have luC : jlen Z uC = 75 := by obtain ⟨b9, e9, -, l9⟩ := sh_f w_I.1 kv0 (j := 37) (k := 14) (m := 75) rfl; cases huC.symm.trans e9; exact l9
  have kuC : jk Z uC 14 := by obtain ⟨b9, e9, k9, -⟩ := sh_f w_I.1 kv0 (j := 37) (k := 14) (m := 75) rfl; cases huC.symm.trans e9; exact k9
  have luE : jlen Z uE = 75 := by obtain ⟨b9, e9, -, l9⟩ := sh_f w_I.1 kv0 (j := 38) (k := 14) (m := 75) rfl; cases huE.symm.trans e9; exact l9
  have kuE : jk Z uE 14 := by obtain ⟨b9, e9, k9, -⟩ := sh_f w_I.1 kv0 (j := 38) (k := 14) (m := 75) rfl; cases huE.symm.trans e9; exact k9
  have luL : jlen Z uL = 6 := by obtain ⟨b9, e9, -, l9⟩ := sh_f w_I.1 kv0 (j := 11) (k := 14) (m := 6) rfl; cases huL.symm.trans e9; exact l9
  have kuL : jk Z uL 14 := by obtain ⟨b9, e9, k9, -⟩ := sh_f w_I.1 kv0 (j := 11) (k := 14) (m := 6) rfl; cases huL.symm.trans e9; exact k9
  have luV : jlen Z uV = 6 := by obtain ⟨b9, e9, -, l9⟩ := sh_f w_I.1 kv0 (j := 13) (k := 14) (m := 6) rfl; cases huV.symm.trans e9; exact l9
  have kuV : jk Z uV 14 := by obtain ⟨b9, e9, k9, -⟩ := sh_f w_I.1 kv0 (j := 13) (k := 14) (m := 6) rfl; cases huV.symm.trans e9; exact k9
  have t96 : (-1 : Int32).toInt = -1 := rfl
  exact ⟨(24 - (-1 : Int32).toInt).toNat + 1, l9_X12_layMoves_L2 w_I v0 v1 kv0 uC huC uE huE uL huL uV huV p0   hQ   _ (-1 : Int32) Z I L w_I bd_Z q_I cp_Z   (by refine ⟨?_, ?_, ?_, ?_⟩; (omega); (omega); (first | exact MVB.zero (by omega) | (rw [show 3 * ((-1 : Int32).toInt + 1) = 3 * (v2.toInt + 1) + v3.toInt - 1 by omega]; exact li2)); (first | exact LMV.zero (by omega) | (rw [show 3 * ((-1 : Int32).toInt + 1) = 3 * (v2.toInt + 1) + v3.toInt - 1 by omega]; exact li3)))  (by omega)⟩

set_option maxHeartbeats 4000000 in
set_option maxRecDepth 100000 in
theorem l9_X12_findByEffort_L45 {Z : jZ} {I0 : jI} {Q : jI → jL → Prop} (w0 : WD Z I0) (v0 : Nat) (v1 : Int32) (kv0 : jk Z v0 12) (uC : Nat) (huC : jr Z v0 37 = some uC) (uE : Nat) (huE : jr Z v0 38 = some uE) (uB : Nat) (huB : jr Z v0 40 = some uB) (p0 : MVB (3 * ((I0 v0 0).toInt + 1)) (I0 v0 0).toInt (I0 uC) (I0 uE)) (p1 : 0 ≤ v1.toInt ∧ v1.toInt ≤ 999) (v2 : Int32) (v3 : Int32) (hQ : ∀  (I' : jI) (L' : jL), WD Z I' → FR Ws_X12_findByEffort Z I0 Z I' → (DPR (I0 v0 0).toInt v1.toInt (I0 uC) (I0 uE) (I' uB) (-1) 0 ∧ DMR (I0 v0 0).toInt v1.toInt (I0 uC) (I0 uE) (I' uB) (-1) 0) → Q I' L') {K7 : Nat → Int32 → Int32 → jI → jL → Prop} {N7 : Int} (hK7 : ∀ (v2 : Int32) (I : jI) (L : jL), WD Z I → FR Ws_X12_findByEffort Z I0 Z I →   ((-2 ≤ v2.toInt ∧ (I0 v0 0).toInt ≤ 24 ∧ v2.toInt < (I0 v0 0).toInt) ∧ DPR (I0 v0 0).toInt v1.toInt (I0 uC) (I0 uE) (I uB) (v2.toInt + 1) 0 ∧ DMR (I0 v0 0).toInt v1.toInt (I0 uC) (I0 uE) (I uB) (v2.toInt + 1) 0) → v2.toInt + 2 < N7 → K7 v0 v1 v2 I L) {K14 : Nat → Int32 → Int32 → Int32 → jI → jL → Prop} {N14 : Int} (hK14 : ∀ (v3 : Int32) (I : jI) (L : jL), WD Z I → FR Ws_X12_findByEffort Z I0 Z I →   ((-1 ≤ v2.toInt ∧ (I0 v0 0).toInt ≤ 24 ∧ v2.toInt < (I0 v0 0).toInt ∧ 0 ≤ v3.toInt ∧ v3.toInt ≤ v1.toInt + 1) ∧ DPR (I0 v0 0).toInt v1.toInt (I0 uC) (I0 uE) (I uB) (v2.toInt + 1) v3.toInt ∧ DMR (I0 v0 0).toInt v1.toInt (I0 uC) (I0 uE) (I uB) (v2.toInt + 1) v3.toInt) → v2.toInt + 2 ≤ N7 → 1000 - v3.toInt < N14 → K14 v0 v1 v2 v3 I L) : ∀ (n : Nat) (v4 : Int32) (v5 : Int32) (I : jI) (L : jL), WD Z I → FR Ws_X12_findByEffort Z I0 Z I →   ((-1 ≤ v2.toInt ∧ (I0 v0 0).toInt ≤ 24 ∧ v2.toInt < (I0 v0 0).toInt ∧ 0 ≤ v3.toInt ∧ v3.toInt ≤ v1.toInt ∧ 1 ≤ v5.toInt ∧ v5.toInt ≤ 4) ∧ DPR (I0 v0 0).toInt v1.toInt (I0 uC) (I0 uE) (I uB) (v2.toInt + 1) v3.toInt ∧ DP1 (I0 v0 0).toInt (I0 uC) (I0 uE) (I uB) (v2.toInt + 1).toNat v3.toNatClampNeg v4.toInt ∧ DMR (I0 v0 0).toInt v1.toInt (I0 uC) (I0 uE) (I uB) (v2.toInt + 1) v3.toInt ∧ DM1 (I0 v0 0).toInt (I0 uC) (I0 uE) (I uB) (v2.toInt + 1).toNat v3.toNatClampNeg v5.toInt v4.toInt) → v2.toInt + 2 ≤ N7 → 1000 - v3.toInt ≤ N14 → 4 - v5.toInt < (n : Int) → f_X12_findByEffort_L45 K7 K14 Z Q n v0 v1 v2 v3 v4 v5 I L := by
  intro n
  induction n with
  | zero =>
    intro v4 v5 I L w_I q_I   li hm7 hm14 me
    exfalso
    omega
  | succ n ih =>
    intro v4 v5 I L w_I q_I   li hm7 hm14 me
    unfold f_X12_findByEffort_L45
    have rv4 := i_rng v4
    have rv5 := i_rng v5
    have rv2 := i_rng v2
    have rv3 := i_rng v3
    have rv1 := i_rng v1
    obtain ⟨li0, li1, li2, li3, li4⟩ := li
    have t1 : 0 ≤ (I v0 0).toInt ∧ (I v0 0).toInt ≤ 24 := w_I.fld 12 0 kv0 (by decide)
    have luC : jlen Z uC = 75 := by obtain ⟨b9, e9, -, l9⟩ := sh_f w_I.1 kv0 (j := 37) (k := 14) (m := 75) rfl; cases huC.symm.trans e9; exact l9
    have kuC : jk Z uC 14 := by obtain ⟨b9, e9, k9, -⟩ := sh_f w_I.1 kv0 (j := 37) (k := 14) (m := 75) rfl; cases huC.symm.trans e9; exact k9
    have luE : jlen Z uE = 75 := by obtain ⟨b9, e9, -, l9⟩ := sh_f w_I.1 kv0 (j := 38) (k := 14) (m := 75) rfl; cases huE.symm.trans e9; exact l9
    have kuE : jk Z uE 14 := by obtain ⟨b9, e9, k9, -⟩ := sh_f w_I.1 kv0 (j := 38) (k := 14) (m := 75) rfl; cases huE.symm.trans e9; exact k9
    have luB : jlen Z uB = 25000 := by obtain ⟨b9, e9, -, l9⟩ := sh_f w_I.1 kv0 (j := 40) (k := 14) (m := 25000) rfl; cases huB.symm.trans e9; exact l9
    have kuB : jk Z uB 14 := by obtain ⟨b9, e9, k9, -⟩ := sh_f w_I.1 kv0 (j := 40) (k := 14) (m := 25000) rfl; cases huB.symm.trans e9; exact k9
    have e0 : (I v0 0).toInt = (I0 v0 0).toInt := by rw [q_I.2.2.1 v0 12 0 kv0 (by decide) (by decide)]
    have ec : I uC = I0 uC := q_I.2.2.2 v0 12 37 uC kv0 huC (by rw [kuC.2]; rfl) rfl (by decide)
    have ee : I uE = I0 uE := q_I.2.2.2 v0 12 38 uE kv0 huE (by rw [kuE.2]; rfl) rfl (by decide)
    have mv : MVB (3 * ((I0 v0 0).toInt + 1)) (I0 v0 0).toInt (I uC) (I uE) := by rw [ec, ee]; exact p0
    refine ⟨fun c2 => ?_, fun c2 => ?_⟩
    · skip
      first | (have t3 : (3) < v5.toInt := (i_lt (show (3 : Int32).toInt = 3 from rfl) rfl).mp c2) | (have t3 : (3 : Int32).toInt < v5.toInt := (i_lt rfl rfl).mp c2) | skip
      intro b4 eb4
      obtain rfl : uB = b4 := Option.some.inj (huB.symm.trans eb4)
      have o5 : vp_in (((1000 : Int32) * (v2 + (1 : Int32))) + v3) 25000 := vi_of (i_add (i_mul (show (1000 : Int32).toInt = 1000 from rfl) (i_add rfl (show (1 : Int32).toInt = 1 from rfl) (by omega) (by omega)) (by omega) (by omega)) rfl (by omega) (by omega)) (by omega) (by omega)
      refine ⟨o5, ?_⟩
      intro I6 eI6
      have w_I6 : WD Z I6 := by rw [eI6]; exact WD_putA w_I 12 40 kv0 huB kuB rfl rfl (by decide) trivial
      have ao_I6_uB : ∀ q, q ≠ (((1000 : Int32) * (v2 + (1 : Int32))) + v3).toNatClampNeg → I6 uB q = I uB q := fun q hq => by rw [eI6]; exact jpI_off hq
      first | (have u7 : (I6 uB ((((1000 : Int32) * (v2 + (1 : Int32))) + v3).toNatClampNeg)).toInt = v4.toInt := by (rw [eI6, show jpI I uB (((1000 : Int32) * (v2 + (1 : Int32))) + v3).toNatClampNeg v4 uB (((1000 : Int32) * (v2 + (1 : Int32))) + v3).toNatClampNeg = v4 from jpI_at] <;> exact rfl)) | skip
      have f_I6 : FR [(12, 40)] Z I Z I6 := by rw [eI6]; exact FR_upA w_I.2.1 kv0 huB kuB rfl rfl List.mem_cons_self
      have q_I6 : FR Ws_X12_findByEffort Z I0 Z I6 := q_I.trans w0.1 w0.2.1 (f_I6.mono (by decide))
      have u8 : (I6 v0 0).toInt = (I v0 0).toInt := by rw [f_I6.2.2.1 v0 12 0 kv0 (by decide) (by decide)]
      intro x9 ex9
      have rx9 := i_rng x9
      first | (have tx9 : x9.toInt = v3.toInt + (1) := by (rw [ex9]; exact (i_add rfl (show (1 : Int32).toInt = 1 from rfl) (by omega) (by omega)))) | skip
      exact hK14 x9 I6 L w_I6 q_I6   (by refine ⟨?_, ?_, ?_⟩; (omega); (first | exact li1 | (have h3 := i_nat (x := v3) rfl (by omega); have h4 := i_nat (x := (((1000 : Int32) * (v2 + (1 : Int32))) + v3)) (i_add (i_mul (show (1000 : Int32).toInt = 1000 from rfl) (i_add rfl (show (1 : Int32).toInt = 1 from rfl) (by omega) (by omega)) (by omega) (by omega)) rfl (by omega) (by omega)) (by omega); exact DPR.step li1 li2 (by omega) (by omega) (by omega) (by omega) (by omega) ao_I6_uB (by assumption) (by omega))); (first | exact li2 | (have h3 := i_nat (x := v3) rfl (by omega); have h4 := i_nat (x := (((1000 : Int32) * (v2 + (1 : Int32))) + v3)) (i_add (i_mul (show (1000 : Int32).toInt = 1000 from rfl) (i_add rfl (show (1 : Int32).toInt = 1 from rfl) (by omega) (by omega)) (by omega) (by omega)) rfl (by omega) (by omega)) (by omega); have e5 : v5.toInt = 4 := (by omega); rw [e5] at li4; exact DMR.step li3 li4 (by omega) (by omega) (by omega) (by omega) ao_I6_uB (by assumption) (by omega) (by omega)))) (by omega) (by omega)
    · skip
      first | (have t10 : ¬ ((3) < v5.toInt) := (not_congr (i_lt (show (3 : Int32).toInt = 3 from rfl) rfl)).mp c2) | (have t10 : ¬ ((3 : Int32).toInt < v5.toInt) := (not_congr (i_lt rfl rfl)).mp c2) | skip
      intro x11 ex11
      have rx11 := i_rng x11
      first | (have tx11 : x11.toInt = ((((3) * (v2.toInt + (1))) + v5.toInt) - (1)) := by (rw [ex11]; exact (i_sub (i_add (i_mul (show (3 : Int32).toInt = 3 from rfl) (i_add rfl (show (1 : Int32).toInt = 1 from rfl) (by omega) (by omega)) (by omega) (by omega)) rfl (by omega) (by omega)) (show (1 : Int32).toInt = 1 from rfl) (by omega) (by omega)))) | (have tx11 : x11.toInt = ((((3 : Int32) * (v2 + (1 : Int32))) + v5) - (1 : Int32)).toInt := by rw [ex11])
      intro b12 eb12
      obtain rfl : uC = b12 := Option.some.inj (huC.symm.trans eb12)
      have hm := MVB.at mv (x := x11) rfl (by omega) (by omega)
      have o13 : vp_in x11 75 := vi_of rfl (by omega) (by omega)
      refine ⟨o13, ?_⟩
      refine ⟨fun c14 => ?_, fun c14 => ?_⟩
      · skip
        first | (have t15 : (I uC x11.toNatClampNeg).toInt = (1000000000) := (i_eq rfl (show (1000000000 : Int32).toInt = 1000000000 from rfl)).mp c14) | (have t15 : (I uC x11.toNatClampNeg).toInt = (1000000000 : Int32).toInt := (i_eq rfl rfl).mp c14) | skip
        unfold f_X12_findByEffort_b147
        intro x16 ex16
        have rx16 := i_rng x16
        first | (have tx16 : x16.toInt = v5.toInt + (1) := by (rw [ex16]; exact (i_add rfl (show (1 : Int32).toInt = 1 from rfl) (by omega) (by omega)))) | skip
        exact ih v4 x16 I L w_I q_I   (by refine ⟨?_, ?_, ?_, ?_, ?_⟩; (omega); (exact li1); (first | exact li2 | (have h3 := i_nat (x := v3) rfl (by omega); first | exact Or.inl (by omega) | exact Or.inr ⟨by omega, by omega, Or.inl ⟨by omega, by omega⟩⟩ | (rw [← ec, ← ee] at li2 ⊢; exact DP1.cand li2 (k := x11) (far := v5.toInt) (by omega) (by omega) (by omega) (by omega) (by omega) hsp (by omega) (by omega) (by omega) (by omega)))); (first | exact li3 | exact li2); (have h3 := i_nat (x := v3) rfl (by omega); first | exact DM1.init (fun h => by omega) | (have h6 := i_nat (x := x11) rfl (by omega); rw [← ec, ← ee] at li4 ⊢; refine DM1.more li4 (by omega) (by omega) (x11).toNatClampNeg (by omega) (fun i h1 h2 h4 h5 => ?_); first | (exfalso; omega) | (obtain rfl : i = ix := (by omega); omega)))) (by omega) (by omega) (by omega)
      · skip
        first | (have t17 : ¬ ((I uC x11.toNatClampNeg).toInt = (1000000000)) := (not_congr (i_eq rfl (show (1000000000 : Int32).toInt = 1000000000 from rfl))).mp c14) | (have t17 : ¬ ((I uC x11.toNatClampNeg).toInt = (1000000000 : Int32).toInt) := (not_congr (i_eq rfl rfl)).mp c14) | skip
        intro b18 eb18
        obtain rfl : uE = b18 := Option.some.inj (huE.symm.trans eb18)
        have o19 : vp_in x11 75 := vi_of rfl (by omega) (by omega)
        refine ⟨o19, ?_⟩
        refine ⟨fun c20 => ?_, fun c20 => ?_⟩
        · skip
          first | (have t21 : (I uE x11.toNatClampNeg).toInt ≤ v3.toInt := (i_le rfl rfl).mp c20) | (have t21 : (I uE x11.toNatClampNeg).toInt ≤ v3.toInt := (i_le rfl rfl).mp c20) | skip
          intro b22 eb22
          obtain rfl : uB = b22 := Option.some.inj (huB.symm.trans eb22)
          intro b23 eb23
          obtain rfl : uE = b23 := Option.some.inj (huE.symm.trans eb23)
          have o24 : vp_in x11 75 := vi_of rfl (by omega) (by omega)
          refine ⟨o24, ?_⟩
          have hd := DPR.at li1 (x := ((((1000 : Int32) * ((v2 + v5) + (1 : Int32))) + v3) - (I uE x11.toNatClampNeg))) (i_sub (i_add (i_mul (show (1000 : Int32).toInt = 1000 from rfl) (i_add (i_add rfl rfl (by omega) (by omega)) (show (1 : Int32).toInt = 1 from rfl) (by omega) (by omega)) (by omega) (by omega)) rfl (by omega) (by omega)) rfl (by omega) (by omega)) (v2.toInt + v5.toInt + 1) (v3.toInt - (I uE x11.toNatClampNeg).toInt) (by omega) (by omega) (by omega)
          have hsp : ((((1000 : Int32) * ((v2 + v5) + (1 : Int32))) + v3) - (I uE x11.toNatClampNeg)).toInt = ((((1000) * ((v2.toInt + v5.toInt) + (1))) + v3.toInt) - (I uE x11.toNatClampNeg).toInt) := (i_sub (i_add (i_mul (show (1000 : Int32).toInt = 1000 from rfl) (i_add (i_add rfl rfl (by omega) (by omega)) (show (1 : Int32).toInt = 1 from rfl) (by omega) (by omega)) (by omega) (by omega)) rfl (by omega) (by omega)) rfl (by omega) (by omega))
          obtain ⟨ix, hix1, hix2⟩ : ∃ ix : Nat, (ix : Int) = 1000 * (v2.toInt + v5.toInt + 1) + v3.toInt - (I uE x11.toNatClampNeg).toInt ∧ ix = (((((1000 : Int32) * ((v2 + v5) + (1 : Int32))) + v3) - (I uE x11.toNatClampNeg))).toNatClampNeg := ⟨_, by (have h9 := i_nat (x := ((((1000 : Int32) * ((v2 + v5) + (1 : Int32))) + v3) - (I uE x11.toNatClampNeg))) (i_sub (i_add (i_mul (show (1000 : Int32).toInt = 1000 from rfl) (i_add (i_add rfl rfl (by omega) (by omega)) (show (1 : Int32).toInt = 1 from rfl) (by omega) (by omega)) (by omega) (by omega)) rfl (by omega) (by omega)) rfl (by omega) (by omega)) (by omega); omega), rfl⟩
          have o25 : vp_in ((((1000 : Int32) * ((v2 + v5) + (1 : Int32))) + v3) - (I uE x11.toNatClampNeg)) 25000 := vi_of (i_sub (i_add (i_mul (show (1000 : Int32).toInt = 1000 from rfl) (i_add (i_add rfl rfl (by omega) (by omega)) (show (1 : Int32).toInt = 1 from rfl) (by omega) (by omega)) (by omega) (by omega)) rfl (by omega) (by omega)) rfl (by omega) (by omega)) (by omega) (by omega)
          refine ⟨o25, ?_⟩
          intro x26 ex26
          have rx26 := i_rng x26
          first | (have tx26 : x26.toInt = (I uB ((((1000 : Int32) * ((v2 + v5) + (1 : Int32))) + v3) - (I uE x11.toNatClampNeg)).toNatClampNeg).toInt := by (rw [ex26]; exact rfl)) | (have tx26 : x26.toInt = (I uB ((((1000 : Int32) * ((v2 + v5) + (1 : Int32))) + v3) - (I uE x11.toNatClampNeg)).toNatClampNeg).toInt := by rw [ex26])
          have hbx : (I uB ix).toInt = x26.toInt := by rw [hix2, ex26]
          refine ⟨fun c27 => ?_, fun c27 => ?_⟩
          · skip
            first | (have t28 : x26.toInt = (1000000000) := (i_eq rfl (show (1000000000 : Int32).toInt = 1000000000 from rfl)).mp c27) | (have t28 : x26.toInt = (1000000000 : Int32).toInt := (i_eq rfl rfl).mp c27) | skip
            unfold f_X12_findByEffort_b147
            intro x29 ex29
            have rx29 := i_rng x29
            first | (have tx29 : x29.toInt = v5.toInt + (1) := by (rw [ex29]; exact (i_add rfl (show (1 : Int32).toInt = 1 from rfl) (by omega) (by omega)))) | skip
            exact ih v4 x29 I L w_I q_I   (by refine ⟨?_, ?_, ?_, ?_, ?_⟩; (omega); (exact li1); (first | exact li2 | (have h3 := i_nat (x := v3) rfl (by omega); first | exact Or.inl (by omega) | exact Or.inr ⟨by omega, by omega, Or.inl ⟨by omega, by omega⟩⟩ | (rw [← ec, ← ee] at li2 ⊢; exact DP1.cand li2 (k := x11) (far := v5.toInt) (by omega) (by omega) (by omega) (by omega) (by omega) hsp (by omega) (by omega) (by omega) (by omega)))); (first | exact li3 | exact li2); (have h3 := i_nat (x := v3) rfl (by omega); first | exact DM1.init (fun h => by omega) | (have h6 := i_nat (x := x11) rfl (by omega); rw [← ec, ← ee] at li4 ⊢; refine DM1.more li4 (by omega) (by omega) (x11).toNatClampNeg (by omega) (fun i h1 h2 h4 h5 => ?_); first | (exfalso; omega) | (obtain rfl : i = ix := (by omega); omega)))) (by omega) (by omega) (by omega)
          · skip
            first | (have t30 : ¬ (x26.toInt = (1000000000)) := (not_congr (i_eq rfl (show (1000000000 : Int32).toInt = 1000000000 from rfl))).mp c27) | (have t30 : ¬ (x26.toInt = (1000000000 : Int32).toInt) := (not_congr (i_eq rfl rfl)).mp c27) | skip
            intro b31 eb31
            obtain rfl : uC = b31 := Option.some.inj (huC.symm.trans eb31)
            have o32 : vp_in x11 75 := vi_of rfl (by omega) (by omega)
            refine ⟨o32, ?_⟩
            intro x33 ex33
            have rx33 := i_rng x33
            first | (have tx33 : x33.toInt = (min v4.toInt ((x26.toInt + ((100) * (I uC x11.toNatClampNeg).toInt)) + (1))) := by (rw [ex33]; exact (i_min rfl (i_add (i_add rfl (i_mul (show (100 : Int32).toInt = 100 from rfl) rfl (by omega) (by omega)) (by omega) (by omega)) (show (1 : Int32).toInt = 1 from rfl) (by omega) (by omega))))) | (have tx33 : x33.toInt = (if ((x26 + ((100 : Int32) * (I uC x11.toNatClampNeg))) + (1 : Int32)) < v4 then ((x26 + ((100 : Int32) * (I uC x11.toNatClampNeg))) + (1 : Int32)) else v4).toInt := by rw [ex33])
            unfold f_X12_findByEffort_b147
            intro x34 ex34
            have rx34 := i_rng x34
            first | (have tx34 : x34.toInt = v5.toInt + (1) := by (rw [ex34]; exact (i_add rfl (show (1 : Int32).toInt = 1 from rfl) (by omega) (by omega)))) | skip
            exact ih x33 x34 I L w_I q_I   (by refine ⟨?_, ?_, ?_, ?_, ?_⟩; (omega); (exact li1); (first | exact li2 | (have h3 := i_nat (x := v3) rfl (by omega); first | exact Or.inl (by omega) | exact Or.inr ⟨by omega, by omega, Or.inl ⟨by omega, by omega⟩⟩ | (rw [← ec, ← ee] at li2 ⊢; exact DP1.cand li2 (k := x11) (far := v5.toInt) (by omega) (by omega) (by omega) (by omega) (by omega) hsp (by omega) (by omega) (by omega) (by omega)))); (first | exact li3 | exact li2); (have h3 := i_nat (x := v3) rfl (by omega); first | exact DM1.init (fun h => by omega) | (have h6 := i_nat (x := x11) rfl (by omega); rw [← ec, ← ee] at li4 ⊢; refine DM1.more li4 (by omega) (by omega) (x11).toNatClampNeg (by omega) (fun i h1 h2 h4 h5 => ?_); first | (exfalso; omega) | (obtain rfl : i = ix := (by omega); omega)))) (by omega) (by omega) (by omega)
        · skip
          first | (have t35 : ¬ ((I uE x11.toNatClampNeg).toInt ≤ v3.toInt) := (not_congr (i_le rfl rfl)).mp c20) | (have t35 : ¬ ((I uE x11.toNatClampNeg).toInt ≤ v3.toInt) := (not_congr (i_le rfl rfl)).mp c20) | skip
          unfold f_X12_findByEffort_b147
          intro x36 ex36
          have rx36 := i_rng x36
          first | (have tx36 : x36.toInt = v5.toInt + (1) := by (rw [ex36]; exact (i_add rfl (show (1 : Int32).toInt = 1 from rfl) (by omega) (by omega)))) | skip
          exact ih v4 x36 I L w_I q_I   (by refine ⟨?_, ?_, ?_, ?_, ?_⟩; (omega); (exact li1); (first | exact li2 | (have h3 := i_nat (x := v3) rfl (by omega); first | exact Or.inl (by omega) | exact Or.inr ⟨by omega, by omega, Or.inl ⟨by omega, by omega⟩⟩ | (rw [← ec, ← ee] at li2 ⊢; exact DP1.cand li2 (k := x11) (far := v5.toInt) (by omega) (by omega) (by omega) (by omega) (by omega) hsp (by omega) (by omega) (by omega) (by omega)))); (first | exact li3 | exact li2); (have h3 := i_nat (x := v3) rfl (by omega); first | exact DM1.init (fun h => by omega) | (have h6 := i_nat (x := x11) rfl (by omega); rw [← ec, ← ee] at li4 ⊢; refine DM1.more li4 (by omega) (by omega) (x11).toNatClampNeg (by omega) (fun i h1 h2 h4 h5 => ?_); first | (exfalso; omega) | (obtain rfl : i = ix := (by omega); omega)))) (by omega) (by omega) (by omega)
set_option maxHeartbeats 4000000 in
set_option maxRecDepth 100000 in
theorem l9_X12_findByEffort_L14 {Z : jZ} {I0 : jI} {Q : jI → jL → Prop} (w0 : WD Z I0) (v0 : Nat) (v1 : Int32) (kv0 : jk Z v0 12) (uC : Nat) (huC : jr Z v0 37 = some uC) (uE : Nat) (huE : jr Z v0 38 = some uE) (uB : Nat) (huB : jr Z v0 40 = some uB) (p0 : MVB (3 * ((I0 v0 0).toInt + 1)) (I0 v0 0).toInt (I0 uC) (I0 uE)) (p1 : 0 ≤ v1.toInt ∧ v1.toInt ≤ 999) (v2 : Int32) (hQ : ∀  (I' : jI) (L' : jL), WD Z I' → FR Ws_X12_findByEffort Z I0 Z I' → (DPR (I0 v0 0).toInt v1.toInt (I0 uC) (I0 uE) (I' uB) (-1) 0 ∧ DMR (I0 v0 0).toInt v1.toInt (I0 uC) (I0 uE) (I' uB) (-1) 0) → Q I' L') {K7 : Nat → Int32 → Int32 → jI → jL → Prop} {N7 : Int} (hK7 : ∀ (v2 : Int32) (I : jI) (L : jL), WD Z I → FR Ws_X12_findByEffort Z I0 Z I →   ((-2 ≤ v2.toInt ∧ (I0 v0 0).toInt ≤ 24 ∧ v2.toInt < (I0 v0 0).toInt) ∧ DPR (I0 v0 0).toInt v1.toInt (I0 uC) (I0 uE) (I uB) (v2.toInt + 1) 0 ∧ DMR (I0 v0 0).toInt v1.toInt (I0 uC) (I0 uE) (I uB) (v2.toInt + 1) 0) → v2.toInt + 2 < N7 → K7 v0 v1 v2 I L) : ∀ (n : Nat) (v3 : Int32) (I : jI) (L : jL), WD Z I → FR Ws_X12_findByEffort Z I0 Z I →   ((-1 ≤ v2.toInt ∧ (I0 v0 0).toInt ≤ 24 ∧ v2.toInt < (I0 v0 0).toInt ∧ 0 ≤ v3.toInt ∧ v3.toInt ≤ v1.toInt + 1) ∧ DPR (I0 v0 0).toInt v1.toInt (I0 uC) (I0 uE) (I uB) (v2.toInt + 1) v3.toInt ∧ DMR (I0 v0 0).toInt v1.toInt (I0 uC) (I0 uE) (I uB) (v2.toInt + 1) v3.toInt) → v2.toInt + 2 ≤ N7 → 1000 - v3.toInt < (n : Int) → f_X12_findByEffort_L14 K7 Z Q n v0 v1 v2 v3 I L := by
  intro n
  induction n with
  | zero =>
    intro v3 I L w_I q_I   li hm7 me
    exfalso
    omega
  | succ n ih =>
    intro v3 I L w_I q_I   li hm7 me
    unfold f_X12_findByEffort_L14
    have rv3 := i_rng v3
    have rv2 := i_rng v2
    have rv1 := i_rng v1
    obtain ⟨li0, li1, li2⟩ := li
    have t37 : 0 ≤ (I v0 0).toInt ∧ (I v0 0).toInt ≤ 24 := w_I.fld 12 0 kv0 (by decide)
    have luC : jlen Z uC = 75 := by obtain ⟨b9, e9, -, l9⟩ := sh_f w_I.1 kv0 (j := 37) (k := 14) (m := 75) rfl; cases huC.symm.trans e9; exact l9
    have kuC : jk Z uC 14 := by obtain ⟨b9, e9, k9, -⟩ := sh_f w_I.1 kv0 (j := 37) (k := 14) (m := 75) rfl; cases huC.symm.trans e9; exact k9
    have luE : jlen Z uE = 75 := by obtain ⟨b9, e9, -, l9⟩ := sh_f w_I.1 kv0 (j := 38) (k := 14) (m := 75) rfl; cases huE.symm.trans e9; exact l9
    have kuE : jk Z uE 14 := by obtain ⟨b9, e9, k9, -⟩ := sh_f w_I.1 kv0 (j := 38) (k := 14) (m := 75) rfl; cases huE.symm.trans e9; exact k9
    have luB : jlen Z uB = 25000 := by obtain ⟨b9, e9, -, l9⟩ := sh_f w_I.1 kv0 (j := 40) (k := 14) (m := 25000) rfl; cases huB.symm.trans e9; exact l9
    have kuB : jk Z uB 14 := by obtain ⟨b9, e9, k9, -⟩ := sh_f w_I.1 kv0 (j := 40) (k := 14) (m := 25000) rfl; cases huB.symm.trans e9; exact k9
    have e0 : (I v0 0).toInt = (I0 v0 0).toInt := by rw [q_I.2.2.1 v0 12 0 kv0 (by decide) (by decide)]
    have ec : I uC = I0 uC := q_I.2.2.2 v0 12 37 uC kv0 huC (by rw [kuC.2]; rfl) rfl (by decide)
    have ee : I uE = I0 uE := q_I.2.2.2 v0 12 38 uE kv0 huE (by rw [kuE.2]; rfl) rfl (by decide)
    have mv : MVB (3 * ((I0 v0 0).toInt + 1)) (I0 v0 0).toInt (I uC) (I uE) := by rw [ec, ee]; exact p0
    refine ⟨fun c38 => ?_, fun c38 => ?_⟩
    · skip
      first | (have t39 : v1.toInt < v3.toInt := (i_lt rfl rfl).mp c38) | (have t39 : v1.toInt < v3.toInt := (i_lt rfl rfl).mp c38) | skip
      intro x40 ex40
      have rx40 := i_rng x40
      first | (have tx40 : x40.toInt = v2.toInt + (-1) := by (rw [ex40]; exact (i_add rfl (show (-1 : Int32).toInt = -1 from rfl) (by omega) (by omega)))) | skip
      exact hK7 x40 I L w_I q_I   (by refine ⟨?_, ?_, ?_⟩; (omega); (first | exact DPR.zero (by omega) | exact DPR.next li1 (by omega) (by omega)); (first | exact DMR.zero (by omega) | exact DMR.next li2 (by omega) (by omega)))  (by omega)
    · skip
      first | (have t41 : ¬ (v1.toInt < v3.toInt) := (not_congr (i_lt rfl rfl)).mp c38) | (have t41 : ¬ (v1.toInt < v3.toInt) := (not_congr (i_lt rfl rfl)).mp c38) | skip
      have t43 : 0 ≤ (I v0 0).toInt ∧ (I v0 0).toInt ≤ 24 := w_I.fld 12 0 kv0 (by decide)
      refine ⟨fun c44 => ?_, fun c44 => ?_⟩
      · skip
        first | (have t45 : ¬ (v2.toInt = ((I v0 0).toInt - (1))) := (not_congr (i_eq rfl (i_sub rfl (show (1 : Int32).toInt = 1 from rfl) (by omega) (by omega)))).mp c44) | (have t45 : ¬ (v2.toInt = ((I v0 0) - (1 : Int32)).toInt) := (not_congr (i_eq rfl rfl)).mp c44) | skip
        unfold f_X12_findByEffort_b37
        unfold f_X12_findByEffort_b40
        have t46 : (1000000000 : Int32).toInt = 1000000000 := rfl
        have t47 : (1 : Int32).toInt = 1 := rfl
        exact ⟨(4 - (1 : Int32).toInt).toNat + 1, l9_X12_findByEffort_L45 w0 v0 v1 kv0 uC huC uE huE uB huB p0 p1 v2 v3  hQ hK7 ih  _ (1000000000 : Int32) (1 : Int32) I L w_I q_I   (by refine ⟨?_, ?_, ?_, ?_, ?_⟩; (omega); (exact li1); (first | exact li2 | (have h3 := i_nat (x := v3) rfl (by omega); first | exact Or.inl (by omega) | exact Or.inr ⟨by omega, by omega, Or.inl ⟨by omega, by omega⟩⟩ | (rw [← ec, ← ee] at li2 ⊢; exact DP1.cand li2 (k := x11) (far := v5.toInt) (by omega) (by omega) (by omega) (by omega) (by omega) hsp (by omega) (by omega) (by omega) (by omega)))); (first | exact li3 | exact li2); (have h3 := i_nat (x := v3) rfl (by omega); first | exact DM1.init (fun h => by omega) | (have h6 := i_nat (x := x11) rfl (by omega); rw [← ec, ← ee] at li4 ⊢; refine DM1.more li4 (by omega) (by omega) (x11).toNatClampNeg (by omega) (fun i h1 h2 h4 h5 => ?_); first | (exfalso; omega) | (obtain rfl : i = ix := (by omega); omega)))) (by omega) (by omega) (by omega)⟩
      · skip
        first | (have t48 : v2.toInt = ((I v0 0).toInt - (1)) := (i_eq rfl (i_sub rfl (show (1 : Int32).toInt = 1 from rfl) (by omega) (by omega))).mp c44) | (have t48 : v2.toInt = ((I v0 0) - (1 : Int32)).toInt := (i_eq rfl rfl).mp c44) | skip
        refine ⟨fun c49 => ?_, fun c49 => ?_⟩
        · skip
          first | (have t50 : ¬ (v3.toInt = (0)) := (not_congr (i_eq rfl (show (0 : Int32).toInt = 0 from rfl))).mp c49) | (have t50 : ¬ (v3.toInt = (0 : Int32).toInt) := (not_congr (i_eq rfl rfl)).mp c49) | skip
          unfold f_X12_findByEffort_b37
          unfold f_X12_findByEffort_b40
          have t51 : (1000000000 : Int32).toInt = 1000000000 := rfl
          have t52 : (1 : Int32).toInt = 1 := rfl
          exact ⟨(4 - (1 : Int32).toInt).toNat + 1, l9_X12_findByEffort_L45 w0 v0 v1 kv0 uC huC uE huE uB huB p0 p1 v2 v3  hQ hK7 ih  _ (1000000000 : Int32) (1 : Int32) I L w_I q_I   (by refine ⟨?_, ?_, ?_, ?_, ?_⟩; (omega); (exact li1); (first | exact li2 | (have h3 := i_nat (x := v3) rfl (by omega); first | exact Or.inl (by omega) | exact Or.inr ⟨by omega, by omega, Or.inl ⟨by omega, by omega⟩⟩ | (rw [← ec, ← ee] at li2 ⊢; exact DP1.cand li2 (k := x11) (far := v5.toInt) (by omega) (by omega) (by omega) (by omega) (by omega) hsp (by omega) (by omega) (by omega) (by omega)))); (first | exact li3 | exact li2); (have h3 := i_nat (x := v3) rfl (by omega); first | exact DM1.init (fun h => by omega) | (have h6 := i_nat (x := x11) rfl (by omega); rw [← ec, ← ee] at li4 ⊢; refine DM1.more li4 (by omega) (by omega) (x11).toNatClampNeg (by omega) (fun i h1 h2 h4 h5 => ?_); first | (exfalso; omega) | (obtain rfl : i = ix := (by omega); omega)))) (by omega) (by omega) (by omega)⟩
        · skip
          first | (have t53 : v3.toInt = (0) := (i_eq rfl (show (0 : Int32).toInt = 0 from rfl)).mp c49) | (have t53 : v3.toInt = (0 : Int32).toInt := (i_eq rfl rfl).mp c49) | skip
          unfold f_X12_findByEffort_b40
          have t54 : (0 : Int32).toInt = 0 := rfl
          have t55 : (1 : Int32).toInt = 1 := rfl
          exact ⟨(4 - (1 : Int32).toInt).toNat + 1, l9_X12_findByEffort_L45 w0 v0 v1 kv0 uC huC uE huE uB huB p0 p1 v2 v3  hQ hK7 ih  _ (0 : Int32) (1 : Int32) I L w_I q_I   (by refine ⟨?_, ?_, ?_, ?_, ?_⟩; (omega); (exact li1); (first | exact li2 | (have h3 := i_nat (x := v3) rfl (by omega); first | exact Or.inl (by omega) | exact Or.inr ⟨by omega, by omega, Or.inl ⟨by omega, by omega⟩⟩ | (rw [← ec, ← ee] at li2 ⊢; exact DP1.cand li2 (k := x11) (far := v5.toInt) (by omega) (by omega) (by omega) (by omega) (by omega) hsp (by omega) (by omega) (by omega) (by omega)))); (first | exact li3 | exact li2); (have h3 := i_nat (x := v3) rfl (by omega); first | exact DM1.init (fun h => by omega) | (have h6 := i_nat (x := x11) rfl (by omega); rw [← ec, ← ee] at li4 ⊢; refine DM1.more li4 (by omega) (by omega) (x11).toNatClampNeg (by omega) (fun i h1 h2 h4 h5 => ?_); first | (exfalso; omega) | (obtain rfl : i = ix := (by omega); omega)))) (by omega) (by omega) (by omega)⟩
set_option maxHeartbeats 4000000 in
set_option maxRecDepth 100000 in
theorem l9_X12_findByEffort_L7 {Z : jZ} {I0 : jI} {Q : jI → jL → Prop} (w0 : WD Z I0) (v0 : Nat) (v1 : Int32) (kv0 : jk Z v0 12) (uC : Nat) (huC : jr Z v0 37 = some uC) (uE : Nat) (huE : jr Z v0 38 = some uE) (uB : Nat) (huB : jr Z v0 40 = some uB) (p0 : MVB (3 * ((I0 v0 0).toInt + 1)) (I0 v0 0).toInt (I0 uC) (I0 uE)) (p1 : 0 ≤ v1.toInt ∧ v1.toInt ≤ 999) (hQ : ∀  (I' : jI) (L' : jL), WD Z I' → FR Ws_X12_findByEffort Z I0 Z I' → (DPR (I0 v0 0).toInt v1.toInt (I0 uC) (I0 uE) (I' uB) (-1) 0 ∧ DMR (I0 v0 0).toInt v1.toInt (I0 uC) (I0 uE) (I' uB) (-1) 0) → Q I' L') : ∀ (n : Nat) (v2 : Int32) (I : jI) (L : jL), WD Z I → FR Ws_X12_findByEffort Z I0 Z I →   ((-2 ≤ v2.toInt ∧ (I0 v0 0).toInt ≤ 24 ∧ v2.toInt < (I0 v0 0).toInt) ∧ DPR (I0 v0 0).toInt v1.toInt (I0 uC) (I0 uE) (I uB) (v2.toInt + 1) 0 ∧ DMR (I0 v0 0).toInt v1.toInt (I0 uC) (I0 uE) (I uB) (v2.toInt + 1) 0) → v2.toInt + 2 < (n : Int) → f_X12_findByEffort_L7  Z Q n v0 v1 v2 I L := by
  intro n
  induction n with
  | zero =>
    intro v2 I L w_I q_I   li  me
    exfalso
    omega
  | succ n ih =>
    intro v2 I L w_I q_I   li  me
    unfold f_X12_findByEffort_L7
    have rv2 := i_rng v2
    have rv1 := i_rng v1
    obtain ⟨li0, li1, li2⟩ := li
    have t56 : 0 ≤ (I v0 0).toInt ∧ (I v0 0).toInt ≤ 24 := w_I.fld 12 0 kv0 (by decide)
    have luC : jlen Z uC = 75 := by obtain ⟨b9, e9, -, l9⟩ := sh_f w_I.1 kv0 (j := 37) (k := 14) (m := 75) rfl; cases huC.symm.trans e9; exact l9
    have kuC : jk Z uC 14 := by obtain ⟨b9, e9, k9, -⟩ := sh_f w_I.1 kv0 (j := 37) (k := 14) (m := 75) rfl; cases huC.symm.trans e9; exact k9
    have luE : jlen Z uE = 75 := by obtain ⟨b9, e9, -, l9⟩ := sh_f w_I.1 kv0 (j := 38) (k := 14) (m := 75) rfl; cases huE.symm.trans e9; exact l9
    have kuE : jk Z uE 14 := by obtain ⟨b9, e9, k9, -⟩ := sh_f w_I.1 kv0 (j := 38) (k := 14) (m := 75) rfl; cases huE.symm.trans e9; exact k9
    have luB : jlen Z uB = 25000 := by obtain ⟨b9, e9, -, l9⟩ := sh_f w_I.1 kv0 (j := 40) (k := 14) (m := 25000) rfl; cases huB.symm.trans e9; exact l9
    have kuB : jk Z uB 14 := by obtain ⟨b9, e9, k9, -⟩ := sh_f w_I.1 kv0 (j := 40) (k := 14) (m := 25000) rfl; cases huB.symm.trans e9; exact k9
    have e0 : (I v0 0).toInt = (I0 v0 0).toInt := by rw [q_I.2.2.1 v0 12 0 kv0 (by decide) (by decide)]
    have ec : I uC = I0 uC := q_I.2.2.2 v0 12 37 uC kv0 huC (by rw [kuC.2]; rfl) rfl (by decide)
    have ee : I uE = I0 uE := q_I.2.2.2 v0 12 38 uE kv0 huE (by rw [kuE.2]; rfl) rfl (by decide)
    have mv : MVB (3 * ((I0 v0 0).toInt + 1)) (I0 v0 0).toInt (I uC) (I uE) := by rw [ec, ee]; exact p0
    refine ⟨fun c57 => ?_, fun c57 => ?_⟩
    · skip
      first | (have t58 : v2.toInt < (-1) := (i_lt rfl (show (-1 : Int32).toInt = -1 from rfl)).mp c57) | (have t58 : v2.toInt < (-1 : Int32).toInt := (i_lt rfl rfl).mp c57) | skip
      exact hQ  I L w_I q_I (by have e9 : v2.toInt + 1 = -1 := (by omega); rw [e9] at li1 li2; exact ⟨li1, li2⟩)
    · skip
      first | (have t59 : ¬ (v2.toInt < (-1)) := (not_congr (i_lt rfl (show (-1 : Int32).toInt = -1 from rfl))).mp c57) | (have t59 : ¬ (v2.toInt < (-1 : Int32).toInt) := (not_congr (i_lt rfl rfl)).mp c57) | skip
      have t60 : (0 : Int32).toInt = 0 := rfl
      exact ⟨(1000 - (0 : Int32).toInt).toNat + 1, l9_X12_findByEffort_L14 w0 v0 v1 kv0 uC huC uE huE uB huB p0 p1 v2  hQ ih  _ (0 : Int32) I L w_I q_I   (by refine ⟨?_, ?_, ?_⟩; (omega); (first | exact li1 | (have h3 := i_nat (x := v3) rfl (by omega); have h4 := i_nat (x := 0) rfl (by omega); exact DPR.step li1 li2 (by omega) (by omega) (by omega) (by omega) (by omega) (fun _ _ => rfl) (by assumption) (by omega))); (first | exact li2 | (have h3 := i_nat (x := v3) rfl (by omega); have h4 := i_nat (x := 0) rfl (by omega); have e5 : v5.toInt = 4 := (by omega); rw [e5] at li4; exact DMR.step li3 li4 (by omega) (by omega) (by omega) (by omega) (fun _ _ => rfl) (by assumption) (by omega) (by omega)))) (by omega) (by omega)⟩
set_option maxHeartbeats 4000000 in
set_option maxRecDepth 100000 in
theorem s9_X12_findByEffort {Z : jZ} {I : jI} {L : jL} (w_I : WD Z I) (v0 : Nat) (v1 : Int32) (kv0 : jk Z v0 12) (uC : Nat) (huC : jr Z v0 37 = some uC) (uE : Nat) (huE : jr Z v0 38 = some uE) (uB : Nat) (huB : jr Z v0 40 = some uB) (p0 : MVB (3 * ((I v0 0).toInt + 1)) (I v0 0).toInt (I uC) (I uE)) (p1 : 0 ≤ v1.toInt ∧ v1.toInt ≤ 999) {Q : jI → jL → Prop} (hQ : ∀  (I' : jI) (L' : jL), WD Z I' → FR Ws_X12_findByEffort Z I Z I' → (DPR (I v0 0).toInt v1.toInt (I uC) (I uE) (I' uB) (-1) 0 ∧ DMR (I v0 0).toInt v1.toInt (I uC) (I uE) (I' uB) (-1) 0) → Q I' L') : f_X12_findByEffort v0 v1 Z I L Q := by
  unfold f_X12_findByEffort
  have q_I : FR Ws_X12_findByEffort Z I Z I := FR.rf
  have rv1 := i_rng v1
  have t61 : 0 ≤ (I v0 0).toInt ∧ (I v0 0).toInt ≤ 24 := w_I.fld 12 0 kv0 (by decide)
  have luC : jlen Z uC = 75 := by obtain ⟨b9, e9, -, l9⟩ := sh_f w_I.1 kv0 (j := 37) (k := 14) (m := 75) rfl; cases huC.symm.trans e9; exact l9
  have kuC : jk Z uC 14 := by obtain ⟨b9, e9, k9, -⟩ := sh_f w_I.1 kv0 (j := 37) (k := 14) (m := 75) rfl; cases huC.symm.trans e9; exact k9
  have luE : jlen Z uE = 75 := by obtain ⟨b9, e9, -, l9⟩ := sh_f w_I.1 kv0 (j := 38) (k := 14) (m := 75) rfl; cases huE.symm.trans e9; exact l9
  have kuE : jk Z uE 14 := by obtain ⟨b9, e9, k9, -⟩ := sh_f w_I.1 kv0 (j := 38) (k := 14) (m := 75) rfl; cases huE.symm.trans e9; exact k9
  have luB : jlen Z uB = 25000 := by obtain ⟨b9, e9, -, l9⟩ := sh_f w_I.1 kv0 (j := 40) (k := 14) (m := 25000) rfl; cases huB.symm.trans e9; exact l9
  have kuB : jk Z uB 14 := by obtain ⟨b9, e9, k9, -⟩ := sh_f w_I.1 kv0 (j := 40) (k := 14) (m := 25000) rfl; cases huB.symm.trans e9; exact k9
  have t63 : 0 ≤ (I v0 0).toInt ∧ (I v0 0).toInt ≤ 24 := w_I.fld 12 0 kv0 (by decide)
  intro x64 ex64
  have rx64 := i_rng x64
  first | (have tx64 : x64.toInt = ((I v0 0).toInt - (1)) := by (rw [ex64]; exact (i_sub rfl (show (1 : Int32).toInt = 1 from rfl) (by omega) (by omega)))) | (have tx64 : x64.toInt = ((I v0 0) - (1 : Int32)).toInt := by rw [ex64])
  exact ⟨(x64.toInt + 2).toNat + 1, l9_X12_findByEffort_L7 w_I v0 v1 kv0 uC huC uE huE uB huB p0 p1   hQ   _ x64 I L w_I q_I   (by refine ⟨?_, ?_, ?_⟩; (omega); (first | exact DPR.zero (by omega) | exact DPR.next li1 (by omega) (by omega)); (first | exact DMR.zero (by omega) | exact DMR.next li2 (by omega) (by omega)))  (by omega)⟩
end
section

set_option maxHeartbeats 4000000 in
set_option maxRecDepth 100000 in
theorem l9_X12_findClimb_L144 {B : Nat × Nat} {T : Nat} {Z0 : jZ} {I0 : jI} {Q : Int32 → jZ → jI → jL → Prop} (w0 : WD Z0 I0) (v0 : Nat) (v1 : Int32) (kv0 : jk Z0 v0 12) (uC : Nat) (huC : jr Z0 v0 37 = some uC) (uE : Nat) (huE : jr Z0 v0 38 = some uE) (uB : Nat) (huB : jr Z0 v0 40 = some uB) (uK : Nat) (huK : jr Z0 v0 9 = some uK) (uR : Nat) (huR : jr Z0 v0 44 = some uR) (uL : Nat) (huL : jr Z0 v0 11 = some uL) (uV : Nat) (huV : jr Z0 v0 13 = some uV) (uQ : Nat) (huQ : jr Z0 v0 10 = some uQ) (p0 : 0 ≤ v1.toInt ∧ v1.toInt ≤ 5) (p1 : 1 ≤ (I0 v0 0).toInt) (v3 : Int32) (v4 : Int32) (hQ : ∀ (r : Int32) (Z' : jZ) (I' : jI) (L' : jL), WD Z' I' → BUD B Z' T → FR Ws_X12_findClimb Z0 I0 Z' I' → CP Z0 Z' → ((r.toInt = 0 ∨ (r.toInt = 1 ∧ CRP (I' uR) (I' v0 43).toInt ((I' v0 0).toInt - 1))) ∧ (r.toInt = 1 ↔ FCv B v0 Z0 I0 (I0 v0 0).toInt (I0 v0 39).toInt (I0 uL v1.toNatClampNeg) (I0 uV v1.toNatClampNeg) v1 (I0 uK v1.toNatClampNeg).toInt (I0 uQ v1.toNatClampNeg).toInt)) → Q r Z' I' L') {K131 : Nat → Int32 → Int32 → jZ → jI → jL → Prop} {N131 : Int} (hK131 : ∀ (v3 : Int32) (v4 : Int32) (Z : jZ) (I : jI) (L : jL), WD Z I → BUD B Z T → FR Ws_X12_findClimb Z0 I0 Z I → CP Z0 Z →   ((-1 ≤ v3.toInt ∧ v3.toInt < (I0 v0 0).toInt ∧ (I0 v0 0).toInt ≤ 24 ∧ 0 ≤ v4.toInt ∧ v4.toInt ≤ (I0 uK v1.toNatClampNeg).toInt ∧ (I0 uK v1.toNatClampNeg).toInt ≤ 120 ∧ ¬ (I uB (1000 * (v3.toInt + 1) + v4.toInt).toNat).toInt = 1000000000 ∧ 0 ≤ (I v0 43).toInt ∧ (I v0 43).toInt ≤ v3.toInt + 1) ∧ MVB (3 * ((I0 v0 0).toInt + 1)) (I0 v0 0).toInt (I uC) (I uE) ∧ DPR (I0 v0 0).toInt (I0 uK v1.toNatClampNeg).toInt (I uC) (I uE) (I uB) (-1) 0 ∧ CRP (I uR) (I v0 43).toInt v3.toInt ∧ FCv B v0 Z0 I0 (I0 v0 0).toInt (I0 v0 39).toInt (I0 uL v1.toNatClampNeg) (I0 uV v1.toNatClampNeg) v1 (I0 uK v1.toNatClampNeg).toInt (I0 uQ v1.toNatClampNeg).toInt) → 24 - v3.toInt < N131 → K131 v0 v3 v4 Z I L) : ∀ (n : Nat) (v5 : Int32) (Z : jZ) (I : jI) (L : jL), WD Z I → BUD B Z T → FR Ws_X12_findClimb Z0 I0 Z I → CP Z0 Z →   ((-1 ≤ v3.toInt ∧ v3.toInt < (I0 v0 0).toInt - 1 ∧ (I0 v0 0).toInt ≤ 24 ∧ 0 ≤ v4.toInt ∧ v4.toInt ≤ (I0 uK v1.toNatClampNeg).toInt ∧ (I0 uK v1.toNatClampNeg).toInt ≤ 120 ∧ 0 ≤ (I v0 43).toInt ∧ (I v0 43).toInt ≤ v3.toInt + 1 ∧ 1 ≤ v5.toInt ∧ v5.toInt ≤ 3) ∧ MVB (3 * ((I0 v0 0).toInt + 1)) (I0 v0 0).toInt (I uC) (I uE) ∧ DPR (I0 v0 0).toInt (I0 uK v1.toNatClampNeg).toInt (I uC) (I uE) (I uB) (-1) 0 ∧ (∃ far : Int, v5.toInt ≤ far ∧ far ≤ 3 ∧ CN (I uC) (I uE) (I uB) (v3.toInt + 1) v4.toInt far) ∧ CRP (I uR) (I v0 43).toInt v3.toInt ∧ FCv B v0 Z0 I0 (I0 v0 0).toInt (I0 v0 39).toInt (I0 uL v1.toNatClampNeg) (I0 uV v1.toNatClampNeg) v1 (I0 uK v1.toNatClampNeg).toInt (I0 uQ v1.toNatClampNeg).toInt) → 24 - v3.toInt ≤ N131 → 4 - v5.toInt < (n : Int) → f_X12_findClimb_L144 B K131 Q n v0 v3 v4 v5 Z I L := by
  intro n
  induction n with
  | zero =>
    intro v5 Z I L w_I bd_Z q_I cp_Z   li hm131 me
    exfalso
    omega
  | succ n ih =>
    intro v5 Z I L w_I bd_Z q_I cp_Z   li hm131 me
    unfold f_X12_findClimb_L144
    have rv5 := i_rng v5
    have rv3 := i_rng v3
    have rv4 := i_rng v4
    have rv1 := i_rng v1
    obtain ⟨li0, li1, li2, li3, li4, li5⟩ := li
    have kv0_0 := kv0
    have kv0 := (q_I.1 _ _ kv0).1
    have t1 : 0 ≤ (I v0 0).toInt ∧ (I v0 0).toInt ≤ 24 := w_I.fld 12 0 kv0 (by decide)
    have t2 : 0 ≤ (I v0 43).toInt ∧ (I v0 43).toInt ≤ 24 := w_I.fld 12 43 kv0 (by decide)
    have huC_1 : jr Z v0 37 = some uC := (q_I.2.1 v0 12 37 kv0_0 (by decide) (by decide)).trans huC
    have luC : jlen Z uC = 75 := by obtain ⟨b9, e9, -, l9⟩ := sh_f w_I.1 kv0 (j := 37) (k := 14) (m := 75) rfl; cases huC_1.symm.trans e9; exact l9
    have kuC : jk Z uC 14 := by obtain ⟨b9, e9, k9, -⟩ := sh_f w_I.1 kv0 (j := 37) (k := 14) (m := 75) rfl; cases huC_1.symm.trans e9; exact k9
    have huE_1 : jr Z v0 38 = some uE := (q_I.2.1 v0 12 38 kv0_0 (by decide) (by decide)).trans huE
    have luE : jlen Z uE = 75 := by obtain ⟨b9, e9, -, l9⟩ := sh_f w_I.1 kv0 (j := 38) (k := 14) (m := 75) rfl; cases huE_1.symm.trans e9; exact l9
    have kuE : jk Z uE 14 := by obtain ⟨b9, e9, k9, -⟩ := sh_f w_I.1 kv0 (j := 38) (k := 14) (m := 75) rfl; cases huE_1.symm.trans e9; exact k9
    have huB_1 : jr Z v0 40 = some uB := (q_I.2.1 v0 12 40 kv0_0 (by decide) (by decide)).trans huB
    have luB : jlen Z uB = 25000 := by obtain ⟨b9, e9, -, l9⟩ := sh_f w_I.1 kv0 (j := 40) (k := 14) (m := 25000) rfl; cases huB_1.symm.trans e9; exact l9
    have kuB : jk Z uB 14 := by obtain ⟨b9, e9, k9, -⟩ := sh_f w_I.1 kv0 (j := 40) (k := 14) (m := 25000) rfl; cases huB_1.symm.trans e9; exact k9
    have huK_1 : jr Z v0 9 = some uK := (q_I.2.1 v0 12 9 kv0_0 (by decide) (by decide)).trans huK
    have luK : jlen Z uK = 6 := by obtain ⟨b9, e9, -, l9⟩ := sh_f w_I.1 kv0 (j := 9) (k := 14) (m := 6) rfl; cases huK_1.symm.trans e9; exact l9
    have kuK : jk Z uK 14 := by obtain ⟨b9, e9, k9, -⟩ := sh_f w_I.1 kv0 (j := 9) (k := 14) (m := 6) rfl; cases huK_1.symm.trans e9; exact k9
    have huR_1 : jr Z v0 44 = some uR := (q_I.2.1 v0 12 44 kv0_0 (by decide) (by decide)).trans huR
    have luR : jlen Z uR = 24 := by obtain ⟨b9, e9, -, l9⟩ := sh_f w_I.1 kv0 (j := 44) (k := 14) (m := 24) rfl; cases huR_1.symm.trans e9; exact l9
    have kuR : jk Z uR 14 := by obtain ⟨b9, e9, k9, -⟩ := sh_f w_I.1 kv0 (j := 44) (k := 14) (m := 24) rfl; cases huR_1.symm.trans e9; exact k9
    have huL_1 : jr Z v0 11 = some uL := (q_I.2.1 v0 12 11 kv0_0 (by decide) (by decide)).trans huL
    have luL : jlen Z uL = 6 := by obtain ⟨b9, e9, -, l9⟩ := sh_f w_I.1 kv0 (j := 11) (k := 14) (m := 6) rfl; cases huL_1.symm.trans e9; exact l9
    have kuL : jk Z uL 14 := by obtain ⟨b9, e9, k9, -⟩ := sh_f w_I.1 kv0 (j := 11) (k := 14) (m := 6) rfl; cases huL_1.symm.trans e9; exact k9
    have huV_1 : jr Z v0 13 = some uV := (q_I.2.1 v0 12 13 kv0_0 (by decide) (by decide)).trans huV
    have luV : jlen Z uV = 6 := by obtain ⟨b9, e9, -, l9⟩ := sh_f w_I.1 kv0 (j := 13) (k := 14) (m := 6) rfl; cases huV_1.symm.trans e9; exact l9
    have kuV : jk Z uV 14 := by obtain ⟨b9, e9, k9, -⟩ := sh_f w_I.1 kv0 (j := 13) (k := 14) (m := 6) rfl; cases huV_1.symm.trans e9; exact k9
    have huQ_1 : jr Z v0 10 = some uQ := (q_I.2.1 v0 12 10 kv0_0 (by decide) (by decide)).trans huQ
    have luQ : jlen Z uQ = 6 := by obtain ⟨b9, e9, -, l9⟩ := sh_f w_I.1 kv0 (j := 10) (k := 14) (m := 6) rfl; cases huQ_1.symm.trans e9; exact l9
    have kuQ : jk Z uQ 14 := by obtain ⟨b9, e9, k9, -⟩ := sh_f w_I.1 kv0 (j := 10) (k := 14) (m := 6) rfl; cases huQ_1.symm.trans e9; exact k9
    have xq_I := q_I.1
    have e0 : (I v0 0).toInt = (I0 v0 0).toInt := by rw [q_I.2.2.1 v0 12 0 kv0_0 (by decide) (by decide)]
    have ek : I uK = I0 uK := q_I.2.2.2 v0 12 9 uK kv0_0 huK (by obtain ⟨b9, e9, k9, -⟩ := sh_f w0.1 kv0_0 (j := 9) (k := 14) (m := 6) rfl; cases huK.symm.trans e9; rw [k9.2]; rfl) rfl (by decide)
    have ekv : (I uK v1.toNatClampNeg).toInt = (I0 uK v1.toNatClampNeg).toInt := by rw [ek]
    have okn : 0 ≤ (I uK v1.toNatClampNeg).toInt ∧ (I uK v1.toNatClampNeg).toInt ≤ 120 := w_I.arr 12 9 kv0 huK_1 kuK rfl rfl _
    have mvI : MVB (3 * ((I v0 0).toInt + 1)) (I v0 0).toInt (I uC) (I uE) := by rw [e0]; exact li1
    have dpI : DPR (I v0 0).toInt (I0 uK v1.toNatClampNeg).toInt (I uC) (I uE) (I uB) (-1) 0 := by rw [e0]; exact li2
    have eq9 : I uQ = I0 uQ := q_I.2.2.2 v0 12 10 uQ kv0_0 huQ (by obtain ⟨b9, e9, k9, -⟩ := sh_f w0.1 kv0_0 (j := 10) (k := 14) (m := 6) rfl; cases huQ.symm.trans e9; rw [k9.2]; rfl) rfl (by decide)
    have eqv : (I uQ v1.toNatClampNeg).toInt = (I0 uQ v1.toNatClampNeg).toInt := by rw [eq9]
    have h00 : 0 ≤ (I0 v0 0).toInt ∧ (I0 v0 0).toInt ≤ 24 := w0.fld 12 0 kv0_0 (by decide)
    refine s_X12_isOn w_I v0 v3 v5 v4 kv0 uC huC_1 uE huE_1 uB huB_1 (by first | exact mvI | assumption) (by omega) (by exact ⟨_, by omega, dpI⟩) (fun r3 p4 => ?_)
    have rr3 := i_rng r3
    refine ⟨fun c5 => ?_, fun c5 => ?_⟩
    · skip
      first | (have t6 : ¬ (r3.toInt = (0)) := (not_congr (i_eq rfl (show (0 : Int32).toInt = 0 from rfl))).mp c5) | (have t6 : ¬ (r3.toInt = (0 : Int32).toInt) := (not_congr (i_eq rfl rfl)).mp c5) | skip
      have hcn : CN (I uC) (I uE) (I uB) (v3.toInt + 1) v4.toInt v5.toInt := by
        rcases p4 with h4 | h4
        · exact h4.2
        · exfalso; omega
      obtain ⟨kk, ii, c1, c2, c3, c4, c8, c6⟩ := hcn
      have tk := i_nat (x := ((((3 : Int32) * (v3 + (1 : Int32))) + v5) - (1 : Int32))) (i_sub (i_add (i_mul (show (3 : Int32).toInt = 3 from rfl) (i_add rfl (show (1 : Int32).toInt = 1 from rfl) (by omega) (by omega)) (by omega) (by omega)) rfl (by omega) (by omega)) (show (1 : Int32).toInt = 1 from rfl) (by omega) (by omega)) (by omega)
      obtain rfl : kk = ((((3 : Int32) * (v3 + (1 : Int32))) + v5) - (1 : Int32)).toNatClampNeg := by omega
      have hm9 := li1 ((((3 : Int32) * (v3 + (1 : Int32))) + v5) - (1 : Int32)).toNatClampNeg (by omega)
      have hm8 := hm9.resolve_left c2
      intro b7 eb7
      obtain rfl : uE = b7 := Option.some.inj (huE_1.symm.trans eb7)
      have o8 : vp_in ((((3 : Int32) * (v3 + (1 : Int32))) + v5) - (1 : Int32)) 75 := vi_of (i_sub (i_add (i_mul (show (3 : Int32).toInt = 3 from rfl) (i_add rfl (show (1 : Int32).toInt = 1 from rfl) (by omega) (by omega)) (by omega) (by omega)) rfl (by omega) (by omega)) (show (1 : Int32).toInt = 1 from rfl) (by omega) (by omega)) (by omega) (by omega)
      refine ⟨o8, ?_⟩
      intro x9 ex9
      have rx9 := i_rng x9
      first | (have tx9 : x9.toInt = (v4.toInt - (I uE ((((3 : Int32) * (v3 + (1 : Int32))) + v5) - (1 : Int32)).toNatClampNeg).toInt) := by (rw [ex9]; exact (i_sub rfl rfl (by omega) (by omega)))) | (have tx9 : x9.toInt = (v4 - (I uE ((((3 : Int32) * (v3 + (1 : Int32))) + v5) - (1 : Int32)).toNatClampNeg)).toInt := by rw [ex9])
      intro x10 ex10
      have rx10 := i_rng x10
      first | (have tx10 : x10.toInt = (v3.toInt + v5.toInt) := by (rw [ex10]; exact (i_add rfl rfl (by omega) (by omega)))) | (have tx10 : x10.toInt = (v3 + v5).toInt := by rw [ex10])
      intro b11 eb11
      obtain rfl : uR = b11 := Option.some.inj (huR_1.symm.trans eb11)
      have t13 : 0 ≤ (I v0 43).toInt ∧ (I v0 43).toInt ≤ 24 := w_I.fld 12 43 kv0 (by decide)
      have o14 : vp_in (I v0 43) 24 := vi_of rfl (by omega) (by omega)
      refine ⟨o14, ?_⟩
      intro I15 eI15
      have w_I15 : WD Z I15 := by rw [eI15]; exact WD_putA w_I 12 44 kv0 huR_1 kuR rfl rfl (by decide) (by constructor <;> omega)
      have ao_I15_uR : ∀ q, q ≠ (I v0 43).toNatClampNeg → I15 uR q = I uR q := fun q hq => by rw [eI15]; exact jpI_off hq
      first | (have u16 : (I15 uR ((I v0 43).toNatClampNeg)).toInt = x10.toInt := by (rw [eI15, show jpI I uR (I v0 43).toNatClampNeg x10 uR (I v0 43).toNatClampNeg = x10 from jpI_at] <;> exact rfl)) | skip
      have f_I15 : FR [(12, 44)] Z I Z I15 := by rw [eI15]; exact FR_upA w_I.2.1 kv0 huR_1 kuR rfl rfl List.mem_cons_self
      have q_I15 : FR Ws_X12_findClimb Z0 I0 Z I15 := q_I.trans w0.1 w0.2.1 (f_I15.mono (by decide))
      have ao_I15_uC : I15 uC = I uC := f_I15.2.2.2 v0 12 37 uC kv0 huC_1 (by rw [kuC.2]; rfl) rfl (by decide)
      have ao_I15_uE : I15 uE = I uE := f_I15.2.2.2 v0 12 38 uE kv0 huE_1 (by rw [kuE.2]; rfl) rfl (by decide)
      have ao_I15_uB : I15 uB = I uB := f_I15.2.2.2 v0 12 40 uB kv0 huB_1 (by rw [kuB.2]; rfl) rfl (by decide)
      have u17 : (I15 v0 0).toInt = (I v0 0).toInt := by rw [f_I15.2.2.1 v0 12 0 kv0 (by decide) (by decide)]
      have u18 : (I15 v0 43).toInt = (I v0 43).toInt := by rw [f_I15.2.2.1 v0 12 43 kv0 (by decide) (by decide)]
      have t20 : 0 ≤ (I15 v0 43).toInt ∧ (I15 v0 43).toInt ≤ 24 := w_I15.fld 12 43 kv0 (by decide)
      intro I21 eI21
      try (have t22 : ((I15 v0 43) + (1 : Int32)).toInt = ((I15 v0 43).toInt + (1)) := (i_add rfl (show (1 : Int32).toInt = 1 from rfl) (by omega) (by omega)))
      have w_I21 : WD Z I21 := by rw [eI21]; exact WD_putF w_I15 12 43 kv0 (by decide) (by decide) (by constructor <;> omega)
      have f_I21 : FR [(12, 43)] Z I15 Z I21 := by rw [eI21]; exact FR_putF kv0 (by decide) List.mem_cons_self
      have q_I21 : FR Ws_X12_findClimb Z0 I0 Z I21 := q_I15.trans w0.1 w0.2.1 (f_I21.mono (by decide))
      have ao_I21_uC : I21 uC = I uC := (f_I21.2.2.2 v0 12 37 uC kv0 huC_1 (by rw [kuC.2]; rfl) rfl (by decide)).trans ao_I15_uC
      have ao_I21_uE : I21 uE = I uE := (f_I21.2.2.2 v0 12 38 uE kv0 huE_1 (by rw [kuE.2]; rfl) rfl (by decide)).trans ao_I15_uE
      have ao_I21_uB : I21 uB = I uB := (f_I21.2.2.2 v0 12 40 uB kv0 huB_1 (by rw [kuB.2]; rfl) rfl (by decide)).trans ao_I15_uB
      have ao_I21_uR : ∀ q, q ≠ (I v0 43).toNatClampNeg → I21 uR q = I uR q := fun q hq => by rw [f_I21.2.2.2 v0 12 44 uR kv0 huR_1 (by rw [kuR.2]; rfl) rfl (by decide)]; exact ao_I15_uR q hq
      have u23 : (I21 uR ((I v0 43).toNatClampNeg)).toInt = (I15 uR ((I v0 43).toNatClampNeg)).toInt := by rw [f_I21.2.2.2 v0 12 44 uR kv0 huR_1 (by rw [kuR.2]; rfl) rfl (by decide)]
      have u24 : (I21 v0 0).toInt = (I15 v0 0).toInt := by rw [f_I21.2.2.1 v0 12 0 kv0 (by decide) (by decide)]
      first | (have u25 : (I21 v0 43).toInt = ((I15 v0 43).toInt + (1)) := by (rw [eI21, show jpI I15 v0 43 ((I15 v0 43) + (1 : Int32)) v0 43 = ((I15 v0 43) + (1 : Int32)) from jpI_at] <;> exact (i_add rfl (show (1 : Int32).toInt = 1 from rfl) (by omega) (by omega)))) | skip
      exact hK131 x10 x9 Z I21 L w_I21 bd_Z q_I21 cp_Z   (by have hcr : CRP (I21 uR) (I21 v0 43).toInt x10.toInt := CRP.step li4 (x := I v0 43) rfl (by omega) (by omega) (by omega) ao_I21_uR (by omega) (by omega); rw [ao_I21_uC, ao_I21_uE, ao_I21_uB]; have e7 : (1000 * (x10.toInt + 1) + x9.toInt).toNat = ii := (by omega); rw [e7]; exact ⟨by omega, li1, li2, hcr, li5⟩)  (by omega)
    · skip
      first | (have t26 : r3.toInt = (0) := (i_eq rfl (show (0 : Int32).toInt = 0 from rfl)).mp c5) | (have t26 : r3.toInt = (0 : Int32).toInt := (i_eq rfl rfl).mp c5) | skip
      intro x27 ex27
      have rx27 := i_rng x27
      first | (have tx27 : x27.toInt = v5.toInt + (1) := by (rw [ex27]; exact (i_add rfl (show (1 : Int32).toInt = 1 from rfl) (by omega) (by omega)))) | skip
      exact ih x27 Z I L w_I bd_Z q_I cp_Z   (by obtain ⟨far, g1, g2, g3⟩ := li3; have hne : ¬ far = v5.toInt := (fun h => by (rcases p4 with h4 | h4; (omega); exact h4.2 (by rw [← h]; exact g3))); refine ⟨?_, li1, li2, ⟨far, ?_, g2, g3⟩, li4, li5⟩ <;> omega) (by omega) (by omega)
set_option maxHeartbeats 4000000 in
set_option maxRecDepth 100000 in
theorem l9_X12_findClimb_L131 {B : Nat × Nat} {T : Nat} {Z0 : jZ} {I0 : jI} {Q : Int32 → jZ → jI → jL → Prop} (w0 : WD Z0 I0) (v0 : Nat) (v1 : Int32) (kv0 : jk Z0 v0 12) (uC : Nat) (huC : jr Z0 v0 37 = some uC) (uE : Nat) (huE : jr Z0 v0 38 = some uE) (uB : Nat) (huB : jr Z0 v0 40 = some uB) (uK : Nat) (huK : jr Z0 v0 9 = some uK) (uR : Nat) (huR : jr Z0 v0 44 = some uR) (uL : Nat) (huL : jr Z0 v0 11 = some uL) (uV : Nat) (huV : jr Z0 v0 13 = some uV) (uQ : Nat) (huQ : jr Z0 v0 10 = some uQ) (p0 : 0 ≤ v1.toInt ∧ v1.toInt ≤ 5) (p1 : 1 ≤ (I0 v0 0).toInt) (hQ : ∀ (r : Int32) (Z' : jZ) (I' : jI) (L' : jL), WD Z' I' → BUD B Z' T → FR Ws_X12_findClimb Z0 I0 Z' I' → CP Z0 Z' → ((r.toInt = 0 ∨ (r.toInt = 1 ∧ CRP (I' uR) (I' v0 43).toInt ((I' v0 0).toInt - 1))) ∧ (r.toInt = 1 ↔ FCv B v0 Z0 I0 (I0 v0 0).toInt (I0 v0 39).toInt (I0 uL v1.toNatClampNeg) (I0 uV v1.toNatClampNeg) v1 (I0 uK v1.toNatClampNeg).toInt (I0 uQ v1.toNatClampNeg).toInt)) → Q r Z' I' L') : ∀ (n : Nat) (v3 : Int32) (v4 : Int32) (Z : jZ) (I : jI) (L : jL), WD Z I → BUD B Z T → FR Ws_X12_findClimb Z0 I0 Z I → CP Z0 Z →   ((-1 ≤ v3.toInt ∧ v3.toInt < (I0 v0 0).toInt ∧ (I0 v0 0).toInt ≤ 24 ∧ 0 ≤ v4.toInt ∧ v4.toInt ≤ (I0 uK v1.toNatClampNeg).toInt ∧ (I0 uK v1.toNatClampNeg).toInt ≤ 120 ∧ ¬ (I uB (1000 * (v3.toInt + 1) + v4.toInt).toNat).toInt = 1000000000 ∧ 0 ≤ (I v0 43).toInt ∧ (I v0 43).toInt ≤ v3.toInt + 1) ∧ MVB (3 * ((I0 v0 0).toInt + 1)) (I0 v0 0).toInt (I uC) (I uE) ∧ DPR (I0 v0 0).toInt (I0 uK v1.toNatClampNeg).toInt (I uC) (I uE) (I uB) (-1) 0 ∧ CRP (I uR) (I v0 43).toInt v3.toInt ∧ FCv B v0 Z0 I0 (I0 v0 0).toInt (I0 v0 39).toInt (I0 uL v1.toNatClampNeg) (I0 uV v1.toNatClampNeg) v1 (I0 uK v1.toNatClampNeg).toInt (I0 uQ v1.toNatClampNeg).toInt) → 24 - v3.toInt < (n : Int) → f_X12_findClimb_L131 B  Q n v0 v3 v4 Z I L := by
  intro n
  induction n with
  | zero =>
    intro v3 v4 Z I L w_I bd_Z q_I cp_Z   li  me
    exfalso
    omega
  | succ n ih =>
    intro v3 v4 Z I L w_I bd_Z q_I cp_Z   li  me
    unfold f_X12_findClimb_L131
    have rv3 := i_rng v3
    have rv4 := i_rng v4
    have rv1 := i_rng v1
    obtain ⟨li0, li1, li2, li3, li4⟩ := li
    have kv0_0 := kv0
    have kv0 := (q_I.1 _ _ kv0).1
    have t28 : 0 ≤ (I v0 0).toInt ∧ (I v0 0).toInt ≤ 24 := w_I.fld 12 0 kv0 (by decide)
    have t29 : 0 ≤ (I v0 43).toInt ∧ (I v0 43).toInt ≤ 24 := w_I.fld 12 43 kv0 (by decide)
    have huC_1 : jr Z v0 37 = some uC := (q_I.2.1 v0 12 37 kv0_0 (by decide) (by decide)).trans huC
    have luC : jlen Z uC = 75 := by obtain ⟨b9, e9, -, l9⟩ := sh_f w_I.1 kv0 (j := 37) (k := 14) (m := 75) rfl; cases huC_1.symm.trans e9; exact l9
    have kuC : jk Z uC 14 := by obtain ⟨b9, e9, k9, -⟩ := sh_f w_I.1 kv0 (j := 37) (k := 14) (m := 75) rfl; cases huC_1.symm.trans e9; exact k9
    have huE_1 : jr Z v0 38 = some uE := (q_I.2.1 v0 12 38 kv0_0 (by decide) (by decide)).trans huE
    have luE : jlen Z uE = 75 := by obtain ⟨b9, e9, -, l9⟩ := sh_f w_I.1 kv0 (j := 38) (k := 14) (m := 75) rfl; cases huE_1.symm.trans e9; exact l9
    have kuE : jk Z uE 14 := by obtain ⟨b9, e9, k9, -⟩ := sh_f w_I.1 kv0 (j := 38) (k := 14) (m := 75) rfl; cases huE_1.symm.trans e9; exact k9
    have huB_1 : jr Z v0 40 = some uB := (q_I.2.1 v0 12 40 kv0_0 (by decide) (by decide)).trans huB
    have luB : jlen Z uB = 25000 := by obtain ⟨b9, e9, -, l9⟩ := sh_f w_I.1 kv0 (j := 40) (k := 14) (m := 25000) rfl; cases huB_1.symm.trans e9; exact l9
    have kuB : jk Z uB 14 := by obtain ⟨b9, e9, k9, -⟩ := sh_f w_I.1 kv0 (j := 40) (k := 14) (m := 25000) rfl; cases huB_1.symm.trans e9; exact k9
    have huK_1 : jr Z v0 9 = some uK := (q_I.2.1 v0 12 9 kv0_0 (by decide) (by decide)).trans huK
    have luK : jlen Z uK = 6 := by obtain ⟨b9, e9, -, l9⟩ := sh_f w_I.1 kv0 (j := 9) (k := 14) (m := 6) rfl; cases huK_1.symm.trans e9; exact l9
    have kuK : jk Z uK 14 := by obtain ⟨b9, e9, k9, -⟩ := sh_f w_I.1 kv0 (j := 9) (k := 14) (m := 6) rfl; cases huK_1.symm.trans e9; exact k9
    have huR_1 : jr Z v0 44 = some uR := (q_I.2.1 v0 12 44 kv0_0 (by decide) (by decide)).trans huR
    have luR : jlen Z uR = 24 := by obtain ⟨b9, e9, -, l9⟩ := sh_f w_I.1 kv0 (j := 44) (k := 14) (m := 24) rfl; cases huR_1.symm.trans e9; exact l9
    have kuR : jk Z uR 14 := by obtain ⟨b9, e9, k9, -⟩ := sh_f w_I.1 kv0 (j := 44) (k := 14) (m := 24) rfl; cases huR_1.symm.trans e9; exact k9
    have huL_1 : jr Z v0 11 = some uL := (q_I.2.1 v0 12 11 kv0_0 (by decide) (by decide)).trans huL
    have luL : jlen Z uL = 6 := by obtain ⟨b9, e9, -, l9⟩ := sh_f w_I.1 kv0 (j := 11) (k := 14) (m := 6) rfl; cases huL_1.symm.trans e9; exact l9
    have kuL : jk Z uL 14 := by obtain ⟨b9, e9, k9, -⟩ := sh_f w_I.1 kv0 (j := 11) (k := 14) (m := 6) rfl; cases huL_1.symm.trans e9; exact k9
    have huV_1 : jr Z v0 13 = some uV := (q_I.2.1 v0 12 13 kv0_0 (by decide) (by decide)).trans huV
    have luV : jlen Z uV = 6 := by obtain ⟨b9, e9, -, l9⟩ := sh_f w_I.1 kv0 (j := 13) (k := 14) (m := 6) rfl; cases huV_1.symm.trans e9; exact l9
    have kuV : jk Z uV 14 := by obtain ⟨b9, e9, k9, -⟩ := sh_f w_I.1 kv0 (j := 13) (k := 14) (m := 6) rfl; cases huV_1.symm.trans e9; exact k9
    have huQ_1 : jr Z v0 10 = some uQ := (q_I.2.1 v0 12 10 kv0_0 (by decide) (by decide)).trans huQ
    have luQ : jlen Z uQ = 6 := by obtain ⟨b9, e9, -, l9⟩ := sh_f w_I.1 kv0 (j := 10) (k := 14) (m := 6) rfl; cases huQ_1.symm.trans e9; exact l9
    have kuQ : jk Z uQ 14 := by obtain ⟨b9, e9, k9, -⟩ := sh_f w_I.1 kv0 (j := 10) (k := 14) (m := 6) rfl; cases huQ_1.symm.trans e9; exact k9
    have xq_I := q_I.1
    have e0 : (I v0 0).toInt = (I0 v0 0).toInt := by rw [q_I.2.2.1 v0 12 0 kv0_0 (by decide) (by decide)]
    have ek : I uK = I0 uK := q_I.2.2.2 v0 12 9 uK kv0_0 huK (by obtain ⟨b9, e9, k9, -⟩ := sh_f w0.1 kv0_0 (j := 9) (k := 14) (m := 6) rfl; cases huK.symm.trans e9; rw [k9.2]; rfl) rfl (by decide)
    have ekv : (I uK v1.toNatClampNeg).toInt = (I0 uK v1.toNatClampNeg).toInt := by rw [ek]
    have okn : 0 ≤ (I uK v1.toNatClampNeg).toInt ∧ (I uK v1.toNatClampNeg).toInt ≤ 120 := w_I.arr 12 9 kv0 huK_1 kuK rfl rfl _
    have mvI : MVB (3 * ((I v0 0).toInt + 1)) (I v0 0).toInt (I uC) (I uE) := by rw [e0]; exact li1
    have dpI : DPR (I v0 0).toInt (I0 uK v1.toNatClampNeg).toInt (I uC) (I uE) (I uB) (-1) 0 := by rw [e0]; exact li2
    have eq9 : I uQ = I0 uQ := q_I.2.2.2 v0 12 10 uQ kv0_0 huQ (by obtain ⟨b9, e9, k9, -⟩ := sh_f w0.1 kv0_0 (j := 10) (k := 14) (m := 6) rfl; cases huQ.symm.trans e9; rw [k9.2]; rfl) rfl (by decide)
    have eqv : (I uQ v1.toNatClampNeg).toInt = (I0 uQ v1.toNatClampNeg).toInt := by rw [eq9]
    have h00 : 0 ≤ (I0 v0 0).toInt ∧ (I0 v0 0).toInt ≤ 24 := w0.fld 12 0 kv0_0 (by decide)
    have t31 : 0 ≤ (I v0 0).toInt ∧ (I v0 0).toInt ≤ 24 := w_I.fld 12 0 kv0 (by decide)
    refine ⟨fun c32 => ?_, fun c32 => ?_⟩
    · skip
      first | (have t33 : ((I v0 0).toInt - (1)) ≤ v3.toInt := (i_le (i_sub rfl (show (1 : Int32).toInt = 1 from rfl) (by omega) (by omega)) rfl).mp c32) | (have t33 : ((I v0 0) - (1 : Int32)).toInt ≤ v3.toInt := (i_le rfl rfl).mp c32) | skip
      have t34 : (1 : Int32).toInt = 1 := rfl
      exact hQ (1 : Int32) Z I L w_I bd_Z q_I cp_Z (by exact ⟨Or.inr ⟨rfl, by rw [show (I v0 0).toInt - 1 = v3.toInt by omega]; exact li3⟩, fun _ => li4, fun _ => rfl⟩)
    · skip
      first | (have t35 : ¬ (((I v0 0).toInt - (1)) ≤ v3.toInt) := (not_congr (i_le (i_sub rfl (show (1 : Int32).toInt = 1 from rfl) (by omega) (by omega)) rfl)).mp c32) | (have t35 : ¬ (((I v0 0) - (1 : Int32)).toInt ≤ v3.toInt) := (not_congr (i_le rfl rfl)).mp c32) | skip
      have t36 : (1 : Int32).toInt = 1 := rfl
      exact ⟨(4 - (1 : Int32).toInt).toNat + 1, l9_X12_findClimb_L144 w0 v0 v1 kv0_0 uC huC uE huE uB huB uK huK uR huR uL huL uV huV uQ huQ p0 p1 v3 v4  hQ ih  _ (1 : Int32) Z I L w_I bd_Z q_I cp_Z   (by obtain ⟨far, g1, g2, g3⟩ := DPR.cn li2 (f := v3.toInt + 1) (e := v4.toInt) (by omega) (by omega); refine ⟨?_, li1, li2, ⟨far, ?_, g2, g3⟩, li3, li4⟩ <;> omega) (by omega) (by omega)⟩
set_option maxHeartbeats 4000000 in
set_option maxRecDepth 100000 in
theorem l9_X12_findClimb_L19 {B : Nat × Nat} {T : Nat} {Z0 : jZ} {I0 : jI} {Q : Int32 → jZ → jI → jL → Prop} (w0 : WD Z0 I0) (v0 : Nat) (v1 : Int32) (kv0 : jk Z0 v0 12) (uC : Nat) (huC : jr Z0 v0 37 = some uC) (uE : Nat) (huE : jr Z0 v0 38 = some uE) (uB : Nat) (huB : jr Z0 v0 40 = some uB) (uK : Nat) (huK : jr Z0 v0 9 = some uK) (uR : Nat) (huR : jr Z0 v0 44 = some uR) (uL : Nat) (huL : jr Z0 v0 11 = some uL) (uV : Nat) (huV : jr Z0 v0 13 = some uV) (uQ : Nat) (huQ : jr Z0 v0 10 = some uQ) (p0 : 0 ≤ v1.toInt ∧ v1.toInt ≤ 5) (p1 : 1 ≤ (I0 v0 0).toInt) (hQ : ∀ (r : Int32) (Z' : jZ) (I' : jI) (L' : jL), WD Z' I' → BUD B Z' T → FR Ws_X12_findClimb Z0 I0 Z' I' → CP Z0 Z' → ((r.toInt = 0 ∨ (r.toInt = 1 ∧ CRP (I' uR) (I' v0 43).toInt ((I' v0 0).toInt - 1))) ∧ (r.toInt = 1 ↔ FCv B v0 Z0 I0 (I0 v0 0).toInt (I0 v0 39).toInt (I0 uL v1.toNatClampNeg) (I0 uV v1.toNatClampNeg) v1 (I0 uK v1.toNatClampNeg).toInt (I0 uQ v1.toNatClampNeg).toInt)) → Q r Z' I' L') : ∀ (n : Nat) (v2 : Int32) (v3 : Int32) (Z : jZ) (I : jI) (L : jL), WD Z I → BUD B Z T → FR Ws_X12_findClimb Z0 I0 Z I → CP Z0 Z →   ((-1 ≤ v2.toInt ∧ v2.toInt < v3.toInt ∧ 0 ≤ v3.toInt ∧ v3.toInt ≤ 121 ∧ v2.toInt ≤ (I0 uK v1.toNatClampNeg).toInt ∧ (v2.toInt = -1 ∨ ¬ (I uB v2.toNatClampNeg).toInt = 1000000000)) ∧ MVB (3 * ((I0 v0 0).toInt + 1)) (I0 v0 0).toInt (I uC) (I uE) ∧ DPR (I0 v0 0).toInt (I0 uK v1.toNatClampNeg).toInt (I uC) (I uE) (I uB) (-1) 0 ∧ XT B v0 Z0 I0 (I0 v0 0).toInt (I0 v0 39).toInt (I0 uL v1.toNatClampNeg) (I0 uV v1.toNatClampNeg) v1 (I0 uK v1.toNatClampNeg).toInt (I uC) (I uE) (I uB) ∧ ((v2.toInt = -1 ∧ ∀ e : Nat, (e : Int) < v3.toInt → ¬ (¬ (I uB e).toInt = 1000000000 ∧ (I uB e).toInt / 100 ≤ (I0 uQ v1.toNatClampNeg).toInt)) ∨ (¬ v2.toInt = -1 ∧ GD (I uB) (I0 uK v1.toNatClampNeg).toInt (I0 uQ v1.toNatClampNeg).toInt))) → 121 - v3.toInt < (n : Int) → f_X12_findClimb_L19 B  Q n v0 v1 v2 v3 Z I L := by
  intro n
  induction n with
  | zero =>
    intro v2 v3 Z I L w_I bd_Z q_I cp_Z   li  me
    exfalso
    omega
  | succ n ih =>
    intro v2 v3 Z I L w_I bd_Z q_I cp_Z   li  me
    unfold f_X12_findClimb_L19
    have rv2 := i_rng v2
    have rv3 := i_rng v3
    have rv1 := i_rng v1
    obtain ⟨li0, li1, li2, li3, li4⟩ := li
    have kv0_0 := kv0
    have kv0 := (q_I.1 _ _ kv0).1
    have t37 : 0 ≤ (I v0 0).toInt ∧ (I v0 0).toInt ≤ 24 := w_I.fld 12 0 kv0 (by decide)
    have t38 : 0 ≤ (I v0 43).toInt ∧ (I v0 43).toInt ≤ 24 := w_I.fld 12 43 kv0 (by decide)
    have huC_1 : jr Z v0 37 = some uC := (q_I.2.1 v0 12 37 kv0_0 (by decide) (by decide)).trans huC
    have luC : jlen Z uC = 75 := by obtain ⟨b9, e9, -, l9⟩ := sh_f w_I.1 kv0 (j := 37) (k := 14) (m := 75) rfl; cases huC_1.symm.trans e9; exact l9
    have kuC : jk Z uC 14 := by obtain ⟨b9, e9, k9, -⟩ := sh_f w_I.1 kv0 (j := 37) (k := 14) (m := 75) rfl; cases huC_1.symm.trans e9; exact k9
    have huE_1 : jr Z v0 38 = some uE := (q_I.2.1 v0 12 38 kv0_0 (by decide) (by decide)).trans huE
    have luE : jlen Z uE = 75 := by obtain ⟨b9, e9, -, l9⟩ := sh_f w_I.1 kv0 (j := 38) (k := 14) (m := 75) rfl; cases huE_1.symm.trans e9; exact l9
    have kuE : jk Z uE 14 := by obtain ⟨b9, e9, k9, -⟩ := sh_f w_I.1 kv0 (j := 38) (k := 14) (m := 75) rfl; cases huE_1.symm.trans e9; exact k9
    have huB_1 : jr Z v0 40 = some uB := (q_I.2.1 v0 12 40 kv0_0 (by decide) (by decide)).trans huB
    have luB : jlen Z uB = 25000 := by obtain ⟨b9, e9, -, l9⟩ := sh_f w_I.1 kv0 (j := 40) (k := 14) (m := 25000) rfl; cases huB_1.symm.trans e9; exact l9
    have kuB : jk Z uB 14 := by obtain ⟨b9, e9, k9, -⟩ := sh_f w_I.1 kv0 (j := 40) (k := 14) (m := 25000) rfl; cases huB_1.symm.trans e9; exact k9
    have huK_1 : jr Z v0 9 = some uK := (q_I.2.1 v0 12 9 kv0_0 (by decide) (by decide)).trans huK
    have luK : jlen Z uK = 6 := by obtain ⟨b9, e9, -, l9⟩ := sh_f w_I.1 kv0 (j := 9) (k := 14) (m := 6) rfl; cases huK_1.symm.trans e9; exact l9
    have kuK : jk Z uK 14 := by obtain ⟨b9, e9, k9, -⟩ := sh_f w_I.1 kv0 (j := 9) (k := 14) (m := 6) rfl; cases huK_1.symm.trans e9; exact k9
    have huR_1 : jr Z v0 44 = some uR := (q_I.2.1 v0 12 44 kv0_0 (by decide) (by decide)).trans huR
    have luR : jlen Z uR = 24 := by obtain ⟨b9, e9, -, l9⟩ := sh_f w_I.1 kv0 (j := 44) (k := 14) (m := 24) rfl; cases huR_1.symm.trans e9; exact l9
    have kuR : jk Z uR 14 := by obtain ⟨b9, e9, k9, -⟩ := sh_f w_I.1 kv0 (j := 44) (k := 14) (m := 24) rfl; cases huR_1.symm.trans e9; exact k9
    have huL_1 : jr Z v0 11 = some uL := (q_I.2.1 v0 12 11 kv0_0 (by decide) (by decide)).trans huL
    have luL : jlen Z uL = 6 := by obtain ⟨b9, e9, -, l9⟩ := sh_f w_I.1 kv0 (j := 11) (k := 14) (m := 6) rfl; cases huL_1.symm.trans e9; exact l9
    have kuL : jk Z uL 14 := by obtain ⟨b9, e9, k9, -⟩ := sh_f w_I.1 kv0 (j := 11) (k := 14) (m := 6) rfl; cases huL_1.symm.trans e9; exact k9
    have huV_1 : jr Z v0 13 = some uV := (q_I.2.1 v0 12 13 kv0_0 (by decide) (by decide)).trans huV
    have luV : jlen Z uV = 6 := by obtain ⟨b9, e9, -, l9⟩ := sh_f w_I.1 kv0 (j := 13) (k := 14) (m := 6) rfl; cases huV_1.symm.trans e9; exact l9
    have kuV : jk Z uV 14 := by obtain ⟨b9, e9, k9, -⟩ := sh_f w_I.1 kv0 (j := 13) (k := 14) (m := 6) rfl; cases huV_1.symm.trans e9; exact k9
    have huQ_1 : jr Z v0 10 = some uQ := (q_I.2.1 v0 12 10 kv0_0 (by decide) (by decide)).trans huQ
    have luQ : jlen Z uQ = 6 := by obtain ⟨b9, e9, -, l9⟩ := sh_f w_I.1 kv0 (j := 10) (k := 14) (m := 6) rfl; cases huQ_1.symm.trans e9; exact l9
    have kuQ : jk Z uQ 14 := by obtain ⟨b9, e9, k9, -⟩ := sh_f w_I.1 kv0 (j := 10) (k := 14) (m := 6) rfl; cases huQ_1.symm.trans e9; exact k9
    have xq_I := q_I.1
    have e0 : (I v0 0).toInt = (I0 v0 0).toInt := by rw [q_I.2.2.1 v0 12 0 kv0_0 (by decide) (by decide)]
    have ek : I uK = I0 uK := q_I.2.2.2 v0 12 9 uK kv0_0 huK (by obtain ⟨b9, e9, k9, -⟩ := sh_f w0.1 kv0_0 (j := 9) (k := 14) (m := 6) rfl; cases huK.symm.trans e9; rw [k9.2]; rfl) rfl (by decide)
    have ekv : (I uK v1.toNatClampNeg).toInt = (I0 uK v1.toNatClampNeg).toInt := by rw [ek]
    have okn : 0 ≤ (I uK v1.toNatClampNeg).toInt ∧ (I uK v1.toNatClampNeg).toInt ≤ 120 := w_I.arr 12 9 kv0 huK_1 kuK rfl rfl _
    have eq9 : I uQ = I0 uQ := q_I.2.2.2 v0 12 10 uQ kv0_0 huQ (by obtain ⟨b9, e9, k9, -⟩ := sh_f w0.1 kv0_0 (j := 10) (k := 14) (m := 6) rfl; cases huQ.symm.trans e9; rw [k9.2]; rfl) rfl (by decide)
    have eqv : (I uQ v1.toNatClampNeg).toInt = (I0 uQ v1.toNatClampNeg).toInt := by rw [eq9]
    have h00 : 0 ≤ (I0 v0 0).toInt ∧ (I0 v0 0).toInt ≤ 24 := w0.fld 12 0 kv0_0 (by decide)
    have nv3 := i_nat (x := v3) rfl (by omega)
    intro b39 eb39
    obtain rfl : uK = b39 := Option.some.inj (huK_1.symm.trans eb39)
    have o40 : vp_in v1 6 := vi_of rfl (by omega) (by omega)
    refine ⟨o40, ?_⟩
    have t41 : 0 ≤ (I uK v1.toNatClampNeg).toInt ∧ (I uK v1.toNatClampNeg).toInt ≤ 120 := w_I.arr 12 9 kv0 huK_1 kuK rfl rfl _
    refine ⟨fun c42 => ?_, fun c42 => ?_⟩
    · skip
      first | (have t43 : (I uK v1.toNatClampNeg).toInt < v3.toInt := (i_lt rfl rfl).mp c42) | (have t43 : (I uK v1.toNatClampNeg).toInt < v3.toInt := (i_lt rfl rfl).mp c42) | skip
      refine ⟨fun c44 => ?_, fun c44 => ?_⟩
      · skip
        first | (have t45 : ¬ (v2.toInt = (-1)) := (not_congr (i_eq rfl (show (-1 : Int32).toInt = -1 from rfl))).mp c44) | (have t45 : ¬ (v2.toInt = (-1 : Int32).toInt) := (not_congr (i_eq rfl rfl)).mp c44) | skip
        intro b46 eb46
        obtain rfl : uB = b46 := Option.some.inj (huB_1.symm.trans eb46)
        have o47 : vp_in v2 25000 := vi_of rfl (by omega) (by omega)
        refine ⟨o47, ?_⟩
        intro I48 eI48
        try (have t49 : ((I uB v2.toNatClampNeg) / (100 : Int32)).toInt = ((I uB v2.toNatClampNeg).toInt / (100)) := (i_div rfl (show (100 : Int32).toInt = 100 from rfl) (by omega) (by omega)))
        have w_I48 : WD Z I48 := by rw [eI48]; exact WD_putF w_I 12 41 kv0 (by decide) (by decide) trivial
        have f_I48 : FR [(12, 41)] Z I Z I48 := by rw [eI48]; exact FR_putF kv0 (by decide) List.mem_cons_self
        have q_I48 : FR Ws_X12_findClimb Z0 I0 Z I48 := q_I.trans w0.1 w0.2.1 (f_I48.mono (by decide))
        have ao_I48_uC : I48 uC = I uC := f_I48.2.2.2 v0 12 37 uC kv0 huC_1 (by rw [kuC.2]; rfl) rfl (by decide)
        have ao_I48_uE : I48 uE = I uE := f_I48.2.2.2 v0 12 38 uE kv0 huE_1 (by rw [kuE.2]; rfl) rfl (by decide)
        have ao_I48_uB : I48 uB = I uB := f_I48.2.2.2 v0 12 40 uB kv0 huB_1 (by rw [kuB.2]; rfl) rfl (by decide)
        have ao_I48_uR : I48 uR = I uR := f_I48.2.2.2 v0 12 44 uR kv0 huR_1 (by rw [kuR.2]; rfl) rfl (by decide)
        have u50 : (I48 uK (v1.toNatClampNeg)).toInt = (I uK (v1.toNatClampNeg)).toInt := by rw [f_I48.2.2.2 v0 12 9 uK kv0 huK_1 (by rw [kuK.2]; rfl) rfl (by decide)]
        have u51 : (I48 v0 0).toInt = (I v0 0).toInt := by rw [f_I48.2.2.1 v0 12 0 kv0 (by decide) (by decide)]
        have u52 : (I48 v0 43).toInt = (I v0 43).toInt := by rw [f_I48.2.2.1 v0 12 43 kv0 (by decide) (by decide)]
        first | (have u53 : (I48 v0 41).toInt = ((I uB v2.toNatClampNeg).toInt / (100)) := by (rw [eI48, show jpI I v0 41 ((I uB v2.toNatClampNeg) / (100 : Int32)) v0 41 = ((I uB v2.toNatClampNeg) / (100 : Int32)) from jpI_at] <;> exact (i_div rfl (show (100 : Int32).toInt = 100 from rfl) (by omega) (by omega)))) | skip
        intro I54 eI54
        have w_I54 : WD Z I54 := by rw [eI54]; exact WD_putF w_I48 12 42 kv0 (by decide) (by decide) trivial
        have f_I54 : FR [(12, 42)] Z I48 Z I54 := by rw [eI54]; exact FR_putF kv0 (by decide) List.mem_cons_self
        have q_I54 : FR Ws_X12_findClimb Z0 I0 Z I54 := q_I48.trans w0.1 w0.2.1 (f_I54.mono (by decide))
        have ao_I54_uC : I54 uC = I uC := (f_I54.2.2.2 v0 12 37 uC kv0 huC_1 (by rw [kuC.2]; rfl) rfl (by decide)).trans ao_I48_uC
        have ao_I54_uE : I54 uE = I uE := (f_I54.2.2.2 v0 12 38 uE kv0 huE_1 (by rw [kuE.2]; rfl) rfl (by decide)).trans ao_I48_uE
        have ao_I54_uB : I54 uB = I uB := (f_I54.2.2.2 v0 12 40 uB kv0 huB_1 (by rw [kuB.2]; rfl) rfl (by decide)).trans ao_I48_uB
        have ao_I54_uR : I54 uR = I uR := (f_I54.2.2.2 v0 12 44 uR kv0 huR_1 (by rw [kuR.2]; rfl) rfl (by decide)).trans ao_I48_uR
        have u55 : (I54 uK (v1.toNatClampNeg)).toInt = (I48 uK (v1.toNatClampNeg)).toInt := by rw [f_I54.2.2.2 v0 12 9 uK kv0 huK_1 (by rw [kuK.2]; rfl) rfl (by decide)]
        have u56 : (I54 v0 0).toInt = (I48 v0 0).toInt := by rw [f_I54.2.2.1 v0 12 0 kv0 (by decide) (by decide)]
        have u57 : (I54 v0 43).toInt = (I48 v0 43).toInt := by rw [f_I54.2.2.1 v0 12 43 kv0 (by decide) (by decide)]
        have u58 : (I54 v0 41).toInt = (I48 v0 41).toInt := by rw [f_I54.2.2.1 v0 12 41 kv0 (by decide) (by decide)]
        first | (have u59 : (I54 v0 42).toInt = v2.toInt := by (rw [eI54, show jpI I48 v0 42 v2 v0 42 = v2 from jpI_at] <;> exact rfl)) | skip
        intro I60 eI60
        have t61 : (0 : Int32).toInt = 0 := rfl
        have w_I60 : WD Z I60 := by rw [eI60]; exact WD_putF w_I54 12 43 kv0 (by decide) (by decide) (by constructor <;> omega)
        have f_I60 : FR [(12, 43)] Z I54 Z I60 := by rw [eI60]; exact FR_putF kv0 (by decide) List.mem_cons_self
        have q_I60 : FR Ws_X12_findClimb Z0 I0 Z I60 := q_I54.trans w0.1 w0.2.1 (f_I60.mono (by decide))
        have ao_I60_uC : I60 uC = I uC := (f_I60.2.2.2 v0 12 37 uC kv0 huC_1 (by rw [kuC.2]; rfl) rfl (by decide)).trans ao_I54_uC
        have ao_I60_uE : I60 uE = I uE := (f_I60.2.2.2 v0 12 38 uE kv0 huE_1 (by rw [kuE.2]; rfl) rfl (by decide)).trans ao_I54_uE
        have ao_I60_uB : I60 uB = I uB := (f_I60.2.2.2 v0 12 40 uB kv0 huB_1 (by rw [kuB.2]; rfl) rfl (by decide)).trans ao_I54_uB
        have ao_I60_uR : I60 uR = I uR := (f_I60.2.2.2 v0 12 44 uR kv0 huR_1 (by rw [kuR.2]; rfl) rfl (by decide)).trans ao_I54_uR
        have u62 : (I60 uK (v1.toNatClampNeg)).toInt = (I54 uK (v1.toNatClampNeg)).toInt := by rw [f_I60.2.2.2 v0 12 9 uK kv0 huK_1 (by rw [kuK.2]; rfl) rfl (by decide)]
        have u63 : (I60 v0 0).toInt = (I54 v0 0).toInt := by rw [f_I60.2.2.1 v0 12 0 kv0 (by decide) (by decide)]
        have u64 : (I60 v0 41).toInt = (I54 v0 41).toInt := by rw [f_I60.2.2.1 v0 12 41 kv0 (by decide) (by decide)]
        have u65 : (I60 v0 42).toInt = (I54 v0 42).toInt := by rw [f_I60.2.2.1 v0 12 42 kv0 (by decide) (by decide)]
        first | (have u66 : (I60 v0 43).toInt = (0) := by (rw [eI60, show jpI I54 v0 43 (0 : Int32) v0 43 = (0 : Int32) from jpI_at] <;> exact (show (0 : Int32).toInt = 0 from rfl))) | skip
        have t67 : (-1 : Int32).toInt = -1 := rfl
        exact ⟨(24 - (-1 : Int32).toInt).toNat + 1, l9_X12_findClimb_L131 w0 v0 v1 kv0_0 uC huC uE huE uB huB uK huK uR huR uL huL uV huV uQ huQ p0 p1   hQ   _ (-1 : Int32) v2 Z I60 L w_I60 bd_Z q_I60 cp_Z   (by have hcr : CRP (I60 uR) (I60 v0 43).toInt (-1 : Int32).toInt := (by rw [show (I60 v0 43).toInt = 0 by omega]; exact CRP.zero); rw [ao_I60_uC, ao_I60_uE, ao_I60_uB]; have hv2 := i_nat (x := v2) rfl (by omega); have e7 : (1000 * ((-1 : Int32).toInt + 1) + v2.toInt).toNat = v2.toNatClampNeg := (by omega); rw [e7]; exact ⟨by omega, li1, li2, hcr, (XT.fc li3 (by omega)).mp (li4.resolve_left (fun h => by omega)).2⟩)  (by omega)⟩
      · skip
        first | (have t68 : v2.toInt = (-1) := (i_eq rfl (show (-1 : Int32).toInt = -1 from rfl)).mp c44) | (have t68 : v2.toInt = (-1 : Int32).toInt := (i_eq rfl rfl).mp c44) | skip
        have t69 : (0 : Int32).toInt = 0 := rfl
        exact hQ (0 : Int32) Z I L w_I bd_Z q_I cp_Z (by refine ⟨Or.inl rfl, fun h => absurd h (by decide), fun h => ?_⟩; exfalso; rcases li4 with ⟨a1, a2⟩ | ⟨a1, a2⟩; (obtain ⟨e, g1, g2, g3⟩ := (XT.fc li3 (by omega)).mpr h; exact a2 e (by omega) ⟨g2, g3⟩); (omega))
    · skip
      first | (have t70 : ¬ ((I uK v1.toNatClampNeg).toInt < v3.toInt) := (not_congr (i_lt rfl rfl)).mp c42) | (have t70 : ¬ ((I uK v1.toNatClampNeg).toInt < v3.toInt) := (not_congr (i_lt rfl rfl)).mp c42) | skip
      intro b71 eb71
      obtain rfl : uB = b71 := Option.some.inj (huB_1.symm.trans eb71)
      have o72 : vp_in v3 25000 := vi_of rfl (by omega) (by omega)
      refine ⟨o72, ?_⟩
      refine ⟨fun c73 => ?_, fun c73 => ?_⟩
      · skip
        first | (have t74 : (I uB v3.toNatClampNeg).toInt = (1000000000) := (i_eq rfl (show (1000000000 : Int32).toInt = 1000000000 from rfl)).mp c73) | (have t74 : (I uB v3.toNatClampNeg).toInt = (1000000000 : Int32).toInt := (i_eq rfl rfl).mp c73) | skip
        unfold f_X12_findClimb_b90
        intro x75 ex75
        have rx75 := i_rng x75
        first | (have tx75 : x75.toInt = v3.toInt + (1) := by (rw [ex75]; exact (i_add rfl (show (1 : Int32).toInt = 1 from rfl) (by omega) (by omega)))) | skip
        exact ih v2 x75 Z I L w_I bd_Z q_I cp_Z   (by refine ⟨by omega, li1, li2, li3, ?_⟩; first | exact Or.inr ⟨by omega, v3.toNatClampNeg, by omega, by omega, by omega⟩ | (rcases li4 with ⟨a1, a2⟩ | ⟨a1, a2⟩; (refine Or.inl ⟨by omega, fun e he => ?_⟩; by_cases e9 : e = v3.toNatClampNeg; (subst e9; omega); exact a2 e (by omega)); exact Or.inr ⟨by omega, a2⟩))  (by omega)
      · skip
        first | (have t76 : ¬ ((I uB v3.toNatClampNeg).toInt = (1000000000)) := (not_congr (i_eq rfl (show (1000000000 : Int32).toInt = 1000000000 from rfl))).mp c73) | (have t76 : ¬ ((I uB v3.toNatClampNeg).toInt = (1000000000 : Int32).toInt) := (not_congr (i_eq rfl rfl)).mp c73) | skip
        have hb0 : 0 ≤ (I uB v3.toNatClampNeg).toInt := DPR.nn li2 (by omega) (by omega)
        intro b77 eb77
        obtain rfl : uB = b77 := Option.some.inj (huB_1.symm.trans eb77)
        have o78 : vp_in v3 25000 := vi_of rfl (by omega) (by omega)
        refine ⟨o78, ?_⟩
        intro b79 eb79
        obtain rfl : uQ = b79 := Option.some.inj (huQ_1.symm.trans eb79)
        have o80 : vp_in v1 6 := vi_of rfl (by omega) (by omega)
        refine ⟨o80, ?_⟩
        have t81 : 0 ≤ (I uQ v1.toNatClampNeg).toInt ∧ (I uQ v1.toNatClampNeg).toInt ≤ 999 := w_I.arr 12 10 kv0 huQ_1 kuQ rfl rfl _
        refine ⟨fun c82 => ?_, fun c82 => ?_⟩
        · skip
          first | (have t83 : ((I uB v3.toNatClampNeg).toInt / (100)) ≤ (I uQ v1.toNatClampNeg).toInt := (i_le (i_div rfl (show (100 : Int32).toInt = 100 from rfl) (by omega) (by omega)) rfl).mp c82) | (have t83 : ((I uB v3.toNatClampNeg) / (100 : Int32)).toInt ≤ (I uQ v1.toNatClampNeg).toInt := (i_le rfl rfl).mp c82) | skip
          refine ⟨fun c84 => ?_, fun c84 => ?_⟩
          · skip
            first | (have t85 : v2.toInt = (-1) := (i_eq rfl (show (-1 : Int32).toInt = -1 from rfl)).mp c84) | (have t85 : v2.toInt = (-1 : Int32).toInt := (i_eq rfl rfl).mp c84) | skip
            unfold f_X12_findClimb_b88
            unfold f_X12_findClimb_b90
            intro x86 ex86
            have rx86 := i_rng x86
            first | (have tx86 : x86.toInt = v3.toInt + (1) := by (rw [ex86]; exact (i_add rfl (show (1 : Int32).toInt = 1 from rfl) (by omega) (by omega)))) | skip
            exact ih v3 x86 Z I L w_I bd_Z q_I cp_Z   (by refine ⟨by omega, li1, li2, li3, ?_⟩; first | exact Or.inr ⟨by omega, v3.toNatClampNeg, by omega, by omega, by omega⟩ | (rcases li4 with ⟨a1, a2⟩ | ⟨a1, a2⟩; (refine Or.inl ⟨by omega, fun e he => ?_⟩; by_cases e9 : e = v3.toNatClampNeg; (subst e9; omega); exact a2 e (by omega)); exact Or.inr ⟨by omega, a2⟩))  (by omega)
          · skip
            first | (have t87 : ¬ (v2.toInt = (-1)) := (not_congr (i_eq rfl (show (-1 : Int32).toInt = -1 from rfl))).mp c84) | (have t87 : ¬ (v2.toInt = (-1 : Int32).toInt) := (not_congr (i_eq rfl rfl)).mp c84) | skip
            intro b88 eb88
            obtain rfl : uB = b88 := Option.some.inj (huB_1.symm.trans eb88)
            have o89 : vp_in v3 25000 := vi_of rfl (by omega) (by omega)
            refine ⟨o89, ?_⟩
            intro b90 eb90
            obtain rfl : uB = b90 := Option.some.inj (huB_1.symm.trans eb90)
            have o91 : vp_in v2 25000 := vi_of rfl (by omega) (by omega)
            refine ⟨o91, ?_⟩
            refine ⟨fun c92 => ?_, fun c92 => ?_⟩
            · skip
              first | (have t93 : ((I uB v2.toNatClampNeg).toInt / (100)) ≤ ((I uB v3.toNatClampNeg).toInt / (100)) := (i_le (i_div rfl (show (100 : Int32).toInt = 100 from rfl) (by omega) (by omega)) (i_div rfl (show (100 : Int32).toInt = 100 from rfl) (by omega) (by omega))).mp c92) | (have t93 : ((I uB v2.toNatClampNeg) / (100 : Int32)).toInt ≤ ((I uB v3.toNatClampNeg) / (100 : Int32)).toInt := (i_le rfl rfl).mp c92) | skip
              unfold f_X12_findClimb_b90
              intro x94 ex94
              have rx94 := i_rng x94
              first | (have tx94 : x94.toInt = v3.toInt + (1) := by (rw [ex94]; exact (i_add rfl (show (1 : Int32).toInt = 1 from rfl) (by omega) (by omega)))) | skip
              exact ih v2 x94 Z I L w_I bd_Z q_I cp_Z   (by refine ⟨by omega, li1, li2, li3, ?_⟩; first | exact Or.inr ⟨by omega, v3.toNatClampNeg, by omega, by omega, by omega⟩ | (rcases li4 with ⟨a1, a2⟩ | ⟨a1, a2⟩; (refine Or.inl ⟨by omega, fun e he => ?_⟩; by_cases e9 : e = v3.toNatClampNeg; (subst e9; omega); exact a2 e (by omega)); exact Or.inr ⟨by omega, a2⟩))  (by omega)
            · skip
              first | (have t95 : ¬ (((I uB v2.toNatClampNeg).toInt / (100)) ≤ ((I uB v3.toNatClampNeg).toInt / (100))) := (not_congr (i_le (i_div rfl (show (100 : Int32).toInt = 100 from rfl) (by omega) (by omega)) (i_div rfl (show (100 : Int32).toInt = 100 from rfl) (by omega) (by omega)))).mp c92) | (have t95 : ¬ (((I uB v2.toNatClampNeg) / (100 : Int32)).toInt ≤ ((I uB v3.toNatClampNeg) / (100 : Int32)).toInt) := (not_congr (i_le rfl rfl)).mp c92) | skip
              unfold f_X12_findClimb_b88
              unfold f_X12_findClimb_b90
              intro x96 ex96
              have rx96 := i_rng x96
              first | (have tx96 : x96.toInt = v3.toInt + (1) := by (rw [ex96]; exact (i_add rfl (show (1 : Int32).toInt = 1 from rfl) (by omega) (by omega)))) | skip
              exact ih v3 x96 Z I L w_I bd_Z q_I cp_Z   (by refine ⟨by omega, li1, li2, li3, ?_⟩; first | exact Or.inr ⟨by omega, v3.toNatClampNeg, by omega, by omega, by omega⟩ | (rcases li4 with ⟨a1, a2⟩ | ⟨a1, a2⟩; (refine Or.inl ⟨by omega, fun e he => ?_⟩; by_cases e9 : e = v3.toNatClampNeg; (subst e9; omega); exact a2 e (by omega)); exact Or.inr ⟨by omega, a2⟩))  (by omega)
        · skip
          first | (have t97 : ¬ (((I uB v3.toNatClampNeg).toInt / (100)) ≤ (I uQ v1.toNatClampNeg).toInt) := (not_congr (i_le (i_div rfl (show (100 : Int32).toInt = 100 from rfl) (by omega) (by omega)) rfl)).mp c82) | (have t97 : ¬ (((I uB v3.toNatClampNeg) / (100 : Int32)).toInt ≤ (I uQ v1.toNatClampNeg).toInt) := (not_congr (i_le rfl rfl)).mp c82) | skip
          unfold f_X12_findClimb_b90
          intro x98 ex98
          have rx98 := i_rng x98
          first | (have tx98 : x98.toInt = v3.toInt + (1) := by (rw [ex98]; exact (i_add rfl (show (1 : Int32).toInt = 1 from rfl) (by omega) (by omega)))) | skip
          exact ih v2 x98 Z I L w_I bd_Z q_I cp_Z   (by refine ⟨by omega, li1, li2, li3, ?_⟩; first | exact Or.inr ⟨by omega, v3.toNatClampNeg, by omega, by omega, by omega⟩ | (rcases li4 with ⟨a1, a2⟩ | ⟨a1, a2⟩; (refine Or.inl ⟨by omega, fun e he => ?_⟩; by_cases e9 : e = v3.toNatClampNeg; (subst e9; omega); exact a2 e (by omega)); exact Or.inr ⟨by omega, a2⟩))  (by omega)
set_option maxHeartbeats 4000000 in
set_option maxRecDepth 100000 in
theorem s9_X12_findClimb {B : Nat × Nat} {T : Nat} {Z : jZ} {I : jI} {L : jL} (w_I : WD Z I) (bd_Z : BUD B Z T) (v0 : Nat) (v1 : Int32) (kv0 : jk Z v0 12) (uC : Nat) (huC : jr Z v0 37 = some uC) (uE : Nat) (huE : jr Z v0 38 = some uE) (uB : Nat) (huB : jr Z v0 40 = some uB) (uK : Nat) (huK : jr Z v0 9 = some uK) (uR : Nat) (huR : jr Z v0 44 = some uR) (uL : Nat) (huL : jr Z v0 11 = some uL) (uV : Nat) (huV : jr Z v0 13 = some uV) (uQ : Nat) (huQ : jr Z v0 10 = some uQ) (p0 : 0 ≤ v1.toInt ∧ v1.toInt ≤ 5) (p1 : 1 ≤ (I v0 0).toInt) {Q : Int32 → jZ → jI → jL → Prop} (hQ : ∀ (r : Int32) (Z' : jZ) (I' : jI) (L' : jL), WD Z' I' → BUD B Z' T → FR Ws_X12_findClimb Z I Z' I' → CP Z Z' → ((r.toInt = 0 ∨ (r.toInt = 1 ∧ CRP (I' uR) (I' v0 43).toInt ((I' v0 0).toInt - 1))) ∧ (r.toInt = 1 ↔ FCv B v0 Z I (I v0 0).toInt (I v0 39).toInt (I uL v1.toNatClampNeg) (I uV v1.toNatClampNeg) v1 (I uK v1.toNatClampNeg).toInt (I uQ v1.toNatClampNeg).toInt)) → Q r Z' I' L') : f_X12_findClimb B v0 v1 Z I L Q := by
  unfold f_X12_findClimb
  have q_I : FR Ws_X12_findClimb Z I Z I := FR.rf
  have cp_Z : CP Z Z := CP.rf
  have rv1 := i_rng v1
  have t99 : 0 ≤ (I v0 0).toInt ∧ (I v0 0).toInt ≤ 24 := w_I.fld 12 0 kv0 (by decide)
  have t100 : 0 ≤ (I v0 43).toInt ∧ (I v0 43).toInt ≤ 24 := w_I.fld 12 43 kv0 (by decide)
  have luC : jlen Z uC = 75 := by obtain ⟨b9, e9, -, l9⟩ := sh_f w_I.1 kv0 (j := 37) (k := 14) (m := 75) rfl; cases huC.symm.trans e9; exact l9
  have kuC : jk Z uC 14 := by obtain ⟨b9, e9, k9, -⟩ := sh_f w_I.1 kv0 (j := 37) (k := 14) (m := 75) rfl; cases huC.symm.trans e9; exact k9
  have luE : jlen Z uE = 75 := by obtain ⟨b9, e9, -, l9⟩ := sh_f w_I.1 kv0 (j := 38) (k := 14) (m := 75) rfl; cases huE.symm.trans e9; exact l9
  have kuE : jk Z uE 14 := by obtain ⟨b9, e9, k9, -⟩ := sh_f w_I.1 kv0 (j := 38) (k := 14) (m := 75) rfl; cases huE.symm.trans e9; exact k9
  have luB : jlen Z uB = 25000 := by obtain ⟨b9, e9, -, l9⟩ := sh_f w_I.1 kv0 (j := 40) (k := 14) (m := 25000) rfl; cases huB.symm.trans e9; exact l9
  have kuB : jk Z uB 14 := by obtain ⟨b9, e9, k9, -⟩ := sh_f w_I.1 kv0 (j := 40) (k := 14) (m := 25000) rfl; cases huB.symm.trans e9; exact k9
  have luK : jlen Z uK = 6 := by obtain ⟨b9, e9, -, l9⟩ := sh_f w_I.1 kv0 (j := 9) (k := 14) (m := 6) rfl; cases huK.symm.trans e9; exact l9
  have kuK : jk Z uK 14 := by obtain ⟨b9, e9, k9, -⟩ := sh_f w_I.1 kv0 (j := 9) (k := 14) (m := 6) rfl; cases huK.symm.trans e9; exact k9
  have luR : jlen Z uR = 24 := by obtain ⟨b9, e9, -, l9⟩ := sh_f w_I.1 kv0 (j := 44) (k := 14) (m := 24) rfl; cases huR.symm.trans e9; exact l9
  have kuR : jk Z uR 14 := by obtain ⟨b9, e9, k9, -⟩ := sh_f w_I.1 kv0 (j := 44) (k := 14) (m := 24) rfl; cases huR.symm.trans e9; exact k9
  have luL : jlen Z uL = 6 := by obtain ⟨b9, e9, -, l9⟩ := sh_f w_I.1 kv0 (j := 11) (k := 14) (m := 6) rfl; cases huL.symm.trans e9; exact l9
  have kuL : jk Z uL 14 := by obtain ⟨b9, e9, k9, -⟩ := sh_f w_I.1 kv0 (j := 11) (k := 14) (m := 6) rfl; cases huL.symm.trans e9; exact k9
  have luV : jlen Z uV = 6 := by obtain ⟨b9, e9, -, l9⟩ := sh_f w_I.1 kv0 (j := 13) (k := 14) (m := 6) rfl; cases huV.symm.trans e9; exact l9
  have kuV : jk Z uV 14 := by obtain ⟨b9, e9, k9, -⟩ := sh_f w_I.1 kv0 (j := 13) (k := 14) (m := 6) rfl; cases huV.symm.trans e9; exact k9
  have luQ : jlen Z uQ = 6 := by obtain ⟨b9, e9, -, l9⟩ := sh_f w_I.1 kv0 (j := 10) (k := 14) (m := 6) rfl; cases huQ.symm.trans e9; exact l9
  have kuQ : jk Z uQ 14 := by obtain ⟨b9, e9, k9, -⟩ := sh_f w_I.1 kv0 (j := 10) (k := 14) (m := 6) rfl; cases huQ.symm.trans e9; exact k9
  refine s9_X12_layMoves w_I bd_Z v0 v1 kv0 uC huC uE huE uL huL uV huV (by omega) (fun  Z104 I102 L103 w_I102 bd_Z104 f_I102 c_Z104 p101 => ?_)
  have q_I102 : FR Ws_X12_findClimb Z I Z104 I102 := q_I.trans w_I.1 w_I.2.1 (f_I102.mono (by decide))
  have cp_Z104 : CP Z Z104 := cp_Z.trans q_I.1 c_Z104
  have x_Z104 := f_I102.1
  have k105 := (f_I102.1 _ _ kv0).1
  have k106 := (f_I102.1 _ _ kuC).1
  have l107 := (f_I102.1 _ _ kuC).2.trans luC
  have k108 := (f_I102.1 _ _ kv0).1
  have e109 := (f_I102.2.1 v0 12 37 kv0 (by decide) (by decide)).trans huC
  have k110 := (f_I102.1 _ _ kuE).1
  have l111 := (f_I102.1 _ _ kuE).2.trans luE
  have k112 := (f_I102.1 _ _ kv0).1
  have e113 := (f_I102.2.1 v0 12 38 kv0 (by decide) (by decide)).trans huE
  have k114 := (f_I102.1 _ _ kuB).1
  have l115 := (f_I102.1 _ _ kuB).2.trans luB
  have k116 := (f_I102.1 _ _ kv0).1
  have e117 := (f_I102.2.1 v0 12 40 kv0 (by decide) (by decide)).trans huB
  have k118 := (f_I102.1 _ _ kuK).1
  have l119 := (f_I102.1 _ _ kuK).2.trans luK
  have k120 := (f_I102.1 _ _ kv0).1
  have e121 := (f_I102.2.1 v0 12 9 kv0 (by decide) (by decide)).trans huK
  have k122 := (f_I102.1 _ _ kuR).1
  have l123 := (f_I102.1 _ _ kuR).2.trans luR
  have k124 := (f_I102.1 _ _ kv0).1
  have e125 := (f_I102.2.1 v0 12 44 kv0 (by decide) (by decide)).trans huR
  have k126 := (f_I102.1 _ _ kuL).1
  have l127 := (f_I102.1 _ _ kuL).2.trans luL
  have k128 := (f_I102.1 _ _ kv0).1
  have e129 := (f_I102.2.1 v0 12 11 kv0 (by decide) (by decide)).trans huL
  have k130 := (f_I102.1 _ _ kuV).1
  have l131 := (f_I102.1 _ _ kuV).2.trans luV
  have k132 := (f_I102.1 _ _ kv0).1
  have e133 := (f_I102.2.1 v0 12 13 kv0 (by decide) (by decide)).trans huV
  have k134 := (f_I102.1 _ _ kuQ).1
  have l135 := (f_I102.1 _ _ kuQ).2.trans luQ
  have k136 := (f_I102.1 _ _ kv0).1
  have e137 := (f_I102.2.1 v0 12 10 kv0 (by decide) (by decide)).trans huQ
  have ao_I102_uB : I102 uB = I uB := f_I102.2.2.2 v0 12 40 uB kv0 huB (by rw [kuB.2]; rfl) rfl (by decide)
  have ao_I102_uR : I102 uR = I uR := f_I102.2.2.2 v0 12 44 uR kv0 huR (by rw [kuR.2]; rfl) rfl (by decide)
  have u138 : (I102 v0 0).toInt = (I v0 0).toInt := by rw [f_I102.2.2.1 v0 12 0 kv0 (by decide) (by decide)]
  have u139 : (I102 v0 43).toInt = (I v0 43).toInt := by rw [f_I102.2.2.1 v0 12 43 kv0 (by decide) (by decide)]
  intro b140 eb140
  obtain rfl : uK = b140 := Option.some.inj (e121.symm.trans eb140)
  have o141 : vp_in v1 6 := vi_of rfl (by omega) (by omega)
  refine ⟨o141, ?_⟩
  have t142 : 0 ≤ (I102 uK v1.toNatClampNeg).toInt ∧ (I102 uK v1.toNatClampNeg).toInt ≤ 120 := w_I102.arr 12 9 k120 e121 k118 rfl rfl _
  refine s9_X12_findByEffort w_I102 v0 (I102 uK v1.toNatClampNeg) k105 uC e109 uE e113 uB e117 (p101).1 (by omega) (fun  I144 L145 w_I144 f_I144 p143 => ?_)
  have q_I144 : FR Ws_X12_findClimb Z I Z104 I144 := q_I102.trans w_I.1 w_I.2.1 (f_I144.mono (by decide))
  have ao_I144_uR : I144 uR = I uR := (f_I144.2.2.2 v0 12 44 uR k124 e125 (by rw [k122.2]; rfl) rfl (by decide)).trans ao_I102_uR
  have u146 : (I144 uK (v1.toNatClampNeg)).toInt = (I102 uK (v1.toNatClampNeg)).toInt := by rw [f_I144.2.2.2 v0 12 9 uK k120 e121 (by rw [k118.2]; rfl) rfl (by decide)]
  have u147 : (I144 v0 0).toInt = (I102 v0 0).toInt := by rw [f_I144.2.2.1 v0 12 0 k105 (by decide) (by decide)]
  have u148 : (I144 v0 43).toInt = (I102 v0 43).toInt := by rw [f_I144.2.2.1 v0 12 43 k105 (by decide) (by decide)]
  have t149 : (-1 : Int32).toInt = -1 := rfl
  have t150 : (0 : Int32).toInt = 0 := rfl
  exact ⟨(121 - (0 : Int32).toInt).toNat + 1, l9_X12_findClimb_L19 w_I v0 v1 kv0 uC huC uE huE uB huB uK huK uR huR uL huL uV huV uQ huQ p0 p1   hQ   _ (-1 : Int32) (0 : Int32) Z104 I144 L145 w_I144 bd_Z104 q_I144 cp_Z104   (by have ec : I144 uC = I102 uC := f_I144.2.2.2 v0 12 37 uC k105 e109 (by rw [k106.2]; rfl) rfl (by decide); have ee : I144 uE = I102 uE := f_I144.2.2.2 v0 12 38 uE k105 e113 (by rw [k110.2]; rfl) rfl (by decide); have u121K : (I102 uK v1.toNatClampNeg).toInt = (I uK v1.toNatClampNeg).toInt := (by rw [f_I102.2.2.2 v0 12 9 uK kv0 huK (by rw [kuK.2]; rfl) rfl (by decide)]); have pa9 := p101; have pb9 := p143; rw [u138] at pa9; rw [u138, u121K] at pb9; rw [ec, ee]; exact ⟨by omega, pa9.1, pb9.1, ⟨pa9.2, pa9.1, pb9.1, pb9.2⟩, Or.inl ⟨by omega, fun e he => absurd he (by omega)⟩⟩)  (by omega)⟩
end
section
/-! ===== how many can climb: a function of what is told ===== -/
theorem jpI_ow {I : jI} {a i : Nat} {x y : Int32} : jpI (jpI I a i x) a i y = jpI I a i y := by
  funext b q
  by_cases hb : b = a
  · subst hb
    by_cases hq : q = i
    · subst hq; rw [jpI_at, jpI_at]
    · rw [jpI_off hq, jpI_off hq, jpI_off hq]
  · rw [jpI_ne hb, jpI_ne hb, jpI_ne hb]
theorem jpI_id {I : jI} {a i : Nat} {x : Int32} (h : I a i = x) : jpI I a i x = I := by
  funext b q
  by_cases hb : b = a
  · subst hb
    by_cases hq : q = i
    · subst hq; rw [jpI_at, h]
    · rw [jpI_off hq]
  · rw [jpI_ne hb]
theorem jpI_cong {I J : jI} {a b i : Nat} {x : Int32} (ha : J a = I a) (hb : J b = I b) : jpI J a i x b = jpI I a i x b := by
  funext q
  by_cases e : b = a
  · subst e
    by_cases hq : q = i
    · subst hq; rw [jpI_at, jpI_at]
    · rw [jpI_off hq, jpI_off hq, ha]
  · rw [jpI_ne e, jpI_ne e, hb]
/-- whether pilgrim p has a climb -/
def FCi (B : Nat × Nat) (v0 : Nat) (Z : jZ) (I : jI) (p : Int32) : Prop := ∃ uK uQ uL uV : Nat, jr Z v0 9 = some uK ∧ jr Z v0 10 = some uQ ∧ jr Z v0 11 = some uL ∧ jr Z v0 13 = some uV ∧
  FCv B v0 Z I (I v0 0).toInt (I v0 39).toInt (I uL p.toNatClampNeg) (I uV p.toNatClampNeg) p (I uK p.toNatClampNeg).toInt (I uQ p.toNatClampNeg).toInt
theorem FCi.iff {B : Nat × Nat} {v0 : Nat} {Z : jZ} {I : jI} {p : Int32} {uK uQ uL uV : Nat} (hK : jr Z v0 9 = some uK) (hQ : jr Z v0 10 = some uQ) (hL : jr Z v0 11 = some uL) (hV : jr Z v0 13 = some uV) :
    FCi B v0 Z I p ↔ FCv B v0 Z I (I v0 0).toInt (I v0 39).toInt (I uL p.toNatClampNeg) (I uV p.toNatClampNeg) p (I uK p.toNatClampNeg).toInt (I uQ p.toNatClampNeg).toInt := by
  refine ⟨fun ⟨a, b, c, d, e1, e2, e3, e4, h⟩ => ?_, fun h => ⟨uK, uQ, uL, uV, hK, hQ, hL, hV, h⟩⟩
  cases hK.symm.trans e1; cases hQ.symm.trans e2; cases hL.symm.trans e3; cases hV.symm.trans e4
  exact h
def SAME (v0 : Nat) (Z : jZ) (I : jI) (ZJ : jZ) (J : jI) : Prop := A0 False v0 Z I jL0 ZJ J jL0 ∧ (∀ j, j ∈ ([0, 8, 39] : List Nat) → J v0 j = I v0 j) ∧ (∀ j, j ∈ ([9, 10] : List Nat) → ∃ b, jr Z v0 j = some b ∧ jr ZJ v0 j = some b ∧ b ≠ v0 ∧ J b = I b)
def SMW : List (Nat × Nat) := [(12, 0), (12, 8), (12, 39), (12, 9), (12, 10)] ++ A0W
theorem SAME_FR {W : List (Nat × Nat)} {v0 : Nat} {Z Z' : jZ} {I I' : jI} (w : WD Z I) (k : jk Z v0 12) (q : FR W Z I Z' I') (hW : ∀ p ∈ SMW, p ∉ W) : SAME v0 Z I Z' I' := by
  refine ⟨A0_FR w k q (fun p hp => hW p (List.mem_append_right _ hp)) (fun e => e.elim), fun j hj => ?_, fun j hj => ?_⟩
  · simp only [List.mem_cons, List.not_mem_nil, or_false] at hj
    rcases hj with rfl | rfl | rfl
    · exact q.2.2.1 v0 12 0 k (by decide) (hW _ (by decide))
    · exact q.2.2.1 v0 12 8 k (by decide) (hW _ (by decide))
    · exact q.2.2.1 v0 12 39 k (by decide) (hW _ (by decide))
  · simp only [List.mem_cons, List.not_mem_nil, or_false] at hj
    rcases hj with rfl | rfl
    · obtain ⟨b, e, kb, -⟩ := sh_f w.1 k (j := 9) (k := 14) (m := 6) rfl
      exact ⟨b, e, (q.2.1 v0 12 9 k (by decide) (by decide)).trans e, (fun h => by subst h; cases kb.2.symm.trans k.2), q.2.2.2 v0 12 9 b k e (by rw [kb.2]; rfl) rfl (hW _ (by decide))⟩
    · obtain ⟨b, e, kb, -⟩ := sh_f w.1 k (j := 10) (k := 14) (m := 6) rfl
      exact ⟨b, e, (q.2.1 v0 12 10 k (by decide) (by decide)).trans e, (fun h => by subst h; cases kb.2.symm.trans k.2), q.2.2.2 v0 12 10 b k e (by rw [kb.2]; rfl) rfl (hW _ (by decide))⟩
theorem SAME.put {v0 a : Nat} {Z ZJ : jZ} {I J : jI} (s : SAME v0 Z I ZJ J) (ha : jr Z v0 3 = some a) (i : Nat) (x : Int32) : SAME v0 Z (jpI I a i x) ZJ (jpI J a i x) := by
  have h3 := s.1.arr 3 (by decide) ha
  have n3 : v0 ≠ a := by
    obtain ⟨b, g1, _, g3, _⟩ := s.1.2.1 3 (by decide)
    cases ha.symm.trans g1
    exact fun q => g3 q.symm
  refine ⟨⟨fun e => e.elim, fun j hj => ?_, ?_⟩, fun j hj => by rw [jpI_ne n3, jpI_ne n3]; exact s.2.1 j hj, fun j hj => ?_⟩
  · obtain ⟨b, g1, g2, g3, g4⟩ := s.1.2.1 j hj
    exact ⟨b, g1, g2, g3, jpI_cong h3 g4⟩
  · obtain ⟨b, g1, g2, g3, g4⟩ := s.1.2.2
    refine ⟨b, g1, g2, g3, fun k hk => ?_⟩
    obtain ⟨c, f1, f2, f3, f4, f5, f6, f7⟩ := g4 k hk
    exact ⟨c, f1, f2, f3, f4, f5, f6, jpI_cong h3 f7⟩
  · obtain ⟨b, g1, g2, g3, g4⟩ := s.2.2 j hj
    exact ⟨b, g1, g2, g3, jpI_cong h3 g4⟩
theorem FCi.same {B : Nat × Nat} {v0 : Nat} {Z ZJ : jZ} {I J : jI} {p : Int32} (s : SAME v0 Z I ZJ J) : FCi B v0 Z I p ↔ FCi B v0 ZJ J p := by
  obtain ⟨uK, k1, k2, _, k4⟩ := s.2.2 9 (by decide)
  obtain ⟨uQ, q1, q2, _, q4⟩ := s.2.2 10 (by decide)
  obtain ⟨uL, l1, l2, _, l4⟩ := s.1.2.1 11 (by decide)
  obtain ⟨uV, v1, v2, _, v4⟩ := s.1.2.1 13 (by decide)
  rw [FCi.iff k1 q1 l1 v1, FCi.iff k2 q2 l2 v2, s.2.1 0 (by decide), s.2.1 39 (by decide), k4, q4, l4, v4]
  exact ⟨fun h => FCv.cls s.1.symm h, fun h => FCv.cls s.1 h⟩
noncomputable def CFN (F : Int32 → Prop) : Nat → Int
  | 0 => 0
  | n + 1 => CFN F n + @ite Int (F (nI n)) (Classical.propDecidable _) 1 0
theorem CFN_step {F : Int32 → Prop} {v : Int32} (h0 : 0 ≤ v.toInt) (h6 : v.toInt ≤ 6) : (F v → CFN F (v.toNatClampNeg + 1) = CFN F v.toNatClampNeg + 1) ∧ (¬ F v → CFN F (v.toNatClampNeg + 1) = CFN F v.toNatClampNeg) := by
  have hn := i_nat (x := v) rfl h0
  have e : nI v.toNatClampNeg = v := (i_eq (i_nI (n := v.toNatClampNeg) (by omega)) rfl).mpr hn
  constructor
  · intro h
    show CFN F v.toNatClampNeg + @ite Int (F (nI v.toNatClampNeg)) (Classical.propDecidable _) 1 0 = _
    rw [e, if_pos h]
  · intro h
    show CFN F v.toNatClampNeg + @ite Int (F (nI v.toNatClampNeg)) (Classical.propDecidable _) 1 0 = _
    rw [e, if_neg h]
    omega
theorem CFN_congr {F G : Int32 → Prop} (h : ∀ p, F p ↔ G p) : CFN F = CFN G := by
  have : F = G := funext fun p => propext (h p)
  rw [this]
noncomputable def NUM (B : Nat × Nat) (v0 : Nat) (Z : jZ) (I : jI) : Int := if 1 ≤ (I v0 0).toInt then CFN (FCi B v0 Z I) (I v0 8).toInt.toNat else 0
theorem NUM_same {B : Nat × Nat} {v0 : Nat} {Z ZJ : jZ} {I J : jI} (s : SAME v0 Z I ZJ J) : NUM B v0 Z I = NUM B v0 ZJ J := by
  unfold NUM
  rw [s.2.1 0 (by decide), s.2.1 8 (by decide), CFN_congr (fun p => FCi.same (B := B) (p := p) s)]
end
section

set_option maxHeartbeats 4000000 in
set_option maxRecDepth 100000 in
theorem l9_X12_findAll_L17 {B : Nat × Nat} {T : Nat} {Z0 : jZ} {I0 : jI} {Q : jZ → jI → jL → Prop} (w0 : WD Z0 I0) (v0 : Nat) (kv0 : jk Z0 v0 12) (uK : Nat) (huK : jr Z0 v0 9 = some uK) (uQ : Nat) (huQ : jr Z0 v0 10 = some uQ) (uL : Nat) (huL : jr Z0 v0 11 = some uL) (uV : Nat) (huV : jr Z0 v0 13 = some uV) (hQ : ∀  (Z' : jZ) (I' : jI) (L' : jL), WD Z' I' → BUD B Z' T → FR Ws_X12_findAll Z0 I0 Z' I' → CP Z0 Z' → (I' v0 48).toInt = NUM B v0 Z0 I0 → Q Z' I' L') : ∀ (n : Nat) (v1 : Int32) (Z : jZ) (I : jI) (L : jL), WD Z I → BUD B Z T → FR Ws_X12_findAll Z0 I0 Z I → CP Z0 Z →   ((0 ≤ v1.toInt ∧ v1.toInt ≤ 6 ∧ v1.toInt ≤ (I0 v0 8).toInt ∧ 0 ≤ (I v0 48).toInt ∧ (I v0 48).toInt ≤ v1.toInt ∧ (v1.toInt = 0 ∨ 1 ≤ (I0 v0 0).toInt)) ∧ (I v0 48).toInt = CFN (FCi B v0 Z0 I0) v1.toNatClampNeg) → 6 - v1.toInt < (n : Int) → f_X12_findAll_L17 B  Q n v0 v1 Z I L := by
  intro n
  induction n with
  | zero =>
    intro v1 Z I L w_I bd_Z q_I cp_Z   li  me
    exfalso
    omega
  | succ n ih =>
    intro v1 Z I L w_I bd_Z q_I cp_Z   li  me
    unfold f_X12_findAll_L17
    have rv1 := i_rng v1
    obtain ⟨li0, li1⟩ := li
    have kv0_0 := kv0
    have kv0 := (q_I.1 _ _ kv0).1
    have t1 : 0 ≤ (I v0 0).toInt ∧ (I v0 0).toInt ≤ 24 := w_I.fld 12 0 kv0 (by decide)
    have t2 : 0 ≤ (I v0 8).toInt ∧ (I v0 8).toInt ≤ 6 := w_I.fld 12 8 kv0 (by decide)
    have huK_1 : jr Z v0 9 = some uK := (q_I.2.1 v0 12 9 kv0_0 (by decide) (by decide)).trans huK
    have luK : jlen Z uK = 6 := by obtain ⟨b9, e9, -, l9⟩ := sh_f w_I.1 kv0 (j := 9) (k := 14) (m := 6) rfl; cases huK_1.symm.trans e9; exact l9
    have kuK : jk Z uK 14 := by obtain ⟨b9, e9, k9, -⟩ := sh_f w_I.1 kv0 (j := 9) (k := 14) (m := 6) rfl; cases huK_1.symm.trans e9; exact k9
    have huQ_1 : jr Z v0 10 = some uQ := (q_I.2.1 v0 12 10 kv0_0 (by decide) (by decide)).trans huQ
    have luQ : jlen Z uQ = 6 := by obtain ⟨b9, e9, -, l9⟩ := sh_f w_I.1 kv0 (j := 10) (k := 14) (m := 6) rfl; cases huQ_1.symm.trans e9; exact l9
    have kuQ : jk Z uQ 14 := by obtain ⟨b9, e9, k9, -⟩ := sh_f w_I.1 kv0 (j := 10) (k := 14) (m := 6) rfl; cases huQ_1.symm.trans e9; exact k9
    have huL_1 : jr Z v0 11 = some uL := (q_I.2.1 v0 12 11 kv0_0 (by decide) (by decide)).trans huL
    have luL : jlen Z uL = 6 := by obtain ⟨b9, e9, -, l9⟩ := sh_f w_I.1 kv0 (j := 11) (k := 14) (m := 6) rfl; cases huL_1.symm.trans e9; exact l9
    have kuL : jk Z uL 14 := by obtain ⟨b9, e9, k9, -⟩ := sh_f w_I.1 kv0 (j := 11) (k := 14) (m := 6) rfl; cases huL_1.symm.trans e9; exact k9
    have huV_1 : jr Z v0 13 = some uV := (q_I.2.1 v0 12 13 kv0_0 (by decide) (by decide)).trans huV
    have luV : jlen Z uV = 6 := by obtain ⟨b9, e9, -, l9⟩ := sh_f w_I.1 kv0 (j := 13) (k := 14) (m := 6) rfl; cases huV_1.symm.trans e9; exact l9
    have kuV : jk Z uV 14 := by obtain ⟨b9, e9, k9, -⟩ := sh_f w_I.1 kv0 (j := 13) (k := 14) (m := 6) rfl; cases huV_1.symm.trans e9; exact k9
    have xq_I := q_I.1
    have e0 : (I v0 0).toInt = (I0 v0 0).toInt := by rw [q_I.2.2.1 v0 12 0 kv0_0 (by decide) (by decide)]
    have e8 : (I v0 8).toInt = (I0 v0 8).toInt := by rw [q_I.2.2.1 v0 12 8 kv0_0 (by decide) (by decide)]
    have h80 : 0 ≤ (I0 v0 8).toInt ∧ (I0 v0 8).toInt ≤ 6 := w0.fld 12 8 kv0_0 (by decide)
    have h00 : 0 ≤ (I0 v0 0).toInt ∧ (I0 v0 0).toInt ≤ 24 := w0.fld 12 0 kv0_0 (by decide)
    have nv1 := i_nat (x := v1) rfl (by omega)
    have sm : SAME v0 Z0 I0 Z I := SAME_FR w0 kv0_0 q_I (by decide)
    have t4 : 0 ≤ (I v0 8).toInt ∧ (I v0 8).toInt ≤ 6 := w_I.fld 12 8 kv0 (by decide)
    refine ⟨fun c5 => ?_, fun c5 => ?_⟩
    · skip
      first | (have t6 : (I v0 8).toInt ≤ v1.toInt := (i_le rfl rfl).mp c5) | (have t6 : (I v0 8).toInt ≤ v1.toInt := (i_le rfl rfl).mp c5) | skip
      exact hQ  Z I L w_I bd_Z q_I cp_Z (by unfold NUM; by_cases hst : 1 ≤ (I0 v0 0).toInt; (rw [if_pos hst, show (I0 v0 8).toInt.toNat = v1.toNatClampNeg by omega]; exact li1); (rw [if_neg hst]; omega))
    · skip
      first | (have t7 : ¬ ((I v0 8).toInt ≤ v1.toInt) := (not_congr (i_le rfl rfl)).mp c5) | (have t7 : ¬ ((I v0 8).toInt ≤ v1.toInt) := (not_congr (i_le rfl rfl)).mp c5) | skip
      have t9 : 0 ≤ (I v0 0).toInt ∧ (I v0 0).toInt ≤ 24 := w_I.fld 12 0 kv0 (by decide)
      refine ⟨fun c10 => ?_, fun c10 => ?_⟩
      · skip
        first | (have t11 : (I v0 0).toInt ≤ (0) := (i_le rfl (show (0 : Int32).toInt = 0 from rfl)).mp c10) | (have t11 : (I v0 0).toInt ≤ (0 : Int32).toInt := (i_le rfl rfl).mp c10) | skip
        exact hQ  Z I L w_I bd_Z q_I cp_Z (by unfold NUM; by_cases hst : 1 ≤ (I0 v0 0).toInt; (rw [if_pos hst, show (I0 v0 8).toInt.toNat = v1.toNatClampNeg by omega]; exact li1); (rw [if_neg hst]; omega))
      · skip
        first | (have t12 : ¬ ((I v0 0).toInt ≤ (0)) := (not_congr (i_le rfl (show (0 : Int32).toInt = 0 from rfl))).mp c10) | (have t12 : ¬ ((I v0 0).toInt ≤ (0 : Int32).toInt) := (not_congr (i_le rfl rfl)).mp c10) | skip
        obtain ⟨b13, eb13, kb13, lb13⟩ := sh_f w_I.1 kv0 (j := 37) (k := 14) (m := 75) rfl
        obtain ⟨b14, eb14, kb14, lb14⟩ := sh_f w_I.1 kv0 (j := 38) (k := 14) (m := 75) rfl
        obtain ⟨b15, eb15, kb15, lb15⟩ := sh_f w_I.1 kv0 (j := 40) (k := 14) (m := 25000) rfl
        obtain ⟨b16, eb16, kb16, lb16⟩ := sh_f w_I.1 kv0 (j := 44) (k := 14) (m := 24) rfl
        refine s9_X12_findClimb w_I bd_Z v0 v1 kv0 b13 eb13 b14 eb14 b15 eb15 uK huK_1 b16 eb16 uL huL_1 uV huV_1 uQ huQ_1 (by omega) (by omega) (fun r17 Z21 I19 L20 w_I19 bd_Z21 f_I19 c_Z21 p18 => ?_)
        have q_I19 : FR Ws_X12_findAll Z0 I0 Z21 I19 := q_I.trans w0.1 w0.2.1 (f_I19.mono (by decide))
        have cp_Z21 : CP Z0 Z21 := cp_Z.trans q_I.1 c_Z21
        have x_Z21 := f_I19.1
        have k22 := (f_I19.1 _ _ kv0).1
        have k23 := (f_I19.1 _ _ kuK).1
        have l24 := (f_I19.1 _ _ kuK).2.trans luK
        have k25 := (f_I19.1 _ _ kv0).1
        have e26 := (f_I19.2.1 v0 12 9 kv0 (by decide) (by decide)).trans huK_1
        have k27 := (f_I19.1 _ _ kuQ).1
        have l28 := (f_I19.1 _ _ kuQ).2.trans luQ
        have k29 := (f_I19.1 _ _ kv0).1
        have e30 := (f_I19.2.1 v0 12 10 kv0 (by decide) (by decide)).trans huQ_1
        have k31 := (f_I19.1 _ _ kuL).1
        have l32 := (f_I19.1 _ _ kuL).2.trans luL
        have k33 := (f_I19.1 _ _ kv0).1
        have e34 := (f_I19.2.1 v0 12 11 kv0 (by decide) (by decide)).trans huL_1
        have k35 := (f_I19.1 _ _ kuV).1
        have l36 := (f_I19.1 _ _ kuV).2.trans luV
        have k37 := (f_I19.1 _ _ kv0).1
        have e38 := (f_I19.2.1 v0 12 13 kv0 (by decide) (by decide)).trans huV_1
        have k39 := (f_I19.1 _ _ kb13).1
        have l40 := (f_I19.1 _ _ kb13).2.trans lb13
        have k41 := (f_I19.1 _ _ kv0).1
        have e42 := (f_I19.2.1 v0 12 37 kv0 (by decide) (by decide)).trans eb13
        have k43 := (f_I19.1 _ _ kb14).1
        have l44 := (f_I19.1 _ _ kb14).2.trans lb14
        have k45 := (f_I19.1 _ _ kv0).1
        have e46 := (f_I19.2.1 v0 12 38 kv0 (by decide) (by decide)).trans eb14
        have k47 := (f_I19.1 _ _ kb15).1
        have l48 := (f_I19.1 _ _ kb15).2.trans lb15
        have k49 := (f_I19.1 _ _ kv0).1
        have e50 := (f_I19.2.1 v0 12 40 kv0 (by decide) (by decide)).trans eb15
        have k51 := (f_I19.1 _ _ kb16).1
        have l52 := (f_I19.1 _ _ kb16).2.trans lb16
        have k53 := (f_I19.1 _ _ kv0).1
        have e54 := (f_I19.2.1 v0 12 44 kv0 (by decide) (by decide)).trans eb16
        have u55 : (I19 v0 0).toInt = (I v0 0).toInt := by rw [f_I19.2.2.1 v0 12 0 kv0 (by decide) (by decide)]
        have u56 : (I19 v0 8).toInt = (I v0 8).toInt := by rw [f_I19.2.2.1 v0 12 8 kv0 (by decide) (by decide)]
        have u57 : (I19 v0 48).toInt = (I v0 48).toInt := by rw [f_I19.2.2.1 v0 12 48 kv0 (by decide) (by decide)]
        have rr17 := i_rng r17
        have hfc : r17.toInt = 1 ↔ FCi B v0 Z0 I0 v1 := (p18).2.trans ((FCi.iff huK_1 huQ_1 huL_1 huV_1).symm.trans (FCi.same sm).symm)
        have hr1 := (p18).1
        refine ⟨fun c58 => ?_, fun c58 => ?_⟩
        · skip
          first | (have t59 : ¬ (r17.toInt = (0)) := (not_congr (i_eq rfl (show (0 : Int32).toInt = 0 from rfl))).mp c58) | (have t59 : ¬ (r17.toInt = (0 : Int32).toInt) := (not_congr (i_eq rfl rfl)).mp c58) | skip
          intro I60 eI60
          try (have t61 : ((I19 v0 48) + (1 : Int32)).toInt = ((I19 v0 48).toInt + (1)) := (i_add rfl (show (1 : Int32).toInt = 1 from rfl) (by omega) (by omega)))
          have w_I60 : WD Z21 I60 := by rw [eI60]; exact WD_putF w_I19 12 48 k22 (by decide) (by decide) trivial
          have f_I60 : FR [(12, 48)] Z21 I19 Z21 I60 := by rw [eI60]; exact FR_putF k22 (by decide) List.mem_cons_self
          have q_I60 : FR Ws_X12_findAll Z0 I0 Z21 I60 := q_I19.trans w0.1 w0.2.1 (f_I60.mono (by decide))
          have u62 : (I60 v0 0).toInt = (I19 v0 0).toInt := by rw [f_I60.2.2.1 v0 12 0 k22 (by decide) (by decide)]
          have u63 : (I60 v0 8).toInt = (I19 v0 8).toInt := by rw [f_I60.2.2.1 v0 12 8 k22 (by decide) (by decide)]
          first | (have u64 : (I60 v0 48).toInt = ((I19 v0 48).toInt + (1)) := by (rw [eI60, show jpI I19 v0 48 ((I19 v0 48) + (1 : Int32)) v0 48 = ((I19 v0 48) + (1 : Int32)) from jpI_at] <;> exact (i_add rfl (show (1 : Int32).toInt = 1 from rfl) (by omega) (by omega)))) | skip
          intro I65 eI65
          try (have t66 : ((I60 v0 49) + (I60 v0 41)).toInt = ((I60 v0 49).toInt + (I60 v0 41).toInt) := (i_add rfl rfl (by omega) (by omega)))
          have w_I65 : WD Z21 I65 := by rw [eI65]; exact WD_putF w_I60 12 49 k22 (by decide) (by decide) trivial
          have f_I65 : FR [(12, 49)] Z21 I60 Z21 I65 := by rw [eI65]; exact FR_putF k22 (by decide) List.mem_cons_self
          have q_I65 : FR Ws_X12_findAll Z0 I0 Z21 I65 := q_I60.trans w0.1 w0.2.1 (f_I65.mono (by decide))
          have u67 : (I65 v0 0).toInt = (I60 v0 0).toInt := by rw [f_I65.2.2.1 v0 12 0 k22 (by decide) (by decide)]
          have u68 : (I65 v0 8).toInt = (I60 v0 8).toInt := by rw [f_I65.2.2.1 v0 12 8 k22 (by decide) (by decide)]
          have u69 : (I65 v0 48).toInt = (I60 v0 48).toInt := by rw [f_I65.2.2.1 v0 12 48 k22 (by decide) (by decide)]
          have u70 : (I65 v0 41).toInt = (I60 v0 41).toInt := by rw [f_I65.2.2.1 v0 12 41 k22 (by decide) (by decide)]
          first | (have u71 : (I65 v0 49).toInt = ((I60 v0 49).toInt + (I60 v0 41).toInt) := by (rw [eI65, show jpI I60 v0 49 ((I60 v0 49) + (I60 v0 41)) v0 49 = ((I60 v0 49) + (I60 v0 41)) from jpI_at] <;> exact (i_add rfl rfl (by omega) (by omega)))) | skip
          intro I72 eI72
          try (have t73 : ((I65 v0 50) + (I65 v0 42)).toInt = ((I65 v0 50).toInt + (I65 v0 42).toInt) := (i_add rfl rfl (by omega) (by omega)))
          have w_I72 : WD Z21 I72 := by rw [eI72]; exact WD_putF w_I65 12 50 k22 (by decide) (by decide) trivial
          have f_I72 : FR [(12, 50)] Z21 I65 Z21 I72 := by rw [eI72]; exact FR_putF k22 (by decide) List.mem_cons_self
          have q_I72 : FR Ws_X12_findAll Z0 I0 Z21 I72 := q_I65.trans w0.1 w0.2.1 (f_I72.mono (by decide))
          have u74 : (I72 v0 0).toInt = (I65 v0 0).toInt := by rw [f_I72.2.2.1 v0 12 0 k22 (by decide) (by decide)]
          have u75 : (I72 v0 8).toInt = (I65 v0 8).toInt := by rw [f_I72.2.2.1 v0 12 8 k22 (by decide) (by decide)]
          have u76 : (I72 v0 48).toInt = (I65 v0 48).toInt := by rw [f_I72.2.2.1 v0 12 48 k22 (by decide) (by decide)]
          have u77 : (I72 v0 41).toInt = (I65 v0 41).toInt := by rw [f_I72.2.2.1 v0 12 41 k22 (by decide) (by decide)]
          have u78 : (I72 v0 49).toInt = (I65 v0 49).toInt := by rw [f_I72.2.2.1 v0 12 49 k22 (by decide) (by decide)]
          have u79 : (I72 v0 42).toInt = (I65 v0 42).toInt := by rw [f_I72.2.2.1 v0 12 42 k22 (by decide) (by decide)]
          first | (have u80 : (I72 v0 50).toInt = ((I65 v0 50).toInt + (I65 v0 42).toInt) := by (rw [eI72, show jpI I65 v0 50 ((I65 v0 50) + (I65 v0 42)) v0 50 = ((I65 v0 50) + (I65 v0 42)) from jpI_at] <;> exact (i_add rfl rfl (by omega) (by omega)))) | skip
          unfold f_X12_findAll_b79
          intro x81 ex81
          have rx81 := i_rng x81
          first | (have tx81 : x81.toInt = v1.toInt + (1) := by (rw [ex81]; exact (i_add rfl (show (1 : Int32).toInt = 1 from rfl) (by omega) (by omega)))) | skip
          exact ih x81 Z21 I72 L20 w_I72 bd_Z21 q_I72 cp_Z21   (by first | (refine ⟨by omega, ?_⟩; rw [show (0 : Int32).toNatClampNeg = 0 from rfl]; show _ = (0 : Int); omega) | (refine ⟨by omega, ?_⟩; rw [show (x81).toNatClampNeg = v1.toNatClampNeg + 1 by (have h9 := i_nat (x := x81) rfl (by omega); omega)]; first | (rw [(CFN_step (by omega) (by omega)).1 (hfc.mp (by omega)), ← li1]; omega) | (rw [(CFN_step (by omega) (by omega)).2 (fun h => by (have h9 := hfc.mpr h; omega)), ← li1]; omega)))  (by omega)
        · skip
          first | (have t82 : r17.toInt = (0) := (i_eq rfl (show (0 : Int32).toInt = 0 from rfl)).mp c58) | (have t82 : r17.toInt = (0 : Int32).toInt := (i_eq rfl rfl).mp c58) | skip
          unfold f_X12_findAll_b79
          intro x83 ex83
          have rx83 := i_rng x83
          first | (have tx83 : x83.toInt = v1.toInt + (1) := by (rw [ex83]; exact (i_add rfl (show (1 : Int32).toInt = 1 from rfl) (by omega) (by omega)))) | skip
          exact ih x83 Z21 I19 L20 w_I19 bd_Z21 q_I19 cp_Z21   (by first | (refine ⟨by omega, ?_⟩; rw [show (0 : Int32).toNatClampNeg = 0 from rfl]; show _ = (0 : Int); omega) | (refine ⟨by omega, ?_⟩; rw [show (x83).toNatClampNeg = v1.toNatClampNeg + 1 by (have h9 := i_nat (x := x83) rfl (by omega); omega)]; first | (rw [(CFN_step (by omega) (by omega)).1 (hfc.mp (by omega)), ← li1]; omega) | (rw [(CFN_step (by omega) (by omega)).2 (fun h => by (have h9 := hfc.mpr h; omega)), ← li1]; omega)))  (by omega)
set_option maxHeartbeats 4000000 in
set_option maxRecDepth 100000 in
theorem s9_X12_findAll {B : Nat × Nat} {T : Nat} {Z : jZ} {I : jI} {L : jL} (w_I : WD Z I) (bd_Z : BUD B Z T) (v0 : Nat) (kv0 : jk Z v0 12) (uK : Nat) (huK : jr Z v0 9 = some uK) (uQ : Nat) (huQ : jr Z v0 10 = some uQ) (uL : Nat) (huL : jr Z v0 11 = some uL) (uV : Nat) (huV : jr Z v0 13 = some uV) {Q : jZ → jI → jL → Prop} (hQ : ∀  (Z' : jZ) (I' : jI) (L' : jL), WD Z' I' → BUD B Z' T → FR Ws_X12_findAll Z I Z' I' → CP Z Z' → (I' v0 48).toInt = NUM B v0 Z I → Q Z' I' L') : f_X12_findAll B v0 Z I L Q := by
  unfold f_X12_findAll
  have q_I : FR Ws_X12_findAll Z I Z I := FR.rf
  have cp_Z : CP Z Z := CP.rf
  have t84 : 0 ≤ (I v0 0).toInt ∧ (I v0 0).toInt ≤ 24 := w_I.fld 12 0 kv0 (by decide)
  have t85 : 0 ≤ (I v0 8).toInt ∧ (I v0 8).toInt ≤ 6 := w_I.fld 12 8 kv0 (by decide)
  have luK : jlen Z uK = 6 := by obtain ⟨b9, e9, -, l9⟩ := sh_f w_I.1 kv0 (j := 9) (k := 14) (m := 6) rfl; cases huK.symm.trans e9; exact l9
  have kuK : jk Z uK 14 := by obtain ⟨b9, e9, k9, -⟩ := sh_f w_I.1 kv0 (j := 9) (k := 14) (m := 6) rfl; cases huK.symm.trans e9; exact k9
  have luQ : jlen Z uQ = 6 := by obtain ⟨b9, e9, -, l9⟩ := sh_f w_I.1 kv0 (j := 10) (k := 14) (m := 6) rfl; cases huQ.symm.trans e9; exact l9
  have kuQ : jk Z uQ 14 := by obtain ⟨b9, e9, k9, -⟩ := sh_f w_I.1 kv0 (j := 10) (k := 14) (m := 6) rfl; cases huQ.symm.trans e9; exact k9
  have luL : jlen Z uL = 6 := by obtain ⟨b9, e9, -, l9⟩ := sh_f w_I.1 kv0 (j := 11) (k := 14) (m := 6) rfl; cases huL.symm.trans e9; exact l9
  have kuL : jk Z uL 14 := by obtain ⟨b9, e9, k9, -⟩ := sh_f w_I.1 kv0 (j := 11) (k := 14) (m := 6) rfl; cases huL.symm.trans e9; exact k9
  have luV : jlen Z uV = 6 := by obtain ⟨b9, e9, -, l9⟩ := sh_f w_I.1 kv0 (j := 13) (k := 14) (m := 6) rfl; cases huV.symm.trans e9; exact l9
  have kuV : jk Z uV 14 := by obtain ⟨b9, e9, k9, -⟩ := sh_f w_I.1 kv0 (j := 13) (k := 14) (m := 6) rfl; cases huV.symm.trans e9; exact k9
  intro I86 eI86
  have t87 : (0 : Int32).toInt = 0 := rfl
  have w_I86 : WD Z I86 := by rw [eI86]; exact WD_putF w_I 12 48 kv0 (by decide) (by decide) trivial
  have f_I86 : FR [(12, 48)] Z I Z I86 := by rw [eI86]; exact FR_putF kv0 (by decide) List.mem_cons_self
  have q_I86 : FR Ws_X12_findAll Z I Z I86 := q_I.trans w_I.1 w_I.2.1 (f_I86.mono (by decide))
  have u88 : (I86 v0 0).toInt = (I v0 0).toInt := by rw [f_I86.2.2.1 v0 12 0 kv0 (by decide) (by decide)]
  have u89 : (I86 v0 8).toInt = (I v0 8).toInt := by rw [f_I86.2.2.1 v0 12 8 kv0 (by decide) (by decide)]
  first | (have u90 : (I86 v0 48).toInt = (0) := by (rw [eI86, show jpI I v0 48 (0 : Int32) v0 48 = (0 : Int32) from jpI_at] <;> exact (show (0 : Int32).toInt = 0 from rfl))) | skip
  intro I91 eI91
  have t92 : (0 : Int32).toInt = 0 := rfl
  have w_I91 : WD Z I91 := by rw [eI91]; exact WD_putF w_I86 12 49 kv0 (by decide) (by decide) trivial
  have f_I91 : FR [(12, 49)] Z I86 Z I91 := by rw [eI91]; exact FR_putF kv0 (by decide) List.mem_cons_self
  have q_I91 : FR Ws_X12_findAll Z I Z I91 := q_I86.trans w_I.1 w_I.2.1 (f_I91.mono (by decide))
  have u93 : (I91 v0 0).toInt = (I86 v0 0).toInt := by rw [f_I91.2.2.1 v0 12 0 kv0 (by decide) (by decide)]
  have u94 : (I91 v0 8).toInt = (I86 v0 8).toInt := by rw [f_I91.2.2.1 v0 12 8 kv0 (by decide) (by decide)]
  have u95 : (I91 v0 48).toInt = (I86 v0 48).toInt := by rw [f_I91.2.2.1 v0 12 48 kv0 (by decide) (by decide)]
  first | (have u96 : (I91 v0 49).toInt = (0) := by (rw [eI91, show jpI I86 v0 49 (0 : Int32) v0 49 = (0 : Int32) from jpI_at] <;> exact (show (0 : Int32).toInt = 0 from rfl))) | skip
  intro I97 eI97
  have t98 : (0 : Int32).toInt = 0 := rfl
  have w_I97 : WD Z I97 := by rw [eI97]; exact WD_putF w_I91 12 50 kv0 (by decide) (by decide) trivial
  have f_I97 : FR [(12, 50)] Z I91 Z I97 := by rw [eI97]; exact FR_putF kv0 (by decide) List.mem_cons_self
  have q_I97 : FR Ws_X12_findAll Z I Z I97 := q_I91.trans w_I.1 w_I.2.1 (f_I97.mono (by decide))
  have u99 : (I97 v0 0).toInt = (I91 v0 0).toInt := by rw [f_I97.2.2.1 v0 12 0 kv0 (by decide) (by decide)]
  have u100 : (I97 v0 8).toInt = (I91 v0 8).toInt := by rw [f_I97.2.2.1 v0 12 8 kv0 (by decide) (by decide)]
  have u101 : (I97 v0 48).toInt = (I91 v0 48).toInt := by rw [f_I97.2.2.1 v0 12 48 kv0 (by decide) (by decide)]
  have u102 : (I97 v0 49).toInt = (I91 v0 49).toInt := by rw [f_I97.2.2.1 v0 12 49 kv0 (by decide) (by decide)]
  first | (have u103 : (I97 v0 50).toInt = (0) := by (rw [eI97, show jpI I91 v0 50 (0 : Int32) v0 50 = (0 : Int32) from jpI_at] <;> exact (show (0 : Int32).toInt = 0 from rfl))) | skip
  have t104 : (0 : Int32).toInt = 0 := rfl
  exact ⟨(6 - (0 : Int32).toInt).toNat + 1, l9_X12_findAll_L17 w_I v0 kv0 uK huK uQ huQ uL huL uV huV   hQ   _ (0 : Int32) Z I97 L w_I97 bd_Z q_I97 cp_Z   (by first | (refine ⟨by omega, ?_⟩; rw [show (0 : Int32).toNatClampNeg = 0 from rfl]; show _ = (0 : Int); omega) | (refine ⟨by omega, ?_⟩; rw [show ((0 : Int32)).toNatClampNeg = v1.toNatClampNeg + 1 by (have h9 := i_nat (x := (0 : Int32)) rfl (by omega); omega)]; first | (rw [(CFN_step (by omega) (by omega)).1 (hfc.mp (by omega)), ← li1]; omega) | (rw [(CFN_step (by omega) (by omega)).2 (fun h => by (have h9 := hfc.mpr h; omega)), ← li1]; omega)))  (by omega)⟩
def Ws_X12_toll : List (Nat × Nat) := [(12, 3), (12, 21), (12, 22), (12, 24), (12, 25), (12, 26), (12, 27), (12, 31), (12, 32), (12, 33), (12, 34), (12, 37), (12, 38), (12, 40), (12, 41), (12, 42), (12, 43), (12, 44), (12, 48), (12, 49), (12, 50)]
set_option maxHeartbeats 4000000 in
set_option maxRecDepth 100000 in
theorem l_X12_toll_L54 {B : Nat × Nat} {T : Nat} {Z0 : jZ} {I0 : jI} {Q : Int32 → jZ → jI → jL → Prop} (w0 : WD Z0 I0) (v0 : Nat) (v1 : Int32) (kv0 : jk Z0 v0 12) (uA : Nat) (huA : jr Z0 v0 3 = some uA) (v2 : Int32) (v3 : Int32) (hQ : ∀ (r : Int32) (Z' : jZ) (I' : jI) (L' : jL), WD Z' I' → BUD B Z' T → FR Ws_X12_toll Z0 I0 Z' I' → CP Z0 Z' → Q r Z' I' L') : ∀ (n : Nat) (v4 : Int32) (Z : jZ) (I : jI) (L : jL), WD Z I → BUD B Z T → FR Ws_X12_toll Z0 I0 Z I → CP Z0 Z →   ((0 ≤ v4.toInt ∧ v4.toInt ≤ 20 ∧ 0 ≤ v1.toInt ∧ v1.toInt ≤ 23 ∧ 0 ≤ v2.toInt ∧ v2.toInt ≤ 20 ∧ (I uA v1.toNatClampNeg).toInt = v4.toInt) ∧ (I v0 48).toInt = NUM B v0 Z I ∧ v3.toInt = NUM B v0 Z (jpI I uA v1.toNatClampNeg 0)) → v4.toInt < (n : Int) → f_X12_toll_L54 B  Q n v0 v1 v2 v3 v4 Z I L := by
  intro n
  induction n with
  | zero =>
    intro v4 Z I L w_I bd_Z q_I cp_Z   li  me
    exfalso
    omega
  | succ n ih =>
    intro v4 Z I L w_I bd_Z q_I cp_Z   li  me
    unfold f_X12_toll_L54
    have rv4 := i_rng v4
    have rv2 := i_rng v2
    have rv3 := i_rng v3
    have rv1 := i_rng v1
    obtain ⟨li0, li1, li2⟩ := li
    have kv0_0 := kv0
    have kv0 := (q_I.1 _ _ kv0).1
    have t1 : 0 ≤ (I v0 0).toInt ∧ (I v0 0).toInt ≤ 24 := w_I.fld 12 0 kv0 (by decide)
    have huA_1 : jr Z v0 3 = some uA := (q_I.2.1 v0 12 3 kv0_0 (by decide) (by decide)).trans huA
    have luA : jlen Z uA = 24 := by obtain ⟨b9, e9, -, l9⟩ := sh_f w_I.1 kv0 (j := 3) (k := 14) (m := 24) rfl; cases huA_1.symm.trans e9; exact l9
    have kuA : jk Z uA 14 := by obtain ⟨b9, e9, k9, -⟩ := sh_f w_I.1 kv0 (j := 3) (k := 14) (m := 24) rfl; cases huA_1.symm.trans e9; exact k9
    have xq_I := q_I.1
    refine ⟨fun c2 => ?_, fun c2 => ?_⟩
    · skip
      first | (have t3 : (I v0 48).toInt = v3.toInt := (i_eq rfl rfl).mp c2) | (have t3 : (I v0 48).toInt = v3.toInt := (i_eq rfl rfl).mp c2) | skip
      intro b4 eb4
      obtain rfl : uA = b4 := Option.some.inj (huA_1.symm.trans eb4)
      have o5 : vp_in v1 24 := vi_of rfl (by omega) (by omega)
      refine ⟨o5, ?_⟩
      intro I6 eI6
      have w_I6 : WD Z I6 := by rw [eI6]; exact WD_putA w_I 12 3 kv0 huA_1 kuA rfl rfl (by decide) (by constructor <;> omega)
      have ao_I6_uA : ∀ q, q ≠ v1.toNatClampNeg → I6 uA q = I uA q := fun q hq => by rw [eI6]; exact jpI_off hq
      first | (have u7 : (I6 uA (v1.toNatClampNeg)).toInt = v2.toInt := by (rw [eI6, show jpI I uA v1.toNatClampNeg v2 uA v1.toNatClampNeg = v2 from jpI_at] <;> exact rfl)) | skip
      have f_I6 : FR [(12, 3)] Z I Z I6 := by rw [eI6]; exact FR_upA w_I.2.1 kv0 huA_1 kuA rfl rfl List.mem_cons_self
      have q_I6 : FR Ws_X12_toll Z0 I0 Z I6 := q_I.trans w0.1 w0.2.1 (f_I6.mono (by decide))
      have u8 : (I6 v0 0).toInt = (I v0 0).toInt := by rw [f_I6.2.2.1 v0 12 0 kv0 (by decide) (by decide)]
      have u9 : (I6 v0 48).toInt = (I v0 48).toInt := by rw [f_I6.2.2.1 v0 12 48 kv0 (by decide) (by decide)]
      intro I10 eI10
      have t11 : (0 : Int32).toInt = 0 := rfl
      have w_I10 : WD Z I10 := by rw [eI10]; exact WD_putF w_I6 12 21 kv0 (by decide) (by decide) (by constructor <;> omega)
      have f_I10 : FR [(12, 21)] Z I6 Z I10 := by rw [eI10]; exact FR_putF kv0 (by decide) List.mem_cons_self
      have q_I10 : FR Ws_X12_toll Z0 I0 Z I10 := q_I6.trans w0.1 w0.2.1 (f_I10.mono (by decide))
      have ao_I10_uA : ∀ q, q ≠ v1.toNatClampNeg → I10 uA q = I uA q := fun q hq => by rw [f_I10.2.2.2 v0 12 3 uA kv0 huA_1 (by rw [kuA.2]; rfl) rfl (by decide)]; exact ao_I6_uA q hq
      have u12 : (I10 uA (v1.toNatClampNeg)).toInt = (I6 uA (v1.toNatClampNeg)).toInt := by rw [f_I10.2.2.2 v0 12 3 uA kv0 huA_1 (by rw [kuA.2]; rfl) rfl (by decide)]
      have u13 : (I10 v0 0).toInt = (I6 v0 0).toInt := by rw [f_I10.2.2.1 v0 12 0 kv0 (by decide) (by decide)]
      have u14 : (I10 v0 48).toInt = (I6 v0 48).toInt := by rw [f_I10.2.2.1 v0 12 48 kv0 (by decide) (by decide)]
      first | (have u15 : (I10 v0 21).toInt = (0) := by (rw [eI10, show jpI I6 v0 21 (0 : Int32) v0 21 = (0 : Int32) from jpI_at] <;> exact (show (0 : Int32).toInt = 0 from rfl))) | skip
      refine s_X12_tell w_I10 v0 (v3.toInt64) kv0  (by omega) (fun  I17 L18 w_I17 f_I17 p16 => ?_)
      have q_I17 : FR Ws_X12_toll Z0 I0 Z I17 := q_I10.trans w0.1 w0.2.1 (f_I17.mono (by decide))
      have ao_I17_uA : ∀ q, q ≠ v1.toNatClampNeg → I17 uA q = I uA q := fun q hq => by rw [f_I17.2.2.2 v0 12 3 uA kv0 huA_1 (by rw [kuA.2]; rfl) rfl (by decide)]; exact ao_I10_uA q hq
      have u19 : (I17 uA (v1.toNatClampNeg)).toInt = (I10 uA (v1.toNatClampNeg)).toInt := by rw [f_I17.2.2.2 v0 12 3 uA kv0 huA_1 (by rw [kuA.2]; rfl) rfl (by decide)]
      have u20 : (I17 v0 0).toInt = (I10 v0 0).toInt := by rw [f_I17.2.2.1 v0 12 0 kv0 (by decide) (by decide)]
      have u21 : (I17 v0 48).toInt = (I10 v0 48).toInt := by rw [f_I17.2.2.1 v0 12 48 kv0 (by decide) (by decide)]
      exact hQ v4 Z I17 L18 w_I17 bd_Z q_I17 cp_Z 
    · skip
      first | (have t22 : ¬ ((I v0 48).toInt = v3.toInt) := (not_congr (i_eq rfl rfl)).mp c2) | (have t22 : ¬ ((I v0 48).toInt = v3.toInt) := (not_congr (i_eq rfl rfl)).mp c2) | skip
      have hv4 : ¬ v4.toInt = 0 := fun h => by (have e9 : jpI I uA v1.toNatClampNeg 0 = I := jpI_id ((i_eq rfl (show (0 : Int32).toInt = 0 from rfl)).mpr (by omega)); rw [e9] at li2; omega)
      intro x23 ex23
      have rx23 := i_rng x23
      first | (have tx23 : x23.toInt = v4.toInt + (-1) := by (rw [ex23]; exact (i_add rfl (show (-1 : Int32).toInt = -1 from rfl) (by omega) (by omega)))) | skip
      intro b24 eb24
      obtain rfl : uA = b24 := Option.some.inj (huA_1.symm.trans eb24)
      have o25 : vp_in v1 24 := vi_of rfl (by omega) (by omega)
      refine ⟨o25, ?_⟩
      intro I26 eI26
      have w_I26 : WD Z I26 := by rw [eI26]; exact WD_putA w_I 12 3 kv0 huA_1 kuA rfl rfl (by decide) (by constructor <;> omega)
      have ao_I26_uA : ∀ q, q ≠ v1.toNatClampNeg → I26 uA q = I uA q := fun q hq => by rw [eI26]; exact jpI_off hq
      first | (have u27 : (I26 uA (v1.toNatClampNeg)).toInt = x23.toInt := by (rw [eI26, show jpI I uA v1.toNatClampNeg x23 uA v1.toNatClampNeg = x23 from jpI_at] <;> exact rfl)) | skip
      have f_I26 : FR [(12, 3)] Z I Z I26 := by rw [eI26]; exact FR_upA w_I.2.1 kv0 huA_1 kuA rfl rfl List.mem_cons_self
      have q_I26 : FR Ws_X12_toll Z0 I0 Z I26 := q_I.trans w0.1 w0.2.1 (f_I26.mono (by decide))
      have u28 : (I26 v0 0).toInt = (I v0 0).toInt := by rw [f_I26.2.2.1 v0 12 0 kv0 (by decide) (by decide)]
      have u29 : (I26 v0 48).toInt = (I v0 48).toInt := by rw [f_I26.2.2.1 v0 12 48 kv0 (by decide) (by decide)]
      have w9 := w_I26
      have ow9 : jpI I26 uA v1.toNatClampNeg 0 = jpI I uA v1.toNatClampNeg 0 := by rw [eI26]; exact jpI_ow
      obtain ⟨b30, eb30, kb30, lb30⟩ := sh_f w_I26.1 kv0 (j := 9) (k := 14) (m := 6) rfl
      obtain ⟨b31, eb31, kb31, lb31⟩ := sh_f w_I26.1 kv0 (j := 10) (k := 14) (m := 6) rfl
      obtain ⟨b32, eb32, kb32, lb32⟩ := sh_f w_I26.1 kv0 (j := 11) (k := 14) (m := 6) rfl
      obtain ⟨b33, eb33, kb33, lb33⟩ := sh_f w_I26.1 kv0 (j := 13) (k := 14) (m := 6) rfl
      refine s9_X12_findAll w_I26 bd_Z v0 kv0 b30 eb30 b31 eb31 b32 eb32 b33 eb33  (fun  Z37 I35 L36 w_I35 bd_Z37 f_I35 c_Z37 p34 => ?_)
      have q_I35 : FR Ws_X12_toll Z0 I0 Z37 I35 := q_I26.trans w0.1 w0.2.1 (f_I35.mono (by decide))
      have cp_Z37 : CP Z0 Z37 := cp_Z.trans q_I26.1 c_Z37
      have x_Z37 := f_I35.1
      have k38 := (f_I35.1 _ _ kv0).1
      have k39 := (f_I35.1 _ _ kuA).1
      have l40 := (f_I35.1 _ _ kuA).2.trans luA
      have k41 := (f_I35.1 _ _ kv0).1
      have e42 := (f_I35.2.1 v0 12 3 kv0 (by decide) (by decide)).trans huA_1
      have k43 := (f_I35.1 _ _ kb30).1
      have l44 := (f_I35.1 _ _ kb30).2.trans lb30
      have k45 := (f_I35.1 _ _ kv0).1
      have e46 := (f_I35.2.1 v0 12 9 kv0 (by decide) (by decide)).trans eb30
      have k47 := (f_I35.1 _ _ kb31).1
      have l48 := (f_I35.1 _ _ kb31).2.trans lb31
      have k49 := (f_I35.1 _ _ kv0).1
      have e50 := (f_I35.2.1 v0 12 10 kv0 (by decide) (by decide)).trans eb31
      have k51 := (f_I35.1 _ _ kb32).1
      have l52 := (f_I35.1 _ _ kb32).2.trans lb32
      have k53 := (f_I35.1 _ _ kv0).1
      have e54 := (f_I35.2.1 v0 12 11 kv0 (by decide) (by decide)).trans eb32
      have k55 := (f_I35.1 _ _ kb33).1
      have l56 := (f_I35.1 _ _ kb33).2.trans lb33
      have k57 := (f_I35.1 _ _ kv0).1
      have e58 := (f_I35.2.1 v0 12 13 kv0 (by decide) (by decide)).trans eb33
      have ao_I35_uA : ∀ q, q ≠ v1.toNatClampNeg → I35 uA q = I uA q := fun q hq => by rw [f_I35.2.2.2 v0 12 3 uA kv0 huA_1 (by rw [kuA.2]; rfl) rfl (by decide)]; exact ao_I26_uA q hq
      have u59 : (I35 uA (v1.toNatClampNeg)).toInt = (I26 uA (v1.toNatClampNeg)).toInt := by rw [f_I35.2.2.2 v0 12 3 uA kv0 huA_1 (by rw [kuA.2]; rfl) rfl (by decide)]
      have u60 : (I35 v0 0).toInt = (I26 v0 0).toInt := by rw [f_I35.2.2.1 v0 12 0 kv0 (by decide) (by decide)]
      exact ih x23 Z37 I35 L36 w_I35 bd_Z37 q_I35 cp_Z37   (by first | (have sm2 := SAME_FR w9 kv0 f_I35 (by decide); exact ⟨by omega, (p34).trans (NUM_same sm2), li2.trans ((congrArg (NUM B v0 _) ow9).symm.trans (NUM_same (sm2.put huA_1 v1.toNatClampNeg 0)))⟩) | (have sm2 := SAME_FR w8 k8 f_I35 (by decide); exact ⟨by omega, (p34).trans (NUM_same sm2), du2.trans ((congrArg (NUM B v0 _) ow8).symm.trans (NUM_same (sm2.put h8 v1.toNatClampNeg 0)))⟩))  (by omega)
set_option maxHeartbeats 4000000 in
set_option maxRecDepth 100000 in
theorem s_X12_toll {B : Nat × Nat} {T : Nat} {Z : jZ} {I : jI} {L : jL} (w_I : WD Z I) (bd_Z : BUD B Z T) (v0 : Nat) (v1 : Int32) (kv0 : jk Z v0 12) (uA : Nat) (huA : jr Z v0 3 = some uA) {Q : Int32 → jZ → jI → jL → Prop} (hQ : ∀ (r : Int32) (Z' : jZ) (I' : jI) (L' : jL), WD Z' I' → BUD B Z' T → FR Ws_X12_toll Z I Z' I' → CP Z Z' → Q r Z' I' L') : f_X12_toll B v0 v1 Z I L Q := by
  unfold f_X12_toll
  have q_I : FR Ws_X12_toll Z I Z I := FR.rf
  have cp_Z : CP Z Z := CP.rf
  have rv1 := i_rng v1
  have t61 : 0 ≤ (I v0 0).toInt ∧ (I v0 0).toInt ≤ 24 := w_I.fld 12 0 kv0 (by decide)
  have luA : jlen Z uA = 24 := by obtain ⟨b9, e9, -, l9⟩ := sh_f w_I.1 kv0 (j := 3) (k := 14) (m := 24) rfl; cases huA.symm.trans e9; exact l9
  have kuA : jk Z uA 14 := by obtain ⟨b9, e9, k9, -⟩ := sh_f w_I.1 kv0 (j := 3) (k := 14) (m := 24) rfl; cases huA.symm.trans e9; exact k9
  intro I62 eI62
  have t63 : (0 : Int32).toInt = 0 := rfl
  have w_I62 : WD Z I62 := by rw [eI62]; exact WD_putF w_I 12 22 kv0 (by decide) (by decide) trivial
  have f_I62 : FR [(12, 22)] Z I Z I62 := by rw [eI62]; exact FR_putF kv0 (by decide) List.mem_cons_self
  have q_I62 : FR Ws_X12_toll Z I Z I62 := q_I.trans w_I.1 w_I.2.1 (f_I62.mono (by decide))
  have ao_I62_uA : I62 uA = I uA := f_I62.2.2.2 v0 12 3 uA kv0 huA (by rw [kuA.2]; rfl) rfl (by decide)
  have u64 : (I62 v0 0).toInt = (I v0 0).toInt := by rw [f_I62.2.2.1 v0 12 0 kv0 (by decide) (by decide)]
  have u65 : (I62 v0 48).toInt = (I v0 48).toInt := by rw [f_I62.2.2.1 v0 12 48 kv0 (by decide) (by decide)]
  first | (have u66 : (I62 v0 22).toInt = (0) := by (rw [eI62, show jpI I v0 22 (0 : Int32) v0 22 = (0 : Int32) from jpI_at] <;> exact (show (0 : Int32).toInt = 0 from rfl))) | skip
  refine s_X12_isStep w_I62 v0 v1 kv0   (fun r67 p68 => ?_)
  have rr67 := i_rng r67
  refine ⟨fun c69 => ?_, fun c69 => ?_⟩
  · skip
    first | (have t70 : ¬ (r67.toInt = (0)) := (not_congr (i_eq rfl (show (0 : Int32).toInt = 0 from rfl))).mp c69) | (have t70 : ¬ (r67.toInt = (0 : Int32).toInt) := (not_congr (i_eq rfl rfl)).mp c69) | skip
    intro b71 eb71
    obtain rfl : uA = b71 := Option.some.inj (huA.symm.trans eb71)
    have o72 : vp_in v1 24 := vi_of rfl (by omega) (by omega)
    refine ⟨o72, ?_⟩
    have t73 : 0 ≤ (I62 uA v1.toNatClampNeg).toInt ∧ (I62 uA v1.toNatClampNeg).toInt ≤ 20 := w_I62.arr 12 3 kv0 huA kuA rfl rfl _
    intro x74 ex74
    have rx74 := i_rng x74
    first | (have tx74 : x74.toInt = (I62 uA v1.toNatClampNeg).toInt := by (rw [ex74]; exact rfl)) | (have tx74 : x74.toInt = (I62 uA v1.toNatClampNeg).toInt := by rw [ex74])
    intro b75 eb75
    obtain rfl : uA = b75 := Option.some.inj (huA.symm.trans eb75)
    have o76 : vp_in v1 24 := vi_of rfl (by omega) (by omega)
    refine ⟨o76, ?_⟩
    intro I77 eI77
    have t78 : (0 : Int32).toInt = 0 := rfl
    have w_I77 : WD Z I77 := by rw [eI77]; exact WD_putA w_I62 12 3 kv0 huA kuA rfl rfl (by decide) (by constructor <;> omega)
    have ao_I77_uA : ∀ q, q ≠ v1.toNatClampNeg → I77 uA q = I uA q := fun q hq => by rw [eI77, jpI_off hq, ao_I62_uA]
    first | (have u79 : (I77 uA (v1.toNatClampNeg)).toInt = (0) := by (rw [eI77, show jpI I62 uA v1.toNatClampNeg (0 : Int32) uA v1.toNatClampNeg = (0 : Int32) from jpI_at] <;> exact (show (0 : Int32).toInt = 0 from rfl))) | skip
    have f_I77 : FR [(12, 3)] Z I62 Z I77 := by rw [eI77]; exact FR_upA w_I62.2.1 kv0 huA kuA rfl rfl List.mem_cons_self
    have q_I77 : FR Ws_X12_toll Z I Z I77 := q_I62.trans w_I.1 w_I.2.1 (f_I77.mono (by decide))
    have u80 : (I77 v0 0).toInt = (I62 v0 0).toInt := by rw [f_I77.2.2.1 v0 12 0 kv0 (by decide) (by decide)]
    have u81 : (I77 v0 48).toInt = (I62 v0 48).toInt := by rw [f_I77.2.2.1 v0 12 48 kv0 (by decide) (by decide)]
    have u82 : (I77 v0 22).toInt = (I62 v0 22).toInt := by rw [f_I77.2.2.1 v0 12 22 kv0 (by decide) (by decide)]
    have w9 := w_I77
    have id9 : jpI I77 uA v1.toNatClampNeg 0 = I77 := by rw [eI77]; exact jpI_ow
    obtain ⟨b83, eb83, kb83, lb83⟩ := sh_f w_I77.1 kv0 (j := 9) (k := 14) (m := 6) rfl
    obtain ⟨b84, eb84, kb84, lb84⟩ := sh_f w_I77.1 kv0 (j := 10) (k := 14) (m := 6) rfl
    obtain ⟨b85, eb85, kb85, lb85⟩ := sh_f w_I77.1 kv0 (j := 11) (k := 14) (m := 6) rfl
    obtain ⟨b86, eb86, kb86, lb86⟩ := sh_f w_I77.1 kv0 (j := 13) (k := 14) (m := 6) rfl
    refine s9_X12_findAll w_I77 bd_Z v0 kv0 b83 eb83 b84 eb84 b85 eb85 b86 eb86  (fun  Z90 I88 L89 w_I88 bd_Z90 f_I88 c_Z90 p87 => ?_)
    have q_I88 : FR Ws_X12_toll Z I Z90 I88 := q_I77.trans w_I.1 w_I.2.1 (f_I88.mono (by decide))
    have cp_Z90 : CP Z Z90 := cp_Z.trans q_I77.1 c_Z90
    have x_Z90 := f_I88.1
    have k91 := (f_I88.1 _ _ kv0).1
    have k92 := (f_I88.1 _ _ kuA).1
    have l93 := (f_I88.1 _ _ kuA).2.trans luA
    have k94 := (f_I88.1 _ _ kv0).1
    have e95 := (f_I88.2.1 v0 12 3 kv0 (by decide) (by decide)).trans huA
    have k96 := (f_I88.1 _ _ kb83).1
    have l97 := (f_I88.1 _ _ kb83).2.trans lb83
    have k98 := (f_I88.1 _ _ kv0).1
    have e99 := (f_I88.2.1 v0 12 9 kv0 (by decide) (by decide)).trans eb83
    have k100 := (f_I88.1 _ _ kb84).1
    have l101 := (f_I88.1 _ _ kb84).2.trans lb84
    have k102 := (f_I88.1 _ _ kv0).1
    have e103 := (f_I88.2.1 v0 12 10 kv0 (by decide) (by decide)).trans eb84
    have k104 := (f_I88.1 _ _ kb85).1
    have l105 := (f_I88.1 _ _ kb85).2.trans lb85
    have k106 := (f_I88.1 _ _ kv0).1
    have e107 := (f_I88.2.1 v0 12 11 kv0 (by decide) (by decide)).trans eb85
    have k108 := (f_I88.1 _ _ kb86).1
    have l109 := (f_I88.1 _ _ kb86).2.trans lb86
    have k110 := (f_I88.1 _ _ kv0).1
    have e111 := (f_I88.2.1 v0 12 13 kv0 (by decide) (by decide)).trans eb86
    have ao_I88_uA : ∀ q, q ≠ v1.toNatClampNeg → I88 uA q = I uA q := fun q hq => by rw [f_I88.2.2.2 v0 12 3 uA kv0 huA (by rw [kuA.2]; rfl) rfl (by decide)]; exact ao_I77_uA q hq
    have u112 : (I88 uA (v1.toNatClampNeg)).toInt = (I77 uA (v1.toNatClampNeg)).toInt := by rw [f_I88.2.2.2 v0 12 3 uA kv0 huA (by rw [kuA.2]; rfl) rfl (by decide)]
    have u113 : (I88 v0 0).toInt = (I77 v0 0).toInt := by rw [f_I88.2.2.1 v0 12 0 kv0 (by decide) (by decide)]
    have u114 : (I88 v0 22).toInt = (I77 v0 22).toInt := by rw [f_I88.2.2.1 v0 12 22 kv0 (by decide) (by decide)]
    have sm1 := SAME_FR w9 kv0 f_I88 (by decide)
    have ph1 := p87
    have du1 : (I88 v0 48).toInt = NUM B v0 Z90 (jpI I88 uA v1.toNatClampNeg 0) := by rw [← NUM_same (B := B) (sm1.put huA v1.toNatClampNeg 0), id9]; exact ph1
    intro x115 ex115
    have rx115 := i_rng x115
    first | (have tx115 : x115.toInt = (I88 v0 48).toInt := by (rw [ex115]; exact rfl)) | (have tx115 : x115.toInt = (I88 v0 48).toInt := by rw [ex115])
    obtain ⟨J9, hJ9⟩ : ∃ J9 : jI, J9 = I88 := ⟨_, rfl⟩
    have du2 : x115.toInt = NUM B v0 Z90 (jpI J9 uA v1.toNatClampNeg 0) := by rw [hJ9, ← du1]; omega
    intro b116 eb116
    obtain rfl : uA = b116 := Option.some.inj (e95.symm.trans eb116)
    have o117 : vp_in v1 24 := vi_of rfl (by omega) (by omega)
    refine ⟨o117, ?_⟩
    intro I118 eI118
    have t119 : (20 : Int32).toInt = 20 := rfl
    have w_I118 : WD Z90 I118 := by rw [eI118]; exact WD_putA w_I88 12 3 k94 e95 k92 rfl rfl (by decide) (by constructor <;> omega)
    have ao_I118_uA : ∀ q, q ≠ v1.toNatClampNeg → I118 uA q = I uA q := fun q hq => by rw [eI118, jpI_off hq]; exact ao_I88_uA q hq
    first | (have u120 : (I118 uA (v1.toNatClampNeg)).toInt = (20) := by (rw [eI118, show jpI I88 uA v1.toNatClampNeg (20 : Int32) uA v1.toNatClampNeg = (20 : Int32) from jpI_at] <;> exact (show (20 : Int32).toInt = 20 from rfl))) | skip
    have f_I118 : FR [(12, 3)] Z90 I88 Z90 I118 := by rw [eI118]; exact FR_upA w_I88.2.1 k94 e95 k92 rfl rfl List.mem_cons_self
    have q_I118 : FR Ws_X12_toll Z I Z90 I118 := q_I88.trans w_I.1 w_I.2.1 (f_I118.mono (by decide))
    have u121 : (I118 v0 0).toInt = (I88 v0 0).toInt := by rw [f_I118.2.2.1 v0 12 0 k91 (by decide) (by decide)]
    have u122 : (I118 v0 22).toInt = (I88 v0 22).toInt := by rw [f_I118.2.2.1 v0 12 22 k91 (by decide) (by decide)]
    have u123 : (I118 v0 48).toInt = (I88 v0 48).toInt := by rw [f_I118.2.2.1 v0 12 48 k91 (by decide) (by decide)]
    have w8 := w_I118
    have k8 : jk Z90 v0 12 := (q_I118.1 _ _ kv0).1
    have h8 : jr Z90 v0 3 = some uA := (q_I118.2.1 v0 12 3 kv0 (by decide) (by decide)).trans huA
    have ow8 : jpI I118 uA v1.toNatClampNeg 0 = jpI J9 uA v1.toNatClampNeg 0 := by rw [eI118, hJ9]; exact jpI_ow
    refine s9_X12_findAll w_I118 bd_Z90 v0 k91 b83 e99 b84 e103 b85 e107 b86 e111  (fun  Z127 I125 L126 w_I125 bd_Z127 f_I125 c_Z127 p124 => ?_)
    have q_I125 : FR Ws_X12_toll Z I Z127 I125 := q_I118.trans w_I.1 w_I.2.1 (f_I125.mono (by decide))
    have cp_Z127 : CP Z Z127 := cp_Z90.trans q_I118.1 c_Z127
    have x_Z127 := f_I125.1
    have k128 := (f_I125.1 _ _ k91).1
    have k129 := (f_I125.1 _ _ k92).1
    have l130 := (f_I125.1 _ _ k92).2.trans l93
    have k131 := (f_I125.1 _ _ k94).1
    have e132 := (f_I125.2.1 v0 12 3 k94 (by decide) (by decide)).trans e95
    have k133 := (f_I125.1 _ _ k96).1
    have l134 := (f_I125.1 _ _ k96).2.trans l97
    have k135 := (f_I125.1 _ _ k98).1
    have e136 := (f_I125.2.1 v0 12 9 k98 (by decide) (by decide)).trans e99
    have k137 := (f_I125.1 _ _ k100).1
    have l138 := (f_I125.1 _ _ k100).2.trans l101
    have k139 := (f_I125.1 _ _ k102).1
    have e140 := (f_I125.2.1 v0 12 10 k102 (by decide) (by decide)).trans e103
    have k141 := (f_I125.1 _ _ k104).1
    have l142 := (f_I125.1 _ _ k104).2.trans l105
    have k143 := (f_I125.1 _ _ k106).1
    have e144 := (f_I125.2.1 v0 12 11 k106 (by decide) (by decide)).trans e107
    have k145 := (f_I125.1 _ _ k108).1
    have l146 := (f_I125.1 _ _ k108).2.trans l109
    have k147 := (f_I125.1 _ _ k110).1
    have e148 := (f_I125.2.1 v0 12 13 k110 (by decide) (by decide)).trans e111
    have ao_I125_uA : ∀ q, q ≠ v1.toNatClampNeg → I125 uA q = I uA q := fun q hq => by rw [f_I125.2.2.2 v0 12 3 uA k94 e95 (by rw [k92.2]; rfl) rfl (by decide)]; exact ao_I118_uA q hq
    have u149 : (I125 uA (v1.toNatClampNeg)).toInt = (I118 uA (v1.toNatClampNeg)).toInt := by rw [f_I125.2.2.2 v0 12 3 uA k94 e95 (by rw [k92.2]; rfl) rfl (by decide)]
    have u150 : (I125 v0 0).toInt = (I118 v0 0).toInt := by rw [f_I125.2.2.1 v0 12 0 k91 (by decide) (by decide)]
    have u151 : (I125 v0 22).toInt = (I118 v0 22).toInt := by rw [f_I125.2.2.1 v0 12 22 k91 (by decide) (by decide)]
    have t152 : (20 : Int32).toInt = 20 := rfl
    exact ⟨((20 : Int32).toInt).toNat + 1, l_X12_toll_L54 w_I v0 v1 kv0 uA huA x74 x115  hQ   _ (20 : Int32) Z127 I125 L126 w_I125 bd_Z127 q_I125 cp_Z127   (by first | (have sm2 := SAME_FR w9 kv0 f_I125 (by decide); exact ⟨by omega, (p124).trans (NUM_same sm2), li2.trans ((congrArg (NUM B v0 _) ow9).symm.trans (NUM_same (sm2.put huA_1 v1.toNatClampNeg 0)))⟩) | (have sm2 := SAME_FR w8 k8 f_I125 (by decide); exact ⟨by omega, (p124).trans (NUM_same sm2), du2.trans ((congrArg (NUM B v0 _) ow8).symm.trans (NUM_same (sm2.put h8 v1.toNatClampNeg 0)))⟩))  (by omega)⟩
  · skip
    first | (have t153 : r67.toInt = (0) := (i_eq rfl (show (0 : Int32).toInt = 0 from rfl)).mp c69) | (have t153 : r67.toInt = (0 : Int32).toInt := (i_eq rfl rfl).mp c69) | skip
    have t154 : (-1 : Int32).toInt = -1 := rfl
    exact hQ (-1 : Int32) Z I62 L w_I62 bd_Z q_I62 cp_Z 
end
section
/-! ===== cells are made: the world, but for shapes that aren't whole yet ===== -/
def NH (Z : jZ) (b : Nat) : Prop := ∀ a c j, jk Z a c → jr Z a j ≠ some b
def PW (Z : jZ) (I : jI) : Prop := UQ Z ∧ OK Z I ∧ RI Z I
theorem rg0 {lo hi : Int} (h1 : lo ≤ 0) (h2 : 0 ≤ hi) : rg lo hi 0 := ⟨h1, h2⟩
theorem okF0 (c j : Nat) : okF c j 0 := by
  unfold okF
  split <;> first | trivial | exact rg0 (by decide) (by decide)
theorem okA0 (c j i : Nat) : okA c j i 0 := by
  unfold okA
  split <;> first | trivial | exact rg0 (by decide) (by decide) | exact ⟨fun _ => rg0 (by decide) (by decide), fun _ => rg0 (by decide) (by decide), fun _ => rg0 (by decide) (by decide)⟩ | exact ⟨fun _ _ => rg0 (by decide) (by decide), fun _ _ => rg0 (by decide) (by decide), fun _ _ _ => rg0 (by decide) (by decide)⟩
theorem jk_old {Z : jZ} {q k m a c : Nat} (h : jk (jnw Z q k m) a c) (hne : a ≠ q) : jk Z a c := by
  refine ⟨?_, ?_⟩
  · rcases List.mem_append.mp h.1 with h1 | h1
    · exact h1
    · exact absurd (List.mem_singleton.mp h1) hne
  · have h2 : va_up Z.2.1 q k a = c := h.2
    rw [va_up_ne _ _ hne] at h2
    exact h2
theorem jr_old {Z : jZ} {q k m a j : Nat} (hne : a ≠ q) : jr (jnw Z q k m) a j = jr Z a j := congrFun (va_up_ne _ _ hne) j
theorem jr_new {Z : jZ} {q k m j : Nat} : jr (jnw Z q k m) q j = none := congrFun (va_up_self Z.2.2.2 q (fun _ => none)) j
theorem jlen_old {Z : jZ} {q k m a : Nat} (hne : a ≠ q) : jlen (jnw Z q k m) a = jlen Z a := va_up_ne _ _ hne
theorem capN_iff {Z Z' : jZ} {a : Nat} (h : (∃ r, jk Z' r 0 ∧ jr Z' r 0 = some a) ↔ (∃ r, jk Z r 0 ∧ jr Z r 0 = some a)) : capN Z' a = capN Z a := by
  unfold capN
  by_cases hh : ∃ r, jk Z r 0 ∧ jr Z r 0 = some a
  · rw [if_pos hh, if_pos (h.mpr hh)]
  · rw [if_neg hh, if_neg (fun g => hh (h.mp g))]
theorem capN_nw {Z : jZ} {q k m a : Nat} (hq : q ∉ Z.1) : capN (jnw Z q k m) a = capN Z a := by
  refine capN_iff ⟨fun ⟨r, h1, h2⟩ => ?_, fun ⟨r, h1, h2⟩ => ?_⟩
  · have hr : r ≠ q := fun e => by subst e; rw [jr_new] at h2; cases h2
    exact ⟨r, jk_old h1 hr, by rw [← jr_old (k := k) (m := m) hr]; exact h2⟩
  · have hr : r ≠ q := fun e => hq (e ▸ h1.1)
    exact ⟨r, (jext_nw hq r 0 h1).1, by rw [jr_old hr]; exact h2⟩
theorem capN_new {Z : jZ} {q : Nat} (uq : UQ Z) (hq : q ∉ Z.1) : capN Z q = 131072 := by
  unfold capN
  rw [if_neg (fun ⟨r, h1, h2⟩ => hq (uq.2.1 r 0 0 q h1 h2))]
theorem klen_old {Z : jZ} {q k m a c : Nat} (uq : UQ Z) (hq : q ∉ Z.1) (ha : jk Z a c) : klen (jnw Z q k m) a = klen Z a := by
  have hne : a ≠ q := fun e => hq (e ▸ ha.1)
  unfold klen
  rw [jr_old hne]
  cases e : jr Z a 0 with
  | none => rfl
  | some b => exact jlen_old (fun h => hq (h ▸ uq.2.1 a c 0 b ha e))
theorem potc_nw {Z : jZ} {q k m : Nat} (uq : UQ Z) (hq : q ∉ Z.1) : potc (jnw Z q k m) = potc Z + (if k = 7 then 2048 else 0) := by
  unfold potc
  show ((Z.1 ++ [q]).map _).sum = _
  rw [List.map_append, List.sum_append]
  have e1 : Z.1.map (fun a => if (jnw Z q k m).2.1 a = 7 then (capN (jnw Z q k m) a - klen (jnw Z q k m) a) / 64 else 0) = Z.1.map (fun a => if Z.2.1 a = 7 then (capN Z a - klen Z a) / 64 else 0) := by
    refine List.map_congr_left (fun a ha => ?_)
    have hne : a ≠ q := fun e => hq (e ▸ ha)
    rw [show (jnw Z q k m).2.1 a = Z.2.1 a from va_up_ne _ _ hne, capN_nw hq, klen_old uq hq ⟨ha, rfl⟩]
  rw [e1]
  congr 1
  simp only [List.map_cons, List.map_nil, List.sum_cons, List.sum_nil, Nat.add_zero]
  have kq : (jnw Z q k m).2.1 q = k := va_up_self _ _ _
  have cq : capN (jnw Z q k m) q = 131072 := by rw [capN_nw hq]; exact capN_new uq hq
  have lq : klen (jnw Z q k m) q = 0 := by unfold klen; rw [jr_new]
  by_cases hk : k = 7
  · rw [if_pos (kq.trans hk), if_pos hk, cq, lq, show (131072 - 0) / 64 = 2048 from rfl]
  · rw [if_neg (fun e => hk (kq.symm.trans e)), if_neg hk]
theorem UQ_nw {Z : jZ} {q k m : Nat} (uq : UQ Z) (hq : q ∉ Z.1) : UQ (jnw Z q k m) := by
  refine ⟨List.nodup_append.mpr ⟨uq.1, List.nodup_cons.mpr ⟨List.not_mem_nil, List.nodup_nil⟩, fun x hx y hy h => hq (by rw [← List.mem_singleton.mp hy, ← h]; exact hx)⟩, fun a c j b hk e => ?_, fun a c j a' c' j' b hk hk' e e' hs hs' => ?_⟩
  · have hne : a ≠ q := fun h => by subst h; rw [jr_new] at e; cases e
    rw [jr_old hne] at e
    exact List.mem_append_left _ (uq.2.1 a c j b (jk_old hk hne) e)
  · have hne : a ≠ q := fun h => by subst h; rw [jr_new] at e; cases e
    have hne' : a' ≠ q := fun h => by subst h; rw [jr_new] at e'; cases e'
    rw [jr_old hne] at e
    rw [jr_old hne'] at e'
    exact uq.2.2 a c j a' c' j' b (jk_old hk hne) (jk_old hk' hne') e e' hs hs'
theorem PW_nw {Z : jZ} {I : jI} {q k m : Nat} (h : PW Z I) (hq : q ∉ Z.1) : PW (jnw Z q k m) (jz0 I q) := by
  obtain ⟨uq, ok, ri⟩ := h
  have Io : ∀ a, a ≠ q → jz0 I q a = I a := fun a ha => va_up_ne _ _ ha
  have In : jz0 I q q = fun _ => 0 := va_up_self _ _ _
  have inP : ∀ a c j b, jk Z a c → jr Z a j = some b → b ≠ q := fun a c j b hk e h => hq (h ▸ uq.2.1 a c j b hk e)
  refine ⟨UQ_nw uq hq, ⟨fun a c j hk hc => ?_, fun a c j b hk e kb hs i => ?_⟩, fun a b0 b1 b2 b4 hk e0 e1 e2 e4 => ?_⟩
  · by_cases hne : a = q
    · subst hne; rw [In]; exact okF0 c j
    · rw [Io a hne]; exact ok.1 a c j (jk_old hk hne) hc
  · have hne : a ≠ q := fun h => by subst h; rw [jr_new] at e; cases e
    rw [jr_old hne] at e
    have hk' := jk_old hk hne
    have hb := inP a c j b hk' e
    rw [Io b hb]
    exact ok.2 a c j b hk' e (by rw [← show (jnw Z q k m).2.1 b = Z.2.1 b from va_up_ne _ _ hb]; exact kb) hs i
  · have hne : a ≠ q := fun h => by subst h; rw [jr_new] at e0; cases e0
    rw [jr_old hne] at e0 e1 e2 e4
    have hk' := jk_old hk hne
    have g := ri a b0 b1 b2 b4 hk' e0 e1 e2 e4
    unfold RI1 at g ⊢
    rw [Io a hne, Io b1 (inP a 7 1 b1 hk' e1), Io b2 (inP a 7 2 b2 hk' e2), Io b4 (inP a 7 4 b4 hk' e4), jlen_old (inP a 7 0 b0 hk' e0), capN_nw hq]
    exact g
/-- behind a reference put -/
theorem jrR_o {Z : jZ} {a j a' j' : Nat} {v : Option Nat} (h : ¬ (a' = a ∧ j' = j)) : jr (jpR Z a j v) a' j' = jr Z a' j' := by
  by_cases e : a' = a
  · subst e; exact jrR_off (fun q => h ⟨rfl, q⟩)
  · exact jrR_ne e
theorem UQ_put {Z : jZ} {a c j b : Nat} (uq : UQ Z) (ka : jk Z a c) (hb : b ∈ Z.1) (hn : NH Z b ∨ jsr c j = true) : UQ (jpR Z a j (some b)) := by
  refine ⟨uq.1, fun x d i y hk e => ?_, fun x d i x' d' i' y hk hk' e e' hs hs' => ?_⟩
  · by_cases h : x = a ∧ i = j
    · obtain ⟨rfl, rfl⟩ := h
      rw [jrR_at] at e; cases e; exact hb
    · rw [jrR_o h] at e; exact uq.2.1 x d i y hk e
  · by_cases h : x = a ∧ i = j
    · obtain ⟨rfl, rfl⟩ := h
      rw [jrR_at] at e; cases e
      by_cases h' : x' = x ∧ i' = i
      · exact ⟨h'.1.symm, h'.2.symm⟩
      · rw [jrR_o h'] at e'
        rcases hn with hn | hn
        · exact absurd e' (hn x' d' i' hk')
        · have hd : d = c := (show Z.2.1 x = d from hk.2).symm.trans ka.2
          rw [hd, hn] at hs; cases hs
    · rw [jrR_o h] at e
      by_cases h' : x' = a ∧ i' = j
      · obtain ⟨rfl, rfl⟩ := h'
        rw [jrR_at] at e'; cases e'
        rcases hn with hn | hn
        · exact absurd e (hn x d i hk)
        · have hd : d' = c := (show Z.2.1 x' = d' from hk'.2).symm.trans ka.2
          rw [hd, hn] at hs'; cases hs'
      · rw [jrR_o h'] at e'
        exact uq.2.2 x d i x' d' i' y hk hk' e e' hs hs'
theorem NH_put {Z : jZ} {a j b u : Nat} (h : NH Z u) (hu : u ≠ b) : NH (jpR Z a j (some b)) u := fun x d i hk e => by
  by_cases g : x = a ∧ i = j
  · obtain ⟨rfl, rfl⟩ := g
    rw [jrR_at] at e; cases e; exact hu rfl
  · rw [jrR_o g] at e; exact h x d i hk e
theorem NH_nw {Z : jZ} {q k m u : Nat} (h : NH Z u) : NH (jnw Z q k m) u := fun x d i hk e => by
  have hne : x ≠ q := fun g => by subst g; rw [jr_new] at e; cases e
  rw [jr_old hne] at e
  exact h x d i (jk_old hk hne) e
theorem NH_new {Z : jZ} {q k m : Nat} (uq : UQ Z) (hq : q ∉ Z.1) : NH (jnw Z q k m) q := fun x d i hk e => by
  have hne : x ≠ q := fun g => by subst g; rw [jr_new] at e; cases e
  rw [jr_old hne] at e
  exact hq (uq.2.1 x d i q (jk_old hk hne) e)
theorem capN_put {Z : jZ} {a c j b x : Nat} (ka : jk Z a c) (h0 : ¬ (c = 0 ∧ j = 0)) : capN (jpR Z a j (some b)) x = capN Z x := by
  have o : ∀ r, jk Z r 0 → ¬ (r = a ∧ 0 = j) := fun r hr h => h0 ⟨(ka.2.symm.trans (by rw [← h.1]; exact hr.2)), h.2.symm⟩
  exact capN_iff ⟨fun ⟨r, h1, h2⟩ => ⟨r, h1, by rw [← jrR_o (v := some b) (o r h1)]; exact h2⟩, fun ⟨r, h1, h2⟩ => ⟨r, h1, by rw [jrR_o (o r h1)]; exact h2⟩⟩
theorem capN_le {Z : jZ} {a j b x : Nat} (hn : jr Z a j = none) : capN Z x ≤ capN (jpR Z a j (some b)) x := by
  by_cases hh : ∃ r, jk Z r 0 ∧ jr Z r 0 = some x
  · have : ∃ r, jk (jpR Z a j (some b)) r 0 ∧ jr (jpR Z a j (some b)) r 0 = some x := by
      obtain ⟨r, h1, h2⟩ := hh
      refine ⟨r, h1, ?_⟩
      rw [jrR_o (fun h => ?_)]
      · exact h2
      · rw [h.1, h.2, hn] at h2; cases h2
    unfold capN
    rw [if_pos hh, if_pos this]
    exact Nat.le_refl _
  · rcases capN_cases (jpR Z a j (some b)) x with h | h <;> rw [h] <;> unfold capN <;> rw [if_neg hh] <;> omega
theorem klen_put {Z : jZ} {a j b x : Nat} (h : ¬ (x = a ∧ 0 = j)) : klen (jpR Z a j (some b)) x = klen Z x := by
  unfold klen
  rw [jrR_o h]
theorem potc_put {Z : jZ} {a c j b : Nat} (ka : jk Z a c) (h0 : ¬ (c = 0 ∧ j = 0)) (h7 : ¬ (c = 7 ∧ j = 0)) : potc (jpR Z a j (some b)) = potc Z := by
  unfold potc
  congr 1
  refine List.map_congr_left (fun x hx => ?_)
  show (if Z.2.1 x = 7 then (capN (jpR Z a j (some b)) x - klen (jpR Z a j (some b)) x) / 64 else 0) = _
  by_cases hk : Z.2.1 x = 7
  · rw [if_pos hk, if_pos hk, capN_put ka h0, klen_put (fun h => h7 ⟨by rw [← ka.2, ← h.1]; exact hk, h.2.symm⟩)]
  · rw [if_neg hk, if_neg hk]
theorem potc_put7 {Z : jZ} {a b : Nat} (uq : UQ Z) (ka : jk Z a 7) (hn : jr Z a 0 = none) (hl : jlen Z b = 64) : potc (jpR Z a 0 (some b)) + 1 = potc Z := by
  have h := sum_one (l := Z.1) (f := fun x => if Z.2.1 x = 7 then (capN (jpR Z a 0 (some b)) x - klen (jpR Z a 0 (some b)) x) / 64 else 0) (g := fun x => if Z.2.1 x = 7 then (capN Z x - klen Z x) / 64 else 0) (a := a) uq.1 ka.1 (fun x hx hne => by
    show (if Z.2.1 x = 7 then _ else 0) = (if Z.2.1 x = 7 then _ else 0)
    rw [capN_put ka (by omega), klen_put (fun h => hne h.1)])
  have k1 : klen (jpR Z a 0 (some b)) a = 64 := by
    unfold klen
    rw [jrR_at]
    exact hl
  have k0 : klen Z a = 0 := by
    unfold klen
    rw [hn]
  simp only [if_pos ka.2, k1, k0] at h
  rw [capN_put ka (by omega)] at h
  have e1 : potc (jpR Z a 0 (some b)) = (Z.1.map (fun x => if Z.2.1 x = 7 then (capN (jpR Z a 0 (some b)) x - klen (jpR Z a 0 (some b)) x) / 64 else 0)).sum := rfl
  have e2 : potc Z = (Z.1.map (fun x => if Z.2.1 x = 7 then (capN Z x - klen Z x) / 64 else 0)).sum := rfl
  rw [← e1, ← e2] at h
  rcases capN_cases Z a with hc | hc <;> rw [hc] at h <;> omega
theorem potc_put0 {Z : jZ} {a b : Nat} (uq : UQ Z) (ka : jk Z a 0) (hn : jr Z a 0 = none) (kb : jk Z b 7) (hb : NH Z b) (hl : klen Z b = 64) : potc (jpR Z a 0 (some b)) = potc Z + 14336 := by
  have hab : b ≠ a := fun e => by subst e; cases ka.2.symm.trans kb.2
  have h := sum_one (l := Z.1) (f := fun x => if Z.2.1 x = 7 then (capN (jpR Z a 0 (some b)) x - klen (jpR Z a 0 (some b)) x) / 64 else 0) (g := fun x => if Z.2.1 x = 7 then (capN Z x - klen Z x) / 64 else 0) (a := b) uq.1 kb.1 (fun x hx hne => by
    show (if Z.2.1 x = 7 then _ else 0) = (if Z.2.1 x = 7 then _ else 0)
    by_cases hk : Z.2.1 x = 7
    · rw [if_pos hk, if_pos hk]
      have hxa : x ≠ a := fun e => by subst e; cases ka.2.symm.trans hk
      rw [klen_put (fun h => hxa h.1)]
      have hcap : capN (jpR Z a 0 (some b)) x = capN Z x := by
        refine capN_iff ⟨fun g => ?_, fun g => ?_⟩
        · obtain ⟨r, h1, h2⟩ := g
          by_cases hr : r = a
          · subst hr
            rw [jrR_at] at h2; cases h2; exact absurd rfl hne
          · rw [jrR_ne hr] at h2; exact ⟨r, h1, h2⟩
        · obtain ⟨r, h1, h2⟩ := g
          have hr : r ≠ a := fun e => by subst e; rw [hn] at h2; cases h2
          exact ⟨r, h1, by rw [jrR_ne hr]; exact h2⟩
      rw [hcap]
    · rw [if_neg hk, if_neg hk])
  have c1 : capN (jpR Z a 0 (some b)) b = 1048576 := by
    unfold capN
    rw [if_pos ⟨a, ka, jrR_at⟩]
  have c0 : capN Z b = 131072 := by
    unfold capN
    rw [if_neg (fun ⟨r, h1, h2⟩ => hb r 0 0 h1 h2)]
  have k1 : klen (jpR Z a 0 (some b)) b = 64 := by rw [klen_put (fun h => hab h.1)]; exact hl
  simp only [if_pos kb.2, k1, hl, c1, c0] at h
  have e1 : potc (jpR Z a 0 (some b)) = (Z.1.map (fun x => if Z.2.1 x = 7 then (capN (jpR Z a 0 (some b)) x - klen (jpR Z a 0 (some b)) x) / 64 else 0)).sum := rfl
  have e2 : potc Z = (Z.1.map (fun x => if Z.2.1 x = 7 then (capN Z x - klen Z x) / 64 else 0)).sum := rfl
  rw [← e1, ← e2] at h
  omega
theorem PW_put {Z : jZ} {I : jI} {a c j b : Nat} (h : PW Z I) (ka : jk Z a c) (hn : jr Z a j = none) (hb : b ∈ Z.1) (hh : NH Z b ∨ jsr c j = true) (hA : jia (Z.2.1 b) = true → jsr c j = false → ∀ i, okA c j i (I b i))
    (hR : c = 7 → ∀ b0 b1 b2 b4, jr (jpR Z a j (some b)) a 0 = some b0 → jr (jpR Z a j (some b)) a 1 = some b1 → jr (jpR Z a j (some b)) a 2 = some b2 → jr (jpR Z a j (some b)) a 4 = some b4 → RI1 (jpR Z a j (some b)) I a b0 b1 b2 b4) : PW (jpR Z a j (some b)) I := by
  obtain ⟨uq, ok, ri⟩ := h
  refine ⟨UQ_put uq ka hb hh, ⟨ok.1, fun x d i y hk e kb hs n => ?_⟩, fun x b0 b1 b2 b4 hk e0 e1 e2 e4 => ?_⟩
  · by_cases g : x = a ∧ i = j
    · obtain ⟨rfl, rfl⟩ := g
      rw [jrR_at] at e; cases e
      have hd : d = c := (show Z.2.1 x = d from hk.2).symm.trans ka.2
      subst hd
      exact hA kb hs n
    · rw [jrR_o g] at e
      exact ok.2 x d i y hk e kb hs n
  · by_cases g : x = a
    · subst g
      exact hR (ka.2.symm.trans hk.2) b0 b1 b2 b4 e0 e1 e2 e4
    · rw [jrR_ne g] at e0 e1 e2 e4
      have r := ri x b0 b1 b2 b4 hk e0 e1 e2 e4
      exact ⟨r.1, r.2.1, Nat.le_trans r.2.2.1 (capN_le hn), r.2.2.2⟩
end
section
/-! ===== constructors: from a world, cells are made and made whole ===== -/
/-- the shape of one cell, references not into U -/
def sh1 (Z : jZ) (U : List Nat) (a c : Nat) : Prop :=
  (∀ j k o, jsh c j = some (k, o) → ∃ b, jr Z a j = some b ∧ b ∉ U ∧ jk Z b k ∧ ∀ m, o = some m → jlen Z b = m)
  ∧ (c = 18 → ∀ i b, jr Z a i = some b → b ∉ U ∧ jk Z b 5)
  ∧ (c = 17 → ∀ i, i < jlen Z a → ∃ b, jr Z a i = some b ∧ b ∉ U ∧ jk Z b 2)
  ∧ (c = 19 → ∀ i, i < jlen Z a → ∃ b, jr Z a i = some b ∧ b ∉ U ∧ jk Z b 13 ∧ jlen Z b = 40)
theorem sh1_ext {Z Z' : jZ} {U U' : List Nat} {a c : Nat} (h : sh1 Z U a c) (hk : jk Z a c) (hx : jext Z Z') (hr : Z'.2.2.2 a = Z.2.2.2 a) (hU : ∀ b, b ∈ Z.1 → b ∉ U → b ∉ U') : sh1 Z' U' a c := by
  have er : ∀ i, jr Z' a i = jr Z a i := fun i => congrFun hr i
  refine ⟨fun j k o e => ?_, fun e i b hb => ?_, fun e i hi => ?_, fun e i hi => ?_⟩
  · obtain ⟨b, h1, h2, h3, h4⟩ := h.1 j k o e
    exact ⟨b, (er j).trans h1, hU b h3.1 h2, (hx b k h3).1, fun m hm => (hx b k h3).2.trans (h4 m hm)⟩
  · rw [er] at hb
    obtain ⟨h1, h2⟩ := h.2.1 e i b hb
    exact ⟨hU b h2.1 h1, (hx b 5 h2).1⟩
  · rw [(hx a c hk).2] at hi
    obtain ⟨b, h1, h2, h3⟩ := h.2.2.1 e i hi
    exact ⟨b, (er i).trans h1, hU b h3.1 h2, (hx b 2 h3).1⟩
  · rw [(hx a c hk).2] at hi
    obtain ⟨b, h1, h2, h3, h4⟩ := h.2.2.2 e i hi
    exact ⟨b, (er i).trans h1, hU b h3.1 h2, (hx b 13 h3).1, (hx b 13 h3).2.trans h4⟩
theorem jsh_arr {k j : Nat} (h : 13 ≤ k) : jsh k j = none := by
  unfold jsh
  split <;> first | rfl | omega
theorem jsh_no {k j k' : Nat} {o : Option Nat} {P : Prop} (h : 13 ≤ k) (e : jsh k j = some (k', o)) : P := by
  rw [jsh_arr h] at e
  cases e
theorem sh1_prim {Z : jZ} {U : List Nat} {a k : Nat} (h : 13 ≤ k) (h2 : k ≤ 16) : sh1 Z U a k :=
  ⟨fun _ _ _ e => jsh_no h e, fun e => by omega, fun e => by omega, fun e => by omega⟩
/-- from the base (Zs, Is): new cells, those of U not whole yet; at most x cells, y slots, z growth more -/
def CW (Zs : jZ) (Is : jI) (Z : jZ) (I : jI) (U : List Nat) (x y z : Nat) : Prop :=
  jext Zs Z ∧ (∀ a ∈ Zs.1, Z.2.2.2 a = Zs.2.2.2 a ∧ I a = Is a) ∧ (∀ a c, jk Z a c → a ∉ Zs.1 → a ∉ U → sh1 Z U a c) ∧ PW Z I ∧ (∀ u ∈ U, u ∈ Z.1 ∧ u ∉ Zs.1 ∧ NH Z u)
  ∧ (jcz Z ≤ jcz Zs + x ∧ jsz Z ≤ jsz Zs + y ∧ potc Z ≤ potc Zs + z) ∧ CP Zs Z
theorem CW_nw {Zs Z : jZ} {Is I : jI} {U : List Nat} {x y z q : Nat} (k m : Nat) (h : CW Zs Is Z I U x y z) (hq : q ∉ Z.1) : CW Zs Is (jnw Z q k m) (jz0 I q) (q :: U) (x + 1) (y + jcs k m) (z + if k = 7 then 2048 else 0) := by
  obtain ⟨h1, h2, h3, h4, h5, ⟨h6, h7, h8⟩, h9⟩ := h
  have hx : jext Z (jnw Z q k m) := jext_nw hq
  have hqs : q ∉ Zs.1 := fun e => hq (h1 q _ ⟨e, rfl⟩).1.1
  refine ⟨jext_trans h1 hx, fun a ha => ?_, fun a c ha hs hU => ?_, PW_nw h4 hq, fun u hu => ?_, ⟨?_, ?_, ?_⟩, fun r hr => (capN_nw hq).trans (h9 r hr)⟩
  · have hne : a ≠ q := fun e => hqs (e ▸ ha)
    exact ⟨(va_up_ne _ _ hne).trans (h2 a ha).1, (va_up_ne _ _ hne).trans (h2 a ha).2⟩
  · have hne : a ≠ q := fun e => hU (e ▸ List.mem_cons_self)
    refine sh1_ext (h3 a c (jk_old ha hne) hs (fun e => hU (List.mem_cons_of_mem _ e))) (jk_old ha hne) hx (va_up_ne _ _ hne) (fun b hb hbU e => ?_)
    rcases List.mem_cons.mp e with e | e
    · exact hq (e ▸ hb)
    · exact hbU e
  · rcases List.mem_cons.mp hu with e | e
    · subst e; exact ⟨jk_nw.1, hqs, NH_new h4.1 hq⟩
    · obtain ⟨g1, g2, g3⟩ := h5 u e
      exact ⟨List.mem_append_left _ g1, g2, NH_nw g3⟩
  · rw [jcz_nw]; omega
  · rw [jsz_nw hq]; omega
  · rw [potc_nw h4.1 hq]; omega
theorem CW_put {Zs Z : jZ} {Is I : jI} {U : List Nat} {x y z z' a c j b : Nat} (h : CW Zs Is Z I U x y z) (ha : a ∈ U) (ka : jk Z a c) (hn : jr Z a j = none) (hb : b ∈ Z.1) (hbU : b ∉ U) (hh : NH Z b ∨ jsr c j = true) (hA : jia (Z.2.1 b) = true → jsr c j = false → ∀ i, okA c j i (I b i))
    (hR : c = 7 → ∀ b0 b1 b2 b4, jr (jpR Z a j (some b)) a 0 = some b0 → jr (jpR Z a j (some b)) a 1 = some b1 → jr (jpR Z a j (some b)) a 2 = some b2 → jr (jpR Z a j (some b)) a 4 = some b4 → RI1 (jpR Z a j (some b)) I a b0 b1 b2 b4)
    (hP : potc (jpR Z a j (some b)) ≤ potc Zs + z') (hC : ∀ r, jk Zs r 7 → capN (jpR Z a j (some b)) r = capN Z r) : CW Zs Is (jpR Z a j (some b)) I U x y z' := by
  obtain ⟨h1, h2, h3, h4, h5, ⟨h6, h7, h8⟩, h9⟩ := h
  refine ⟨jext_trans h1 jext_putr, fun a' ha' => ?_, fun a' c' hk hs hU => ?_, PW_put h4 ka hn hb hh hA hR, fun u hu => ?_, ⟨h6, h7, hP⟩, fun r hr => (hC r hr).trans (h9 r hr)⟩
  · have hne : a' ≠ a := fun e => (h5 a ha).2.1 (e ▸ ha')
    exact ⟨(va_up_ne _ _ hne).trans (h2 a' ha').1, (h2 a' ha').2⟩
  · have hne : a' ≠ a := fun e => hU (e ▸ ha)
    exact sh1_ext (h3 a' c' hk hs hU) hk jext_putr (va_up_ne _ _ hne) (fun _ _ g => g)
  · obtain ⟨g1, g2, g3⟩ := h5 u hu
    exact ⟨g1, g2, NH_put g3 (fun e => hbU (e ▸ hu))⟩
theorem CW_int {Zs Z : jZ} {Is I : jI} {U : List Nat} {x y z a c j : Nat} {v : Int32} (h : CW Zs Is Z I U x y z) (ha : a ∈ U) (ka : jk Z a c) (hc : c < 13) (h7 : c ≠ 7) (ok : okF c j v) : CW Zs Is Z (jpI I a j v) U x y z := by
  obtain ⟨h1, h2, h3, ⟨p1, p2, p3⟩, h5, h6, h9⟩ := h
  have hna := (h5 a ha).2.2
  refine ⟨h1, fun a' ha' => ⟨(h2 a' ha').1, ?_⟩, h3, ⟨p1, ⟨fun a' c' j' hk hc' => ?_, fun a' c' j' b hk e kb hs i => ?_⟩, fun a' b0 b1 b2 b4 hk e0 e1 e2 e4 => ?_⟩, h5, h6, h9⟩
  · have hne : a' ≠ a := fun e => (h5 a ha).2.1 (e ▸ ha')
    rw [jpI_ne hne]; exact (h2 a' ha').2
  · by_cases e : a' = a
    · subst e
      cases ka.2.symm.trans hk.2
      by_cases ej : j' = j
      · subst ej; rw [jpI_at]; exact ok
      · rw [jpI_off ej]; exact p2.1 _ _ _ hk hc'
    · rw [jpI_ne e]; exact p2.1 _ _ _ hk hc'
  · have hne : b ≠ a := fun g => hna a' c' j' hk (g ▸ e)
    rw [jpI_ne hne]; exact p2.2 a' c' j' b hk e kb hs i
  · have r := p3 a' b0 b1 b2 b4 hk e0 e1 e2 e4
    unfold RI1 at r ⊢
    have n0 : a' ≠ a := fun g => h7 (ka.2.symm.trans (by rw [← g]; exact hk.2))
    have n1 : b1 ≠ a := fun g => hna a' 7 1 hk (g ▸ e1)
    have n2 : b2 ≠ a := fun g => hna a' 7 2 hk (g ▸ e2)
    have n4 : b4 ≠ a := fun g => hna a' 7 4 hk (g ▸ e4)
    rw [jpI_ne n0, jpI_ne n1, jpI_ne n2, jpI_ne n4]
    exact r
theorem CW_done {Zs Z : jZ} {Is I : jI} {U : List Nat} {x y z u c : Nat} (h : CW Zs Is Z I (u :: U) x y z) (ku : jk Z u c) (hs : sh1 Z U u c) : CW Zs Is Z I U x y z := by
  obtain ⟨h1, h2, h3, h4, h5, h6, h9⟩ := h
  refine ⟨h1, h2, fun a c' hk hs' hU => ?_, h4, fun w hw => h5 w (List.mem_cons_of_mem _ hw), h6, h9⟩
  by_cases e : a = u
  · subst e
    cases ku.2.symm.trans hk.2
    exact hs
  · exact sh1_ext (h3 a c' hk hs' (fun q => (List.mem_cons.mp q).elim e hU)) hk jext_rfl rfl (fun b _ hb q => hb (List.mem_cons_of_mem _ q))
/-- in the constructor of h0, of kind c, begun at (Zc, Ic): the fields J are done -/
def SW (Zs : jZ) (Is : jI) (Zc : jZ) (Ic : jI) (U : List Nat) (h0 c : Nat) (J : List Nat) (Z : jZ) (I : jI) (x y z : Nat) : Prop :=
  CW Zs Is Z I (h0 :: U) x y z ∧ jext Zc Z ∧ (∀ u ∈ Zc.1, u ≠ h0 → Z.2.2.2 u = Zc.2.2.2 u ∧ I u = Ic u) ∧ jk Z h0 c ∧ h0 ∉ U ∧ (∀ j, j ∉ J → jr Z h0 j = none)
  ∧ (∀ j ∈ J, ∀ k o, jsh c j = some (k, o) → ∃ b, jr Z h0 j = some b ∧ b ∉ h0 :: U ∧ jk Z b k ∧ ∀ m, o = some m → jlen Z b = m)
theorem SW_start {Zs Z : jZ} {Is I : jI} {U : List Nat} {h0 c x y z : Nat} (h : CW Zs Is Z I (h0 :: U) x y z) (hk : jk Z h0 c) (hU : h0 ∉ U) (hn : ∀ j, jr Z h0 j = none) : SW Zs Is Z I U h0 c [] Z I x y z :=
  ⟨h, jext_rfl, fun _ _ _ => ⟨rfl, rfl⟩, hk, hU, fun j _ => hn j, fun _ h => absurd h List.not_mem_nil⟩
theorem SW_int {Zs Zc Z : jZ} {Is Ic I : jI} {U : List Nat} {h0 c x y z : Nat} {J : List Nat} (j : Nat) {v : Int32} (h : SW Zs Is Zc Ic U h0 c J Z I x y z) (hc : c < 13 := by decide) (h7 : c ≠ 7 := by decide) (ok : okF c j v) : SW Zs Is Zc Ic U h0 c J Z (jpI I h0 j v) x y z := by
  obtain ⟨h1, h2, h3, h4, h5, h6, h7'⟩ := h
  exact ⟨CW_int h1 List.mem_cons_self h4 hc h7 ok, h2, fun u hu hne => ⟨(h3 u hu hne).1, by rw [jpI_ne hne]; exact (h3 u hu hne).2⟩, h4, h5, h6, h7'⟩
/-- a whole cell b goes to field j -/
theorem SW_ref {Zs Zc Z : jZ} {Is Ic I : jI} {U : List Nat} {h0 c x y z z' : Nat} {J : List Nat} (j : Nat) {b : Nat} (h : SW Zs Is Zc Ic U h0 c J Z I x y z) (hj : j ∉ J) (hb : b ∈ Z.1) (hbU : b ∉ h0 :: U) (hh : NH Z b ∨ jsr c j = true) (hA : jia (Z.2.1 b) = true → jsr c j = false → ∀ i, okA c j i (I b i))
    (hR : c = 7 → ∀ b0 b1 b2 b4, jr (jpR Z h0 j (some b)) h0 0 = some b0 → jr (jpR Z h0 j (some b)) h0 1 = some b1 → jr (jpR Z h0 j (some b)) h0 2 = some b2 → jr (jpR Z h0 j (some b)) h0 4 = some b4 → RI1 (jpR Z h0 j (some b)) I h0 b0 b1 b2 b4)
    (hP : potc (jpR Z h0 j (some b)) ≤ potc Zs + z') (hC : ∀ r, jk Zs r 7 → capN (jpR Z h0 j (some b)) r = capN Z r) (hs : ∀ k o, jsh c j = some (k, o) → jk Z b k ∧ ∀ m, o = some m → jlen Z b = m) : SW Zs Is Zc Ic U h0 c (j :: J) (jpR Z h0 j (some b)) I x y z' := by
  obtain ⟨h1, h2, h3, h4, h5, h6, h7⟩ := h
  refine ⟨CW_put h1 List.mem_cons_self h4 (h6 j hj) hb hbU hh hA hR hP hC, jext_trans h2 jext_putr, fun u hu hne => ⟨(va_up_ne _ _ hne).trans (h3 u hu hne).1, (h3 u hu hne).2⟩, h4, h5, fun i hi => ?_, fun i hi k o e => ?_⟩
  · have hne : i ≠ j := fun q => hi (q ▸ List.mem_cons_self)
    rw [jrR_off hne]; exact h6 i (fun q => hi (List.mem_cons_of_mem _ q))
  · by_cases hij : i = j
    · subst hij
      exact ⟨b, jrR_at, hbU, (hs k o e).1, (hs k o e).2⟩
    · obtain ⟨b', g1, g2, g3, g4⟩ := h7 i ((List.mem_cons.mp hi).resolve_left hij) k o e
      exact ⟨b', by rw [jrR_off hij]; exact g1, g2, g3, g4⟩
/-- a new cell, whole at once -/
theorem SW_new {Zs Zc Z : jZ} {Is Ic I : jI} {U : List Nat} {h0 c x y z q : Nat} {J : List Nat} (k m : Nat) (h : SW Zs Is Zc Ic U h0 c J Z I x y z) (hq : q ∉ Z.1) (hs : sh1 (jnw Z q k m) (h0 :: U) q k) (hk7 : k ≠ 7) : SW Zs Is Zc Ic U h0 c J (jnw Z q k m) (jz0 I q) (x + 1) (y + jcs k m) z ∧ q ∉ h0 :: U ∧ NH (jnw Z q k m) q := by
  obtain ⟨h1, h2, h3, h4, h5, h6, h7⟩ := h
  have g := CW_nw k m h1 hq
  rw [if_neg hk7] at g
  have hh0 : h0 ≠ q := fun e => hq (e ▸ h4.1)
  have hqU : q ∉ h0 :: U := fun e => hq (h1.2.2.2.2.1 q e).1
  have hx : jext Z (jnw Z q k m) := jext_nw hq
  refine ⟨⟨CW_done g jk_nw hs, jext_trans h2 hx, fun u hu hne => ?_, (hx _ _ h4).1, h5, fun j hj => by rw [jr_old hh0]; exact h6 j hj, fun j hj k' o e => ?_⟩, hqU, NH_new h1.2.2.2.1.1 hq⟩
  · have hne' : u ≠ q := fun e => hq (e ▸ (h2 u _ ⟨hu, rfl⟩).1.1)
    exact ⟨(va_up_ne _ _ hne').trans (h3 u hu hne).1, (va_up_ne _ _ hne').trans (h3 u hu hne).2⟩
  · obtain ⟨b, g1, g2, g3, g4⟩ := h7 j hj k' o e
    exact ⟨b, by rw [jr_old hh0]; exact g1, g2, (hx _ _ g3).1, fun m' hm => (hx _ _ g3).2.trans (g4 m' hm)⟩
theorem jcsA {k m : Nat} (h : 13 ≤ k) : jcs k m = m := if_neg (by omega)
/-- a new array of ints, longs, bytes or booleans goes to field j -/
theorem SW_arr {Zs Zc Z : jZ} {Is Ic I : jI} {U : List Nat} {h0 c x y z q : Nat} {J : List Nat} (j k m : Nat) (h : SW Zs Is Zc Ic U h0 c J Z I x y z) (hq : q ∉ Z.1) (hj : j ∉ J := by decide) (hk : 13 ≤ k := by decide) (hk2 : k ≤ 16 := by decide) (h7 : c ≠ 7 := by decide) (h00 : ¬ (c = 0 ∧ j = 0) := by decide) (hs : ∀ k' o, jsh c j = some (k', o) → k' = k ∧ ∀ m', o = some m' → m' = m) : SW Zs Is Zc Ic U h0 c (j :: J) (jpR (jnw Z q k m) h0 j (some q)) (jz0 I q) (x + 1) (y + m) z := by
  obtain ⟨g1, g2, g3⟩ := SW_new k m h hq (sh1_prim hk hk2) (by omega)
  rw [jcsA hk] at g1
  have In : jz0 I q q = fun _ => 0 := va_up_self _ _ _
  refine SW_ref j g1 hj jk_nw.1 g2 (Or.inl g3) (fun _ _ i => by rw [In]; exact okA0 _ _ _) (fun e => absurd e h7) (by rw [potc_put g1.2.2.2.1 h00 (fun e => h7 e.1)]; exact g1.1.2.2.2.2.2.1.2.2) (fun r _ => capN_put g1.2.2.2.1 h00) (fun k' o e => ?_)
  obtain ⟨e1, e2⟩ := hs k' o e
  subst e1
  exact ⟨jk_nw, fun m' hm => by rw [e2 m' hm]; exact jlen_nw⟩
/-- what a constructor does: x, y, z more; ez of the growth is its own -/
def CTWs (Zs : jZ) (c : Nat) (f : Nat → jZ → jI → jL → (jZ → jI → jL → Prop) → Prop) (dx dy ez dz : Nat) : Prop :=
  ∀ (Is : jI) (Z : jZ) (I : jI) (L : jL) (U : List Nat) (h0 x y z : Nat) (Q : jZ → jI → jL → Prop), CW Zs Is Z I (h0 :: U) x y (z + ez) → jk Z h0 c → h0 ∉ U → (∀ j, jr Z h0 j = none) → (∀ j, I h0 j = 0) →
    (∀ Z' I' L', CW Zs Is Z' I' U (x + dx) (y + dy) (z + dz) → jk Z' h0 c → NH Z' h0 → (c = 7 → klen Z' h0 = 64) → jext Z Z' → (∀ u ∈ Z.1, u ≠ h0 → Z'.2.2.2 u = Z.2.2.2 u ∧ I' u = I u) → Q Z' I' L') → f h0 Z I L Q
def CTW (c : Nat) (f : Nat → jZ → jI → jL → (jZ → jI → jL → Prop) → Prop) (dx dy ez dz : Nat) : Prop := ∀ Zs : jZ, CTWs Zs c f dx dy ez dz
theorem SW_end {Zs Zc Z : jZ} {Is Ic I : jI} {U : List Nat} {h0 c x y z : Nat} {J : List Nat} (h : SW Zs Is Zc Ic U h0 c J Z I x y z) (hc : c < 13) (hJ : ∀ j k o, jsh c j = some (k, o) → j ∈ J) : CW Zs Is Z I U x y z ∧ NH Z h0 := by
  obtain ⟨h1, h2, h3, h4, h5, h6, h7⟩ := h
  refine ⟨CW_done h1 h4 ⟨fun j k o e => ?_, fun e => by omega, fun e => by omega, fun e => by omega⟩, (h1.2.2.2.2.1 h0 List.mem_cons_self).2.2⟩
  obtain ⟨b, g1, g2, g3⟩ := h7 j (hJ j k o e) k o e
  exact ⟨b, g1, fun q => g2 (List.mem_cons_of_mem _ q), g3⟩
/-- a new object, made whole by its constructor -/
theorem SW_obj {Zs Zc Z Z1 : jZ} {Is Ic I I1 : jI} {L1 : jL} {U : List Nat} {h0 c x y z q : Nat} {J : List Nat} {k dx dy ez dz : Nat} (z1 : Nat) {f : Nat → jZ → jI → jL → (jZ → jI → jL → Prop) → Prop} (hf : CTWs Zs k f dx dy ez dz) (h : SW Zs Is Zc Ic U h0 c J Z I x y z) (hq : q ∉ Z.1) (eZ : Z1 = jnw Z q k 0) (eI : I1 = jz0 I q) (hz : z + (if k = 7 then 2048 else 0) = z1 + ez) {Q : jZ → jI → jL → Prop}
    (kk : ∀ Z' I' L', SW Zs Is Zc Ic U h0 c J Z' I' (x + 1 + dx) (y + jcs k 0 + dy) (z1 + dz) → jk Z' q k → q ∉ h0 :: U → NH Z' q → (k = 7 → klen Z' q = 64) → jext Z Z' → (∀ u ∈ Z.1, Z'.2.2.2 u = Z.2.2.2 u ∧ I' u = I u) → Q Z' I' L') : f q Z1 I1 L1 Q := by
  subst eZ; subst eI
  obtain ⟨h1, h2, h3, h4, h5, h6, h7⟩ := h
  have g := CW_nw k 0 h1 hq
  rw [hz] at g
  have hh0 : h0 ≠ q := fun e => hq (e ▸ h4.1)
  have hqU : q ∉ h0 :: U := fun e => hq (h1.2.2.2.2.1 q e).1
  have hx : jext Z (jnw Z q k 0) := jext_nw hq
  refine hf Is _ _ _ (h0 :: U) q _ _ _ _ g jk_nw hqU (fun j => jr_new) (fun j => congrFun (va_up_self _ _ _) j) (fun Z' I' L' c1 c2 c3 c4 c5 c6 => ?_)
  have old : ∀ u ∈ Z.1, Z'.2.2.2 u = Z.2.2.2 u ∧ I' u = I u := fun u hu => by
    have hne : u ≠ q := fun e => hq (e ▸ hu)
    obtain ⟨o1, o2⟩ := c6 u (List.mem_append_left _ hu) hne
    exact ⟨o1.trans (va_up_ne _ _ hne), o2.trans (va_up_ne _ _ hne)⟩
  have hxx := jext_trans hx c5
  refine kk Z' I' L' ⟨c1, jext_trans h2 hxx, fun u hu hne => ?_, (hxx _ _ h4).1, h5, fun j hj => (congrFun (old h0 h4.1).1 j).trans (h6 j hj), fun j hj k' o e => ?_⟩ c2 hqU c3 c4 hxx old
  · obtain ⟨o1, o2⟩ := old u (h2 u _ ⟨hu, rfl⟩).1.1
    exact ⟨o1.trans (h3 u hu hne).1, o2.trans (h3 u hu hne).2⟩
  · obtain ⟨b, g1, g2, g3, g4⟩ := h7 j hj k' o e
    exact ⟨b, (congrFun (old h0 h4.1).1 j).trans g1, g2, (hxx _ _ g3).1, fun m hm => (hxx _ _ g3).2.trans (g4 m hm)⟩
/-- an object goes to field j -/
theorem SW_put {Zs Zc Z : jZ} {Is Ic I : jI} {U : List Nat} {h0 c x y z b k : Nat} {J : List Nat} (j : Nat) (h : SW Zs Is Zc Ic U h0 c J Z I x y z) (kb : jk Z b k) (hbU : b ∉ h0 :: U) (hn : NH Z b) (hk : jia k = false) (hj : j ∉ J := by decide) (h7 : c ≠ 7 := by decide) (h00 : ¬ (c = 0 ∧ j = 0) := by decide) (hs : ∀ k' o, jsh c j = some (k', o) → k' = k ∧ ∀ m', o = some m' → jlen Z b = m') : SW Zs Is Zc Ic U h0 c (j :: J) (jpR Z h0 j (some b)) I x y z := by
  refine SW_ref j h hj kb.1 hbU (Or.inl hn) (fun e => by rw [kb.2, hk] at e; cases e) (fun e => absurd e h7) (by rw [potc_put h.2.2.2.1 h00 (fun e => h7 e.1)]; exact h.1.2.2.2.2.2.1.2.2) (fun r _ => capN_put h.2.2.2.1 h00) (fun k' o e => ?_)
  obtain ⟨e1, e2⟩ := hs k' o e
  subst e1
  exact ⟨kb, e2⟩
theorem jsh_big {c j : Nat} (h : 67 ≤ j) : jsh c j = none := by
  unfold jsh
  split <;> first | rfl | omega
theorem shJ {c : Nat} {J : List Nat} (h : ∀ j, j < 67 → (jsh c j).isSome = true → j ∈ J) : ∀ j k o, jsh c j = some (k, o) → j ∈ J := fun j k o e => by
  by_cases hj : j < 67
  · exact h j hj (by rw [e]; rfl)
  · rw [jsh_big (by omega)] at e; cases e
theorem shM {c j k m : Nat} (h : jsh c j = some (k, some m)) : ∀ k' o, jsh c j = some (k', o) → k' = k ∧ ∀ m', o = some m' → m' = m := fun k' o e => by
  rw [h] at e
  cases e
  exact ⟨rfl, fun m' hm => by cases hm; rfl⟩
theorem shMn {c j k m : Nat} (h : jsh c j = some (k, none)) : ∀ k' o, jsh c j = some (k', o) → k' = k ∧ ∀ m', o = some m' → m' = m := fun k' o e => by
  rw [h] at e
  cases e
  exact ⟨rfl, fun m' hm => by cases hm⟩
theorem shMo {Z : jZ} {b c j k : Nat} (h : jsh c j = some (k, none)) : ∀ k' o, jsh c j = some (k', o) → k' = k ∧ ∀ m', o = some m' → jlen Z b = m' := fun k' o e => by
  rw [h] at e
  cases e
  exact ⟨rfl, fun m' hm => by cases hm⟩
theorem shMl {Z : jZ} {b c j k m : Nat} (h : jsh c j = some (k, some m)) (hl : jlen Z b = m) : ∀ k' o, jsh c j = some (k', o) → k' = k ∧ ∀ m', o = some m' → jlen Z b = m' := fun k' o e => by
  rw [h] at e
  cases e
  exact ⟨rfl, fun m' hm => by cases hm; exact hl⟩
theorem RI1_zero {Z : jZ} {I : jI} {a b0 b1 b2 b4 : Nat} (hl : jlen Z b0 = 64) (h : ∀ j, I a j = 0) (h2 : ∀ i, I b2 i = 0) : RI1 Z I a b0 b1 b2 b4 := by
  have z0 : (0 : Int32).toInt = 0 := rfl
  unfold RI1
  rw [h 3, h 8, h 9, hl, z0]
  refine ⟨by omega, Or.inl rfl, ?_, fun p _ => ?_, by omega, fun p hp => by omega⟩
  · rcases capN_cases Z a with e | e <;> rw [e] <;> omega
  · rw [h2 p, z0]; omega
end
section
theorem CW.cast {Zs Z : jZ} {Is I : jI} {U : List Nat} {x y z x' y' z' : Nat} (h : CW Zs Is Z I U x y z) (h1 : x = x') (h2 : y = y') (h3 : z = z') : CW Zs Is Z I U x' y' z' := by subst h1; subst h2; subst h3; exact h
theorem SW_go {Zs Zc Z Z' : jZ} {Is Ic I I' : jI} {U : List Nat} {h0 c x y z x' y' z' : Nat} {J : List Nat} (h : SW Zs Is Zc Ic U h0 c J Z I x y z) (hc : CW Zs Is Z' I' (h0 :: U) x' y' z') (hx : jext Z Z') (old : ∀ u ∈ Z.1, Z'.2.2.2 u = Z.2.2.2 u ∧ I' u = I u) : SW Zs Is Zc Ic U h0 c J Z' I' x' y' z' := by
  obtain ⟨h1, h2, h3, h4, h5, h6, h7⟩ := h
  refine ⟨hc, jext_trans h2 hx, fun u hu hne => ?_, (hx _ _ h4).1, h5, fun j hj => (congrFun (old h0 h4.1).1 j).trans (h6 j hj), fun j hj k' o e => ?_⟩
  · obtain ⟨o1, o2⟩ := old u (h2 u _ ⟨hu, rfl⟩).1.1
    exact ⟨o1.trans (h3 u hu hne).1, o2.trans (h3 u hu hne).2⟩
  · obtain ⟨b, g1, g2, g3, g4⟩ := h7 j hj k' o e
    exact ⟨b, (congrFun (old h0 h4.1).1 j).trans g1, g2, (hx _ _ g3).1, fun m hm => (hx _ _ g3).2.trans (g4 m hm)⟩
/-- Rows under construction: all zero -/
def S7 (Zs : jZ) (Is : jI) (Zc : jZ) (Ic : jI) (U : List Nat) (h0 : Nat) (J : List Nat) (Z : jZ) (I : jI) (x y z : Nat) : Prop :=
  SW Zs Is Zc Ic U h0 7 J Z I x y z ∧ (∀ j, I h0 j = 0) ∧ (∀ j b, jr Z h0 j = some b → ∀ i, I b i = 0) ∧ (0 ∈ J → klen Z h0 = 64)
theorem S7_arr {Zs Zc Z : jZ} {Is Ic I : jI} {U : List Nat} {h0 x y z z' q : Nat} {J : List Nat} (j k m : Nat) (h : S7 Zs Is Zc Ic U h0 J Z I x y z) (hq : q ∉ Z.1) (hj : j ∉ J) (hk : 13 ≤ k) (hk2 : k ≤ 16) (hm : j = 0 → m = 64) (hz : (j = 0 → z = z' + 1) ∧ (j ≠ 0 → z = z')) (hs : ∀ k' o, jsh 7 j = some (k', o) → k' = k ∧ ∀ m', o = some m' → m' = m) :
    S7 Zs Is Zc Ic U h0 (j :: J) (jpR (jnw Z q k m) h0 j (some q)) (jz0 I q) (x + 1) (y + m) z' := by
  obtain ⟨h1, h2, h3, h4⟩ := h
  obtain ⟨g1, g2, g3⟩ := SW_new k m h1 hq (sh1_prim hk hk2) (by omega)
  rw [jcsA hk] at g1
  have In : jz0 I q q = fun _ => 0 := va_up_self _ _ _
  have hne : h0 ≠ q := fun e => hq (e ▸ h1.2.2.2.1.1)
  have Io : jz0 I q h0 = I h0 := va_up_ne _ _ hne
  have uq := h1.1.2.2.2.1.1
  have zr : ∀ i b, jr (jpR (jnw Z q k m) h0 j (some q)) h0 i = some b → ∀ n, jz0 I q b n = 0 := by
    intro i b e n
    by_cases hi : i = j
    · subst hi
      rw [jrR_at] at e; cases e
      rw [In]
    · rw [jrR_off hi, jr_old hne] at e
      have hb : b ≠ q := fun g => hq (g ▸ uq.2.1 h0 7 i b h1.2.2.2.1 e)
      rw [show jz0 I q b = I b from va_up_ne _ _ hb]
      exact h3 i b e n
  have kl : 0 ∈ j :: J → klen (jpR (jnw Z q k m) h0 j (some q)) h0 = 64 := by
    intro h0J
    by_cases hj0 : j = 0
    · subst hj0
      unfold klen
      rw [jrR_at]
      exact (jlen_nw (k := k)).trans (hm rfl)
    · rw [klen_put (fun g => hj0 g.2.symm), klen_old uq hq h1.2.2.2.1]
      exact h4 ((List.mem_cons.mp h0J).resolve_left (fun g => hj0 g.symm))
  have s := SW_ref (z' := z') j g1 hj jk_nw.1 g2 (Or.inl g3) (fun _ _ i => by rw [In]; exact okA0 _ _ _) (fun _ b0 b1 b2 b4 e0 e1 e2 e4 => by
      have h0J : 0 ∈ j :: J := by
        by_cases hj0 : (0 : Nat) ∈ j :: J
        · exact hj0
        · have hjn : (0 : Nat) ≠ j := fun g => hj0 (by rw [← g]; exact List.mem_cons_self)
          rw [jrR_off hjn, g1.2.2.2.2.2.1 0 (fun g => hj0 (List.mem_cons_of_mem _ g))] at e0
          cases e0
      have hl := kl h0J
      unfold klen at hl
      rw [e0] at hl
      exact RI1_zero hl (fun i => by rw [Io]; exact h2 i) (zr 2 b2 e2)) (by
      have hp := g1.1.2.2.2.2.2.1.2.2
      by_cases hj0 : j = 0
      · subst hj0
        have := potc_put7 (b := q) g1.1.2.2.2.1.1 g1.2.2.2.1 (g1.2.2.2.2.2.1 0 hj) (jlen_nw.trans (hm rfl))
        have := hz.1 rfl
        omega
      · rw [potc_put g1.2.2.2.1 (by omega) (fun e => hj0 e.2)]
        have := hz.2 hj0
        omega) (fun r _ => capN_put g1.2.2.2.1 (by omega)) (fun k' o e => by
      obtain ⟨e1, e2⟩ := hs k' o e
      subst e1
      exact ⟨jk_nw, fun m' hm' => by rw [e2 m' hm']; exact jlen_nw⟩)
  exact ⟨s, fun i => by rw [Io]; exact h2 i, zr, kl⟩
set_option maxHeartbeats 4000000 in
theorem cw_X7_init : CTW 7 f_X7_init 7 126 1 0 := by
  intro Zs Is Z I L U h0 x y z Q hC hk hU hn hI hQ
  have s0 : S7 Zs Is Z I U h0 [] Z I x y (z + 1) := ⟨SW_start hC hk hU hn, hI, (fun j b e => by rw [hn] at e; cases e), fun h => absurd h List.not_mem_nil⟩
  unfold f_X7_init
  intro q1 n1 Z1 eZ1 I1 eI1 L1 eL1 Z2 eZ2
  have s1 := S7_arr (z' := z) 0 15 64 s0 n1 (by decide) (by decide) (by decide) (fun _ => rfl) ⟨fun _ => rfl, fun h => absurd rfl h⟩ (shMn rfl)
  rw [← eZ1, ← eZ2, ← eI1] at s1
  intro q2 n2 Z3 eZ3 I2 eI2 L2 eL2 Z4 eZ4
  have s2 := S7_arr (z' := z) 1 14 25 s1 n2 (by decide) (by decide) (by decide) (fun h => by cases h) ⟨(fun h => by cases h), fun _ => rfl⟩ (shM rfl)
  rw [← eZ3, ← eZ4, ← eI2] at s2
  intro q3 n3 Z5 eZ5 I3 eI3 L3 eL3 Z6 eZ6
  have s3 := S7_arr (z' := z) 2 14 25 s2 n3 (by decide) (by decide) (by decide) (fun h => by cases h) ⟨(fun h => by cases h), fun _ => rfl⟩ (shM rfl)
  rw [← eZ5, ← eZ6, ← eI3] at s3
  intro I4 eI4
  rw [jpI_id (s3.2.1 3)] at eI4
  subst eI4
  intro q4 n4 Z7 eZ7 I5 eI5 L4 eL4 Z8 eZ8
  have s4 := S7_arr (z' := z) 4 14 3 s3 n4 (by decide) (by decide) (by decide) (fun h => by cases h) ⟨(fun h => by cases h), fun _ => rfl⟩ (shM rfl)
  rw [← eZ7, ← eZ8, ← eI5] at s4
  intro q5 n5 Z9 eZ9 I6 eI6 L5 eL5 Z10 eZ10
  have s5 := S7_arr (z' := z) 5 14 3 s4 n5 (by decide) (by decide) (by decide) (fun h => by cases h) ⟨(fun h => by cases h), fun _ => rfl⟩ (shM rfl)
  rw [← eZ9, ← eZ10, ← eI6] at s5
  intro q6 n6 Z11 eZ11 I7 eI7 L6 eL6 Z12 eZ12
  have s6 := S7_arr (z' := z) 6 15 3 s5 n6 (by decide) (by decide) (by decide) (fun h => by cases h) ⟨(fun h => by cases h), fun _ => rfl⟩ (shM rfl)
  rw [← eZ11, ← eZ12, ← eI7] at s6
  intro q7 n7 Z13 eZ13 I8 eI8 L7 eL7 Z14 eZ14
  have s7 := S7_arr (z' := z) 7 15 3 s6 n7 (by decide) (by decide) (by decide) (fun h => by cases h) ⟨(fun h => by cases h), fun _ => rfl⟩ (shM rfl)
  rw [← eZ13, ← eZ14, ← eI8] at s7
  intro I9 eI9
  rw [jpI_id (s7.2.1 8)] at eI9
  subst eI9
  intro I10 eI10
  rw [jpI_id (s7.2.1 9)] at eI10
  subst eI10
  obtain ⟨e1, e2⟩ := SW_end s7.1 (by decide) (shJ (by decide))
  exact hQ _ _ _ (e1.cast (by omega) (by omega) (by omega)) s7.1.2.2.2.1 e2 (fun _ => s7.2.2.2 (by decide)) s7.1.2.1 s7.1.2.2.1
theorem capN_put0 {Z : jZ} {a b r : Nat} (hn : jr Z a 0 = none) (hr : r ≠ b) : capN (jpR Z a 0 (some b)) r = capN Z r := by
  refine capN_iff ⟨fun g => ?_, fun g => ?_⟩
  · obtain ⟨w, h1, h2⟩ := g
    by_cases hw : w = a
    · subst hw
      rw [jrR_at] at h2; cases h2; exact absurd rfl hr
    · rw [jrR_ne hw] at h2; exact ⟨w, h1, h2⟩
  · obtain ⟨w, h1, h2⟩ := g
    have hw : w ≠ a := fun e => by subst e; rw [hn] at h2; cases h2
    exact ⟨w, h1, by rw [jrR_ne hw]; exact h2⟩
/-- the rows of ByCost may grow further -/
theorem SW_put00 {Zs Zc Z : jZ} {Is Ic I : jI} {U : List Nat} {h0 x y z b : Nat} {J : List Nat} (h : SW Zs Is Zc Ic U h0 0 J Z I x y z) (kb : jk Z b 7) (hbU : b ∉ h0 :: U) (hn : NH Z b) (hl : klen Z b = 64) (hbs : b ∉ Zs.1) (hj : 0 ∉ J) : SW Zs Is Zc Ic U h0 0 (0 :: J) (jpR Z h0 0 (some b)) I x y (z + 14336) := by
  refine SW_ref 0 h hj kb.1 hbU (Or.inl hn) (fun e => by rw [kb.2] at e; cases e) (fun e => by cases e) (by rw [potc_put0 h.1.2.2.2.1.1 h.2.2.2.1 (h.2.2.2.2.2.1 0 hj) kb hn hl]; have := h.1.2.2.2.2.2.1.2.2; omega) (fun r hr => capN_put0 (h.2.2.2.2.2.1 0 hj) (fun e => hbs (e ▸ hr.1))) (fun k' o e => ?_)
  cases e
  exact ⟨kb, fun m hm => by cases hm⟩
/-- two rows of bytes and the row of them -/
theorem SW_mna {Zs Zc Z : jZ} {Is Ic I : jI} {U : List Nat} {h0 c x y z r0 r1 q : Nat} {J : List Nat} (j : Nat) (h : SW Zs Is Zc Ic U h0 c J Z I x y z) (h0' : r0 ∉ Z.1) (h1' : r1 ∉ (jnw Z r0 13 40).1) (hq : q ∉ (jnw (jnw Z r0 13 40) r1 13 40).1) (hs : jsh c j = some (19, some 2)) (hj : j ∉ J := by decide) (h7 : c ≠ 7 := by decide) (h00 : ¬ (c = 0 ∧ j = 0) := by decide) : SW Zs Is Zc Ic U h0 c (j :: J) (jpR (jnw2 Z r0 r1 q) h0 j (some q)) (jz2 I r0 r1 q) (x + 3) (y + 82) z := by
  obtain ⟨a1, a2, a3⟩ := SW_new 13 40 h h0' (sh1_prim (by decide) (by decide)) (by decide)
  obtain ⟨b1, b2, b3⟩ := SW_new 13 40 a1 h1' (sh1_prim (by decide) (by decide)) (by decide)
  have c1 := CW_nw 19 2 b1.1 hq
  have hqU : q ∉ h0 :: U := fun e => hq (b1.1.2.2.2.2.1 q e).1
  have w0 := SW_start c1 jk_nw hqU (fun _ => jr_new)
  have m0 : r0 ∈ (jnw (jnw Z r0 13 40) r1 13 40).1 := List.mem_append_left _ jk_nw.1
  have m1 : r1 ∈ (jnw (jnw Z r0 13 40) r1 13 40).1 := jk_nw.1
  have n0 : r0 ≠ q := fun e => hq (e ▸ m0)
  have n1 : r1 ≠ q := fun e => hq (e ▸ m1)
  have n01 : r1 ≠ r0 := fun e => h1' (e ▸ jk_nw.1)
  have k0 : jk (jnw (jnw (jnw Z r0 13 40) r1 13 40) q 19 2) r0 13 := ((jext_nw hq) _ _ ((jext_nw h1') _ _ jk_nw).1).1
  have k1 : jk (jnw (jnw (jnw Z r0 13 40) r1 13 40) q 19 2) r1 13 := ((jext_nw hq) _ _ jk_nw).1
  have l0 : jlen (jnw (jnw (jnw Z r0 13 40) r1 13 40) q 19 2) r0 = 40 := (jlen_old n0).trans ((jlen_old (fun e => n01 e.symm)).trans jlen_nw)
  have l1 : jlen (jnw (jnw (jnw Z r0 13 40) r1 13 40) q 19 2) r1 = 40 := (jlen_old n1).trans jlen_nw
  have z0 : ∀ b i, (b = r0 ∨ b = r1) → jz2 I r0 r1 q b i = 0 := by
    intro b i hb
    show va_up (va_up (va_up I r0 fun _ => 0) r1 fun _ => 0) q (fun _ => 0) b i = 0
    rcases hb with rfl | rfl
    · rw [va_up_ne _ _ n0, va_up_ne _ _ (fun e => n01 e.symm), va_up_self]
    · rw [va_up_ne _ _ n1, va_up_self]
  have hz : (if (19 : Nat) = 7 then 2048 else 0) = 0 := rfl
  have w1 := SW_ref (z' := z) 0 (b := r0) w0 List.not_mem_nil k0.1 (fun e => (List.mem_cons.mp e).elim n0 a2) (Or.inl (NH_nw (NH_nw a3))) (fun _ _ i => by rw [show jz0 (jz0 (jz0 I r0) r1) q r0 i = 0 from z0 r0 i (Or.inl rfl)]; exact okA0 _ _ _) (fun e => by cases e) (by rw [potc_put jk_nw (by omega) (by omega)]; exact c1.2.2.2.2.2.1.2.2) (fun r _ => capN_put jk_nw (by omega)) (fun k o e => jsh_no (by decide) e)
  have w2 := SW_ref (z' := z) 1 (b := r1) w1 (by decide) k1.1 (fun e => (List.mem_cons.mp e).elim n1 b2) (Or.inl (NH_put (NH_nw b3) n01)) (fun _ _ i => by rw [show jz0 (jz0 (jz0 I r0) r1) q r1 i = 0 from z0 r1 i (Or.inr rfl)]; exact okA0 _ _ _) (fun e => by cases e) (by rw [potc_put w1.2.2.2.1 (by omega) (by omega)]; exact w1.1.2.2.2.2.2.1.2.2) (fun r _ => capN_put w1.2.2.2.1 (by omega)) (fun k o e => jsh_no (by decide) e)
  have c2 := CW_done w2.1 w2.2.2.2.1 ⟨fun _ _ _ e => jsh_no (by decide) e, (fun e => by cases e), (fun e => by cases e), fun _ i hi => by
    have hi : i < 2 := by rw [show jlen (jpR (jpR (jnw (jnw (jnw Z r0 13 40) r1 13 40) q 19 2) q 0 (some r0)) q 1 (some r1)) q = 2 from jlen_nw (Z := jnw (jnw Z r0 13 40) r1 13 40) (k := 19)] at hi; exact hi
    rcases (show i = 0 ∨ i = 1 by omega) with rfl | rfl
    · exact ⟨r0, (jrR_off (by decide)).trans jrR_at, a2, k0, l0⟩
    · exact ⟨r1, jrR_at, b2, k1, l1⟩⟩
  have hnq : NH (jnw2 Z r0 r1 q) q := (w2.1.2.2.2.2.1 q List.mem_cons_self).2.2
  have s3 := SW_go h (c2.cast (x' := x + 3) (y' := y + 82) (z' := z) rfl (by rw [jcsA (by decide), jcsA (by decide)]) rfl) (Z' := jnw2 Z r0 r1 q) (jext_trans (jext_nw h0') (jext_trans (jext_nw h1') (jext_trans (jext_nw hq) (jext_trans jext_putr jext_putr)))) (fun u hu => by
    have e0 : u ≠ r0 := fun e => h0' (e ▸ hu)
    have e1 : u ≠ r1 := fun e => h1' (e ▸ List.mem_append_left _ hu)
    have e2 : u ≠ q := fun e => hq (e ▸ List.mem_append_left _ (List.mem_append_left _ hu))
    exact ⟨(va_up_ne _ _ e2).trans ((va_up_ne _ _ e2).trans ((va_up_ne _ _ e2).trans ((va_up_ne _ _ e1).trans (va_up_ne _ _ e0)))), (va_up_ne _ _ e2).trans ((va_up_ne _ _ e1).trans (va_up_ne _ _ e0))⟩)
  exact SW_put j s3 (k := 19) w2.2.2.2.1 hqU hnq rfl hj h7 h00 (shMl hs (jlen_nw (Z := jnw (jnw Z r0 13 40) r1 13 40) (k := 19)))
end
section
theorem jcsV : jcs 0 0 = 3 ∧ jcs 1 0 = 10 ∧ jcs 2 0 = 9 ∧ jcs 3 0 = 9 ∧ jcs 4 0 = 5 ∧ jcs 5 0 = 9 ∧ jcs 6 0 = 16 ∧ jcs 7 0 = 10 ∧ jcs 8 0 = 10 ∧ jcs 9 0 = 9 ∧ jcs 10 0 = 2 ∧ jcs 11 0 = 17 ∧ jcs 12 0 = 67 := ⟨rfl, rfl, rfl, rfl, rfl, rfl, rfl, rfl, rfl, rfl, rfl, rfl, rfl⟩
set_option maxHeartbeats 4000000 in
set_option maxRecDepth 100000 in
theorem cw_X10_init : CTW 10 f_X10_init 1 80 0 0 := by
  intro Zs Is Z I L U h0 x y z Q hC hk hU hn hI hQ
  have s0 : SW Zs Is Z I U h0 10 [] Z I x y z := SW_start hC hk hU hn
  unfold f_X10_init
  intro q1 nq1 Z2 eZ2 I3 eI3 L4 eL4
  intro Z5 eZ5
  have s6 := SW_arr 0 13 80 s0 nq1 (hs := shM rfl)
  rw [← eZ2, ← eZ5, ← eI3] at s6
  intro I7 eI7
  have s8 := SW_int 1 s6 (v := (0)) (ok := (by first | exact okF0 _ _ | trivial | exact ⟨by decide, by decide⟩ | exact hl))
  rw [← eI7] at s8
  obtain ⟨e1, e2⟩ := SW_end s8 (by decide) (shJ (by decide))
  exact hQ _ _ _ (e1.cast (by omega) (by have jv := jcsV; have j17 : jcs 17 2 = 2 := rfl; have j18 : jcs 18 6 = 6 := rfl; omega) (by omega)) s8.2.2.2.1 e2 (fun e => by cases e) s8.2.1 s8.2.2.1
set_option maxHeartbeats 4000000 in
set_option maxRecDepth 100000 in
theorem cw_X9_init : CTW 9 f_X9_init 5 120 0 0 := by
  intro Zs Is Z I L U h0 x y z Q hC hk hU hn hI hQ
  have s0 : SW Zs Is Z I U h0 9 [] Z I x y z := SW_start hC hk hU hn
  unfold f_X9_init
  intro q1 nq1 Z2 eZ2 I3 eI3 L4 eL4
  intro Z5 eZ5
  have s6 := SW_arr 0 14 24 s0 nq1 (hs := shM rfl)
  rw [← eZ2, ← eZ5, ← eI3] at s6
  intro q7 nq7 Z8 eZ8 I9 eI9 L10 eL10
  intro Z11 eZ11
  have s12 := SW_arr 1 14 24 s6 nq7 (hs := shM rfl)
  rw [← eZ8, ← eZ11, ← eI9] at s12
  intro q13 nq13 Z14 eZ14 I15 eI15 L16 eL16
  intro Z17 eZ17
  have s18 := SW_arr 2 14 24 s12 nq13 (hs := shM rfl)
  rw [← eZ14, ← eZ17, ← eI15] at s18
  intro q19 nq19 Z20 eZ20 I21 eI21 L22 eL22
  intro Z23 eZ23
  have s24 := SW_arr 3 14 24 s18 nq19 (hs := shM rfl)
  rw [← eZ20, ← eZ23, ← eI21] at s24
  intro q25 nq25 Z26 eZ26 I27 eI27 L28 eL28
  intro Z29 eZ29
  have s30 := SW_arr 4 14 24 s24 nq25 (hs := shM rfl)
  rw [← eZ26, ← eZ29, ← eI27] at s30
  intro I31 eI31
  have s32 := SW_int 5 s30 (v := (0)) (ok := (by first | exact okF0 _ _ | trivial | exact ⟨by decide, by decide⟩ | exact hl))
  rw [← eI31] at s32
  intro I33 eI33
  have s34 := SW_int 6 s32 (v := (0)) (ok := (by first | exact okF0 _ _ | trivial | exact ⟨by decide, by decide⟩ | exact hl))
  rw [← eI33] at s34
  intro I35 eI35
  have s36 := SW_int 7 s34 (v := (0)) (ok := (by first | exact okF0 _ _ | trivial | exact ⟨by decide, by decide⟩ | exact hl))
  rw [← eI35] at s36
  intro I37 eI37
  have s38 := SW_int 8 s36 (v := (-1)) (ok := (by first | exact okF0 _ _ | trivial | exact ⟨by decide, by decide⟩ | exact hl))
  rw [← eI37] at s38
  obtain ⟨e1, e2⟩ := SW_end s38 (by decide) (shJ (by decide))
  exact hQ _ _ _ (e1.cast (by omega) (by have jv := jcsV; have j17 : jcs 17 2 = 2 := rfl; have j18 : jcs 18 6 = 6 := rfl; omega) (by omega)) s38.2.2.2.1 e2 (fun e => by cases e) s38.2.1 s38.2.2.1
set_option maxHeartbeats 4000000 in
set_option maxRecDepth 100000 in
theorem cw_X4_init : CTW 4 f_X4_init 3 1752 0 0 := by
  intro Zs Is Z I L U h0 x y z Q hC hk hU hn hI hQ
  have s0 : SW Zs Is Z I U h0 4 [] Z I x y z := SW_start hC hk hU hn
  unfold f_X4_init
  intro q1 nq1 Z2 eZ2 I3 eI3 L4 eL4
  intro Z5 eZ5
  have s6 := SW_arr 0 14 192 s0 nq1 (hs := shM rfl)
  rw [← eZ2, ← eZ5, ← eI3] at s6
  intro q7 nq7 Z8 eZ8 I9 eI9 L10 eL10
  intro Z11 eZ11
  have s12 := SW_arr 1 14 24 s6 nq7 (hs := shM rfl)
  rw [← eZ8, ← eZ11, ← eI9] at s12
  intro q13 nq13 Z14 eZ14 I15 eI15 L16 eL16
  intro Z17 eZ17
  have s18 := SW_arr 2 14 1536 s12 nq13 (hs := shM rfl)
  rw [← eZ14, ← eZ17, ← eI15] at s18
  intro I19 eI19
  have s20 := SW_int 3 s18 (v := (0)) (ok := (by first | exact okF0 _ _ | trivial | exact ⟨by decide, by decide⟩ | exact hl))
  rw [← eI19] at s20
  intro I21 eI21
  have s22 := SW_int 4 s20 (v := (0)) (ok := (by first | exact okF0 _ _ | trivial | exact ⟨by decide, by decide⟩ | exact hl))
  rw [← eI21] at s22
  obtain ⟨e1, e2⟩ := SW_end s22 (by decide) (shJ (by decide))
  exact hQ _ _ _ (e1.cast (by omega) (by have jv := jcsV; have j17 : jcs 17 2 = 2 := rfl; have j18 : jcs 18 6 = 6 := rfl; omega) (by omega)) s22.2.2.2.1 e2 (fun e => by cases e) s22.2.1 s22.2.2.1
set_option maxHeartbeats 4000000 in
set_option maxRecDepth 100000 in
theorem cw_X3_init : CTW 3 f_X3_init 3 121 0 0 := by
  intro Zs Is Z I L U h0 x y z Q hC hk hU hn hI hQ
  have s0 : SW Zs Is Z I U h0 3 [] Z I x y z := SW_start hC hk hU hn
  unfold f_X3_init
  intro q1 nq1 Z2 eZ2 I3 eI3 L4 eL4
  intro Z5 eZ5
  have s6 := SW_arr 0 14 40 s0 nq1 (hs := shM rfl)
  rw [← eZ2, ← eZ5, ← eI3] at s6
  intro q7 nq7 Z8 eZ8 I9 eI9 L10 eL10
  intro Z11 eZ11
  have s12 := SW_arr 1 14 40 s6 nq7 (hs := shM rfl)
  rw [← eZ8, ← eZ11, ← eI9] at s12
  intro q13 nq13 Z14 eZ14 I15 eI15 L16 eL16
  intro Z17 eZ17
  have s18 := SW_arr 2 14 41 s12 nq13 (hs := shM rfl)
  rw [← eZ14, ← eZ17, ← eI15] at s18
  intro I19 eI19
  have s20 := SW_int 3 s18 (v := (0)) (ok := (by first | exact okF0 _ _ | trivial | exact ⟨by decide, by decide⟩ | exact hl))
  rw [← eI19] at s20
  intro I21 eI21
  have s22 := SW_int 4 s20 (v := (0)) (ok := (by first | exact okF0 _ _ | trivial | exact ⟨by decide, by decide⟩ | exact hl))
  rw [← eI21] at s22
  intro I23 eI23
  have s24 := SW_int 5 s22 (v := (0)) (ok := (by first | exact okF0 _ _ | trivial | exact ⟨by decide, by decide⟩ | exact hl))
  rw [← eI23] at s24
  intro I25 eI25
  have s26 := SW_int 6 s24 (v := (0)) (ok := (by first | exact okF0 _ _ | trivial | exact ⟨by decide, by decide⟩ | exact hl))
  rw [← eI25] at s26
  intro I27 eI27
  have s28 := SW_int 7 s26 (v := (0)) (ok := (by first | exact okF0 _ _ | trivial | exact ⟨by decide, by decide⟩ | exact hl))
  rw [← eI27] at s28
  intro I29 eI29
  have s30 := SW_int 8 s28 (v := (-1)) (ok := (by first | exact okF0 _ _ | trivial | exact ⟨by decide, by decide⟩ | exact hl))
  rw [← eI29] at s30
  obtain ⟨e1, e2⟩ := SW_end s30 (by decide) (shJ (by decide))
  exact hQ _ _ _ (e1.cast (by omega) (by have jv := jcsV; have j17 : jcs 17 2 = 2 := rfl; have j18 : jcs 18 6 = 6 := rfl; omega) (by omega)) s30.2.2.2.1 e2 (fun e => by cases e) s30.2.1 s30.2.2.1
set_option maxHeartbeats 4000000 in
set_option maxRecDepth 100000 in
theorem cw_X8_init : CTW 8 f_X8_init 18 2128 0 0 := by
  intro Zs Is Z I L U h0 x y z Q hC hk hU hn hI hQ
  have s0 : SW Zs Is Z I U h0 8 [] Z I x y z := SW_start hC hk hU hn
  unfold f_X8_init
  intro q1 nq1 Z2 eZ2 I3 eI3 L4 eL4
  intro Z5 eZ5
  have s6 := SW_arr 0 14 24 s0 nq1 (hs := shM rfl)
  rw [← eZ2, ← eZ5, ← eI3] at s6
  intro q7 nq7 Z8 eZ8 I9 eI9 L10 eL10
  intro Z11 eZ11
  have s12 := SW_arr 1 14 24 s6 nq7 (hs := shM rfl)
  rw [← eZ8, ← eZ11, ← eI9] at s12
  intro q13 nq13 Z14 eZ14 I15 eI15 L16 eL16
  intro Z17 eZ17
  have s18 := SW_arr 2 14 24 s12 nq13 (hs := shM rfl)
  rw [← eZ14, ← eZ17, ← eI15] at s18
  intro q19 nq19 Z20 eZ20 I21 eI21 L22 eL22
  intro Z23 eZ23
  have s24 := SW_arr 3 14 24 s18 nq19 (hs := shM rfl)
  rw [← eZ20, ← eZ23, ← eI21] at s24
  intro q25 nq25 Z26 eZ26 I27 eI27 L28 eL28
  refine SW_obj z (cw_X4_init Zs) s24 nq25 eZ26 eI27 rfl (fun Z29 I30 L31 s32 kq25 uq25 hq25 lq25 _ _ => ?_)
  intro Z33 eZ33
  have s34 := SW_put 4 s32 kq25 uq25 hq25 rfl (hs := shMo rfl)
  rw [← eZ33] at s34
  intro q35 nq35 Z36 eZ36 I37 eI37 L38 eL38
  intro Z39 eZ39
  have s40 := SW_arr 5 14 8 s34 nq35 (hs := shM rfl)
  rw [← eZ36, ← eZ39, ← eI37] at s40
  intro q41 nq41 Z42 eZ42 I43 eI43 L44 eL44
  refine SW_obj (z + 0) (cw_X3_init Zs) s40 nq41 eZ42 eI43 rfl (fun Z45 I46 L47 s48 kq41 uq41 hq41 lq41 _ _ => ?_)
  intro Z49 eZ49
  have s50 := SW_put 6 s48 kq41 uq41 hq41 rfl (hs := shMo rfl)
  rw [← eZ49] at s50
  intro q51 nq51 Z52 eZ52 I53 eI53 L54 eL54
  refine SW_obj ((z + 0) + 0) (cw_X3_init Zs) s50 nq51 eZ52 eI53 rfl (fun Z55 I56 L57 s58 kq51 uq51 hq51 lq51 _ _ => ?_)
  intro Z59 eZ59
  have s60 := SW_put 7 s58 kq51 uq51 hq51 rfl (hs := shMo rfl)
  rw [← eZ59] at s60
  intro q61 nq61 Z62 eZ62 I63 eI63 L64 eL64
  intro Z65 eZ65
  have s66 := SW_arr 8 14 7 s60 nq61 (hs := shM rfl)
  rw [← eZ62, ← eZ65, ← eI63] at s66
  intro I67 eI67
  have s68 := SW_int 9 s66 (v := (0)) (ok := (by first | exact okF0 _ _ | trivial | exact ⟨by decide, by decide⟩ | exact hl))
  rw [← eI67] at s68
  obtain ⟨e1, e2⟩ := SW_end s68 (by decide) (shJ (by decide))
  exact hQ _ _ _ (e1.cast (by omega) (by have jv := jcsV; have j17 : jcs 17 2 = 2 := rfl; have j18 : jcs 18 6 = 6 := rfl; omega) (by omega)) s68.2.2.2.1 e2 (fun e => by cases e) s68.2.1 s68.2.2.1
set_option maxHeartbeats 4000000 in
set_option maxRecDepth 100000 in
theorem cw_X0_init : CTW 0 f_X0_init 9 536 0 16383 := by
  intro Zs Is Z I L U h0 x y z Q hC hk hU hn hI hQ
  have s0 : SW Zs Is Z I U h0 0 [] Z I x y z := SW_start hC hk hU hn
  unfold f_X0_init
  intro q1 nq1 Z2 eZ2 I3 eI3 L4 eL4
  refine SW_obj (z + 2047) (cw_X7_init Zs) s0 nq1 eZ2 eI3 rfl (fun Z5 I6 L7 s8 kq1 uq1 hq1 lq1 _ _ => ?_)
  intro Z9 eZ9
  have s10 := SW_put00 s8 kq1 uq1 hq1 (lq1 rfl) (fun e => nq1 (s0.1.1 _ _ ⟨e, rfl⟩).1.1) (by decide)
  rw [← eZ9] at s10
  intro q11 nq11 Z12 eZ12 I13 eI13 L14 eL14
  intro Z15 eZ15
  have s16 := SW_arr 1 15 400 s10 nq11 (hs := shM rfl)
  rw [← eZ12, ← eZ15, ← eI13] at s16
  intro L17 eL17
  obtain ⟨e1, e2⟩ := SW_end s16 (by decide) (shJ (by decide))
  exact hQ _ _ _ (e1.cast (by omega) (by have jv := jcsV; have j17 : jcs 17 2 = 2 := rfl; have j18 : jcs 18 6 = 6 := rfl; omega) (by omega)) s16.2.2.2.1 e2 (fun e => by cases e) s16.2.1 s16.2.2.1
set_option maxHeartbeats 4000000 in
set_option maxRecDepth 100000 in
theorem cw_X1_init : CTW 1 f_X1_init 6 72 0 0 := by
  intro Zs Is Z I L U h0 x y z Q hC hk hU hn hI hQ
  have s0 : SW Zs Is Z I U h0 1 [] Z I x y z := SW_start hC hk hU hn
  unfold f_X1_init
  intro q1 nq1 Z2 eZ2 I3 eI3 L4 eL4
  intro Z5 eZ5
  have s6 := SW_arr 0 16 6 s0 nq1 (hs := shM rfl)
  rw [← eZ2, ← eZ5, ← eI3] at s6
  intro q7 nq7 Z8 eZ8 I9 eI9 L10 eL10
  intro Z11 eZ11
  have s12 := SW_arr 1 15 6 s6 nq7 (hs := shM rfl)
  rw [← eZ8, ← eZ11, ← eI9] at s12
  intro q13 nq13 Z14 eZ14 I15 eI15 L16 eL16
  intro Z17 eZ17
  have s18 := SW_arr 2 14 6 s12 nq13 (hs := shM rfl)
  rw [← eZ14, ← eZ17, ← eI15] at s18
  intro q19 nq19 Z20 eZ20 I21 eI21 L22 eL22
  intro Z23 eZ23
  have s24 := SW_arr 3 14 6 s18 nq19 (hs := shM rfl)
  rw [← eZ20, ← eZ23, ← eI21] at s24
  intro q25 nq25 Z26 eZ26 I27 eI27 L28 eL28
  intro Z29 eZ29
  have s30 := SW_arr 4 14 24 s24 nq25 (hs := shM rfl)
  rw [← eZ26, ← eZ29, ← eI27] at s30
  intro q31 nq31 Z32 eZ32 I33 eI33 L34 eL34
  intro Z35 eZ35
  have s36 := SW_arr 5 14 24 s30 nq31 (hs := shM rfl)
  rw [← eZ32, ← eZ35, ← eI33] at s36
  intro I37 eI37
  have s38 := SW_int 6 s36 (v := (0)) (ok := (by first | exact okF0 _ _ | trivial | exact ⟨by decide, by decide⟩ | exact hl))
  rw [← eI37] at s38
  intro I39 eI39
  have s40 := SW_int 7 s38 (v := (0)) (ok := (by first | exact okF0 _ _ | trivial | exact ⟨by decide, by decide⟩ | exact hl))
  rw [← eI39] at s40
  intro I41 eI41
  have s42 := SW_int 8 s40 (v := (0)) (ok := (by first | exact okF0 _ _ | trivial | exact ⟨by decide, by decide⟩ | exact hl))
  rw [← eI41] at s42
  intro I43 eI43
  have s44 := SW_int 9 s42 (v := (0)) (ok := (by first | exact okF0 _ _ | trivial | exact ⟨by decide, by decide⟩ | exact hl))
  rw [← eI43] at s44
  obtain ⟨e1, e2⟩ := SW_end s44 (by decide) (shJ (by decide))
  exact hQ _ _ _ (e1.cast (by omega) (by have jv := jcsV; have j17 : jcs 17 2 = 2 := rfl; have j18 : jcs 18 6 = 6 := rfl; omega) (by omega)) s44.2.2.2.1 e2 (fun e => by cases e) s44.2.1 s44.2.2.1
set_option maxHeartbeats 4000000 in
set_option maxRecDepth 100000 in
theorem cw_X2_init : CTW 2 f_X2_init 7 266 0 0 := by
  intro Zs Is Z I L U h0 x y z Q hC hk hU hn hI hQ
  have s0 : SW Zs Is Z I U h0 2 [] Z I x y z := SW_start hC hk hU hn
  unfold f_X2_init
  intro q1 nq1 Z2 eZ2 I3 eI3 L4 eL4
  intro Z5 eZ5
  have s6 := SW_arr 0 14 24 s0 nq1 (hs := shM rfl)
  rw [← eZ2, ← eZ5, ← eI3] at s6
  intro q7 nq7 Z8 eZ8 I9 eI9 L10 eL10
  intro Z11 eZ11
  have s12 := SW_arr 1 14 24 s6 nq7 (hs := shM rfl)
  rw [← eZ8, ← eZ11, ← eI9] at s12
  intro q13 nq13 Z14 eZ14 I15 eI15 L16 eL16
  intro Z17 eZ17
  have s18 := SW_arr 2 14 192 s12 nq13 (hs := shM rfl)
  rw [← eZ14, ← eZ17, ← eI15] at s18
  intro q19 nq19 Z20 eZ20 I21 eI21 L22 eL22
  intro Z23 eZ23
  have s24 := SW_arr 3 14 8 s18 nq19 (hs := shM rfl)
  rw [← eZ20, ← eZ23, ← eI21] at s24
  intro q25 nq25 Z26 eZ26 I27 eI27 L28 eL28
  intro Z29 eZ29
  have s30 := SW_arr 4 14 6 s24 nq25 (hs := shM rfl)
  rw [← eZ26, ← eZ29, ← eI27] at s30
  intro q31 nq31 Z32 eZ32 I33 eI33 L34 eL34
  intro Z35 eZ35
  have s36 := SW_arr 5 14 6 s30 nq31 (hs := shM rfl)
  rw [← eZ32, ← eZ35, ← eI33] at s36
  intro q37 nq37 Z38 eZ38 I39 eI39 L40 eL40
  intro Z41 eZ41
  have s42 := SW_arr 6 14 6 s36 nq37 (hs := shM rfl)
  rw [← eZ38, ← eZ41, ← eI39] at s42
  intro I43 eI43
  have s44 := SW_int 7 s42 (v := (0)) (ok := (by first | exact okF0 _ _ | trivial | exact ⟨by decide, by decide⟩ | exact hl))
  rw [← eI43] at s44
  intro I45 eI45
  have s46 := SW_int 8 s44 (v := (0)) (ok := (by first | exact okF0 _ _ | trivial | exact ⟨by decide, by decide⟩ | exact hl))
  rw [← eI45] at s46
  obtain ⟨e1, e2⟩ := SW_end s46 (by decide) (shJ (by decide))
  exact hQ _ _ _ (e1.cast (by omega) (by have jv := jcsV; have j17 : jcs 17 2 = 2 := rfl; have j18 : jcs 18 6 = 6 := rfl; omega) (by omega)) s46.2.2.2.1 e2 (fun e => by cases e) s46.2.1 s46.2.2.1
set_option maxHeartbeats 4000000 in
set_option maxRecDepth 100000 in
theorem cw_X11_init : CTW 11 f_X11_init 70 3626 0 16383 := by
  intro Zs Is Z I L U h0 x y z Q hC hk hU hn hI hQ
  have s0 : SW Zs Is Z I U h0 11 [] Z I x y z := SW_start hC hk hU hn
  unfold f_X11_init
  intro q1 nq1 Z2 eZ2 I3 eI3 L4 eL4
  refine SW_obj z (cw_X10_init Zs) s0 nq1 eZ2 eI3 rfl (fun Z5 I6 L7 s8 kq1 uq1 hq1 lq1 _ _ => ?_)
  intro Z9 eZ9
  have s10 := SW_put 0 s8 kq1 uq1 hq1 rfl (hs := shMo rfl)
  rw [← eZ9] at s10
  intro q11 nq11 Z12 eZ12 I13 eI13 L14 eL14
  refine SW_obj (z + 0) (cw_X9_init Zs) s10 nq11 eZ12 eI13 rfl (fun Z15 I16 L17 s18 kq11 uq11 hq11 lq11 _ _ => ?_)
  intro Z19 eZ19
  have s20 := SW_put 1 s18 kq11 uq11 hq11 rfl (hs := shMo rfl)
  rw [← eZ19] at s20
  intro q21 nq21 Z22 eZ22 I23 eI23 L24 eL24
  refine SW_obj ((z + 0) + 0) (cw_X8_init Zs) s20 nq21 eZ22 eI23 rfl (fun Z25 I26 L27 s28 kq21 uq21 hq21 lq21 _ _ => ?_)
  intro Z29 eZ29
  have s30 := SW_put 2 s28 kq21 uq21 hq21 rfl (hs := shMo rfl)
  rw [← eZ29] at s30
  intro q31 nq31 Z32 eZ32 I33 eI33 L34 eL34
  intro Z35 eZ35
  obtain ⟨g371, g372, g373⟩ := SW_new 18 6 s30 nq31 ⟨fun _ _ _ e => jsh_no (by decide) e, (fun _ i b e => by rw [jr_new] at e; cases e), (fun e => by cases e), (fun e => by cases e)⟩ (by decide)
  have s36 := SW_put 3 g371 jk_nw g372 g373 rfl (hs := shMl rfl (jlen_nw (k := 18)))
  rw [← eZ32, ← eZ35, ← eI33] at s36
  intro I38 eI38
  have s39 := SW_int 4 s36 (v := (0)) (ok := (by first | exact okF0 _ _ | trivial | exact ⟨by decide, by decide⟩ | exact hl))
  rw [← eI38] at s39
  intro q40 nq40 Z41 eZ41 I42 eI42 L43 eL43
  intro Z44 eZ44
  have s45 := SW_arr 5 14 8 s39 nq40 (hs := shM rfl)
  rw [← eZ41, ← eZ44, ← eI42] at s45
  intro q46 nq46 Z47 eZ47 I48 eI48 L49 eL49
  intro Z50 eZ50
  have s51 := SW_arr 6 14 8 s45 nq46 (hs := shM rfl)
  rw [← eZ47, ← eZ50, ← eI48] at s51
  intro q52 nq52 Z53 eZ53 I54 eI54 L55 eL55
  intro Z56 eZ56
  have s57 := SW_arr 7 14 8 s51 nq52 (hs := shM rfl)
  rw [← eZ53, ← eZ56, ← eI54] at s57
  intro q58 nq58 Z59 eZ59 I60 eI60 L61 eL61
  have cq := (CW_nw 17 2 s57.1 nq58).cast rfl rfl (show _ = (((z + 0) + 0) + 0) from rfl)
  rw [← eZ59, ← eI60] at cq
  have uq : q58 ∉ h0 :: U := fun e => nq58 (s57.1.2.2.2.2.1 q58 e).1
  have kq : jk Z59 q58 17 := by rw [eZ59]; exact jk_nw
  have w0 := SW_start cq kq uq (fun j => by rw [eZ59]; exact jr_new)
  intro q62 nq62 Z63 eZ63 I64 eI64 L65 eL65
  refine SW_obj (((z + 0) + 0) + 0) (cw_X2_init Zs) w0 nq62 eZ63 eI64 rfl (fun Z66 I67 L68 w1 kq62 uq62 hq62 _ xq62 oq62 => ?_)
  intro Z69 eZ69
  have eZ69 : Z69 = jpR Z66 q58 0 (some q62) := eZ69
  have w2 := SW_put 0 w1 kq62 uq62 hq62 rfl (hs := fun k o e => jsh_no (by decide) e)
  rw [← eZ69] at w2
  have a0 : jr Z69 q58 0 = some q62 := by rw [eZ69]; exact jrR_at
  have b0 : jk Z69 q62 2 := by rw [eZ69]; exact kq62
  intro q70 nq70 Z71 eZ71 I72 eI72 L73 eL73
  refine SW_obj (((z + 0) + 0) + 0) (cw_X2_init Zs) w2 nq70 eZ71 eI72 rfl (fun Z74 I75 L76 w3 kq70 uq70 hq70 _ xq70 oq70 => ?_)
  intro Z77 eZ77
  have eZ77 : Z77 = jpR Z74 q58 1 (some q70) := eZ77
  have w4 := SW_put 1 w3 kq70 uq70 hq70 rfl (hs := fun k o e => jsh_no (by decide) e)
  rw [← eZ77] at w4
  have a1 : jr Z77 q58 1 = some q70 := by rw [eZ77]; exact jrR_at
  have b1 : jk Z77 q70 2 := by rw [eZ77]; exact kq70
  have a0 : jr Z77 q58 0 = some q62 := by rw [eZ77, jrR_off (by decide)]; exact (congrFun (oq70 q58 w2.2.2.2.1.1).1 0).trans a0
  have b0 : jk Z77 q62 2 := by rw [eZ77]; exact (xq70 _ _ b0).1
  have lq : jlen Z77 q58 = 2 := (w4.2.1 _ _ kq).2.trans (by rw [eZ59]; exact jlen_nw (k := 17))
  have hnq := (w4.1.2.2.2.2.1 q58 List.mem_cons_self).2.2
  have cK := CW_done w4.1 w4.2.2.2.1 ⟨fun _ _ _ e => jsh_no (by decide) e, (fun e => by cases e), fun _ i hi => by
      rw [lq] at hi
      rcases (show i = 0 ∨ i = 1 by omega) with rfl | rfl
      · exact ⟨q62, a0, fun e => uq62 (List.mem_cons_of_mem _ e), b0⟩
      · exact ⟨q70, a1, fun e => uq70 (List.mem_cons_of_mem _ e), b1⟩, (fun e => by cases e)⟩
  have xq : jext Z56 Z59 := by rw [eZ59]; exact jext_nw nq58
  have s78 := SW_go s57 cK (jext_trans xq w4.2.1) (fun u hu => by
      have hne : u ≠ q58 := fun e => nq58 (e ▸ hu)
      obtain ⟨o1, o2⟩ := w4.2.2.1 u (xq u _ ⟨hu, rfl⟩).1.1 hne
      exact ⟨o1.trans (by rw [eZ59]; exact va_up_ne _ _ hne), o2.trans (by rw [eI60]; exact va_up_ne _ _ hne)⟩)
  intro Z79 eZ79
  have s80 := SW_put 8 s78 (k := 17) w4.2.2.2.1 uq hnq rfl (hs := shMl rfl lq)
  rw [← eZ79] at s80
  intro q81 nq81 Z82 eZ82 I83 eI83 L84 eL84
  refine SW_obj (((z + 0) + 0) + 0) (cw_X0_init Zs) s80 nq81 eZ82 eI83 rfl (fun Z85 I86 L87 s88 kq81 uq81 hq81 lq81 _ _ => ?_)
  intro Z89 eZ89
  have s90 := SW_put 9 s88 kq81 uq81 hq81 rfl (hs := shMo rfl)
  rw [← eZ89] at s90
  intro q91 nq91 Z92 eZ92 I93 eI93 L94 eL94
  refine SW_obj ((((z + 0) + 0) + 0) + 16383) (cw_X1_init Zs) s90 nq91 eZ92 eI93 rfl (fun Z95 I96 L97 s98 kq91 uq91 hq91 lq91 _ _ => ?_)
  intro Z99 eZ99
  have s100 := SW_put 10 s98 kq91 uq91 hq91 rfl (hs := shMo rfl)
  rw [← eZ99] at s100
  intro q101 nq101 Z102 eZ102 I103 eI103 L104 eL104
  intro Z105 eZ105
  have s106 := SW_arr 11 14 3 s100 nq101 (hs := shM rfl)
  rw [← eZ102, ← eZ105, ← eI103] at s106
  intro q107 nq107 Z108 eZ108 I109 eI109 L110 eL110
  intro Z111 eZ111
  have s112 := SW_arr 12 14 3 s106 nq107 (hs := shM rfl)
  rw [← eZ108, ← eZ111, ← eI109] at s112
  intro q113 nq113 Z114 eZ114 I115 eI115 L116 eL116
  intro Z117 eZ117
  have s118 := SW_arr 13 14 21 s112 nq113 (hs := shM rfl)
  rw [← eZ114, ← eZ117, ← eI115] at s118
  intro q119 nq119 Z120 eZ120 I121 eI121 L122 eL122
  intro Z123 eZ123
  have s124 := SW_arr 14 14 21 s118 nq119 (hs := shM rfl)
  rw [← eZ120, ← eZ123, ← eI121] at s124
  intro q125 nq125 Z126 eZ126 I127 eI127 L128 eL128
  intro Z129 eZ129
  have s130 := SW_arr 15 15 26 s124 nq125 (hs := shM rfl)
  rw [← eZ126, ← eZ129, ← eI127] at s130
  intro I131 eI131
  have s132 := SW_int 16 s130 (v := (0)) (ok := (by first | exact okF0 _ _ | trivial | exact ⟨by decide, by decide⟩ | exact hl))
  rw [← eI131] at s132
  obtain ⟨e1, e2⟩ := SW_end s132 (by decide) (shJ (by decide))
  exact hQ _ _ _ (e1.cast (by omega) (by have jv := jcsV; have j17 : jcs 17 2 = 2 := rfl; have j18 : jcs 18 6 = 6 := rfl; omega) (by omega)) s132.2.2.2.1 e2 (fun e => by cases e) s132.2.1 s132.2.2.1
set_option maxHeartbeats 4000000 in
set_option maxRecDepth 100000 in
theorem cw_X6_init {Zs : jZ} {v1 : Nat} (v2 v3 v4 : Int32) (kv1 : jk Zs v1 8) (hl : 0 ≤ v4.toInt ∧ v4.toInt ≤ 3) : CTWs Zs 6 (fun h0 Z I L Q => f_X6_init h0 v1 v2 v3 v4 Z I L Q) 24 560 0 4094 := by
  intro Is Z I L U h0 x y z Q hC hk hU hn hI hQ
  show f_X6_init h0 v1 v2 v3 v4 Z I L Q
  have s0 : SW Zs Is Z I U h0 6 [] Z I x y z := SW_start hC hk hU hn
  unfold f_X6_init
  intro q1 nq1 Z2 eZ2 I3 eI3 L4 eL4
  intro Z5 eZ5
  have s6 := SW_arr 4 14 75 s0 nq1 (hs := shM rfl)
  rw [← eZ2, ← eZ5, ← eI3] at s6
  intro q7 nq7 Z8 eZ8 I9 eI9 L10 eL10
  intro Z11 eZ11
  have s12 := SW_arr 5 14 75 s6 nq7 (hs := shM rfl)
  rw [← eZ8, ← eZ11, ← eI9] at s12
  intro q13 nq13 Z14 eZ14 I15 eI15 L16 eL16
  intro Z17 eZ17
  have s18 := SW_arr 6 16 25 s12 nq13 (hs := shM rfl)
  rw [← eZ14, ← eZ17, ← eI15] at s18
  intro q19 nq19 Z20 eZ20 I21 eI21 L22 eL22
  intro Z23 eZ23
  have s24 := SW_arr 7 14 25 s18 nq19 (hs := shM rfl)
  rw [← eZ20, ← eZ23, ← eI21] at s24
  intro q25 nq25 Z26 eZ26 I27 eI27 L28 eL28
  intro Z29 eZ29
  have s30 := SW_arr 8 14 25 s24 nq25 (hs := shM rfl)
  rw [← eZ26, ← eZ29, ← eI27] at s30
  intro q31 nq31 Z32 eZ32 I33 eI33 L34 eL34
  refine SW_obj (z + 2047) (cw_X7_init Zs) s30 nq31 eZ32 eI33 rfl (fun Z35 I36 L37 s38 kq31 uq31 hq31 lq31 _ _ => ?_)
  intro Z39 eZ39
  have s40 := SW_put 9 s38 kq31 uq31 hq31 rfl (hs := shMo rfl)
  rw [← eZ39] at s40
  intro q41 nq41 Z42 eZ42 I43 eI43 L44 eL44
  refine SW_obj (((z + 2047) + 0) + 2047) (cw_X7_init Zs) s40 nq41 eZ42 eI43 rfl (fun Z45 I46 L47 s48 kq41 uq41 hq41 lq41 _ _ => ?_)
  intro Z49 eZ49
  have s50 := SW_put 10 s48 kq41 uq41 hq41 rfl (hs := shMo rfl)
  rw [← eZ49] at s50
  intro q51 nq51 Z52 eZ52 I53 eI53 L54 eL54
  intro Z55 eZ55
  have s56 := SW_arr 11 15 21 s50 nq51 (hs := shM rfl)
  rw [← eZ52, ← eZ55, ← eI53] at s56
  intro q57 nq57 Z58 eZ58 I59 eI59 L60 eL60
  intro Z61 eZ61
  have s62 := SW_arr 12 14 21 s56 nq57 (hs := shM rfl)
  rw [← eZ58, ← eZ61, ← eI59] at s62
  intro q63 nq63 Z64 eZ64 I65 eI65 L66 eL66
  intro Z67 eZ67
  have s68 := SW_arr 13 14 21 s62 nq63 (hs := shM rfl)
  rw [← eZ64, ← eZ67, ← eI65] at s68
  intro I69 eI69
  have s70 := SW_int 14 s68 (v := (0)) (ok := (by first | exact okF0 _ _ | trivial | exact ⟨by decide, by decide⟩ | exact hl))
  rw [← eI69] at s70
  intro I71 eI71
  have s72 := SW_int 15 s70 (v := (0)) (ok := (by first | exact okF0 _ _ | trivial | exact ⟨by decide, by decide⟩ | exact hl))
  rw [← eI71] at s72
  intro Z73 eZ73
  have kb := (s72.1.1 _ _ kv1).1
  have s74 := SW_ref 0 s72 (z' := ((((z + 2047) + 0) + 2047) + 0)) (by decide) kb.1 (fun e => (s72.1.2.2.2.2.1 _ e).2.1 kv1.1) (Or.inr rfl) (fun e => by rw [kb.2] at e; cases e) (fun e => by cases e) (by rw [potc_put s72.2.2.2.1 (by omega) (by omega)]; exact s72.1.2.2.2.2.2.1.2.2) (fun r _ => capN_put s72.2.2.2.1 (by omega)) (fun k o e => by cases e; exact ⟨kb, fun m hm => by cases hm⟩)
  rw [← eZ73] at s74
  intro I75 eI75
  have s76 := SW_int 1 s74 (v := v2) (ok := (by first | exact okF0 _ _ | trivial | exact ⟨by decide, by decide⟩ | exact hl))
  rw [← eI75] at s76
  intro I77 eI77
  have s78 := SW_int 2 s76 (v := v3) (ok := (by first | exact okF0 _ _ | trivial | exact ⟨by decide, by decide⟩ | exact hl))
  rw [← eI77] at s78
  intro I79 eI79
  have s80 := SW_int 3 s78 (v := v4) (ok := (by first | exact okF0 _ _ | trivial | exact ⟨by decide, by decide⟩ | exact hl))
  rw [← eI79] at s80
  obtain ⟨e1, e2⟩ := SW_end s80 (by decide) (shJ (by decide))
  exact hQ _ _ _ (e1.cast (by omega) (by have jv := jcsV; have j17 : jcs 17 2 = 2 := rfl; have j18 : jcs 18 6 = 6 := rfl; omega) (by omega)) s80.2.2.2.1 e2 (fun e => by cases e) s80.2.1 s80.2.2.1
set_option maxHeartbeats 4000000 in
set_option maxRecDepth 100000 in
theorem cw_X5_init {Zs : jZ} {v1 : Nat} (v2 v3 v4 v5 : Int32) (kv1 : jk Zs v1 8) (hl : 0 ≤ v4.toInt ∧ v4.toInt ≤ 3) : CTWs Zs 5 (fun h0 Z I L Q => f_X5_init h0 v1 v2 v3 v4 v5 Z I L Q) 25 576 0 4094 := by
  intro Is Z I L U h0 x y z Q hC hk hU hn hI hQ
  show f_X5_init h0 v1 v2 v3 v4 v5 Z I L Q
  have s0 : SW Zs Is Z I U h0 5 [] Z I x y z := SW_start hC hk hU hn
  unfold f_X5_init
  intro I1 eI1
  have s2 := SW_int 4 s0 (v := (0)) (ok := (by first | exact okF0 _ _ | trivial | exact ⟨by decide, by decide⟩ | exact hl))
  rw [← eI1] at s2
  intro I3 eI3
  have s4 := SW_int 5 s2 (v := (-1)) (ok := (by first | exact okF0 _ _ | trivial | exact ⟨by decide, by decide⟩ | exact hl))
  rw [← eI3] at s4
  intro I5 eI5
  have s6 := SW_int 0 s4 (v := v2) (ok := (by first | exact okF0 _ _ | trivial | exact ⟨by decide, by decide⟩ | exact hl))
  rw [← eI5] at s6
  intro I7 eI7
  have s8 := SW_int 1 s6 (v := v3) (ok := (by first | exact okF0 _ _ | trivial | exact ⟨by decide, by decide⟩ | exact hl))
  rw [← eI7] at s8
  intro I9 eI9
  have s10 := SW_int 2 s8 (v := v4) (ok := (by first | exact okF0 _ _ | trivial | exact ⟨by decide, by decide⟩ | exact hl))
  rw [← eI9] at s10
  intro I11 eI11
  have s12 := SW_int 3 s10 (v := v5) (ok := (by first | exact okF0 _ _ | trivial | exact ⟨by decide, by decide⟩ | exact hl))
  rw [← eI11] at s12
  intro I13 eI13
  have s14 := SW_int 6 s12 (v := v2) (ok := (by first | exact okF0 _ _ | trivial | exact ⟨by decide, by decide⟩ | exact hl))
  rw [← eI13] at s14
  intro I15 eI15
  have s16 := SW_int 7 s14 (v := v3) (ok := (by first | exact okF0 _ _ | trivial | exact ⟨by decide, by decide⟩ | exact hl))
  rw [← eI15] at s16
  intro q17 nq17 Z18 eZ18 I19 eI19 L20 eL20
  refine SW_obj z (cw_X6_init v2 v3 v4 kv1 hl) s16 nq17 eZ18 eI19 rfl (fun Z21 I22 L23 s24 kq17 uq17 hq17 lq17 _ _ => ?_)
  intro Z25 eZ25
  have s26 := SW_put 8 s24 kq17 uq17 hq17 rfl (hs := shMo rfl)
  rw [← eZ25] at s26
  obtain ⟨e1, e2⟩ := SW_end s26 (by decide) (shJ (by decide))
  exact hQ _ _ _ (e1.cast (by omega) (by have jv := jcsV; have j17 : jcs 17 2 = 2 := rfl; have j18 : jcs 18 6 = 6 := rfl; omega) (by omega)) s26.2.2.2.1 e2 (fun e => by cases e) s26.2.1 s26.2.2.1
set_option maxHeartbeats 4000000 in
set_option maxRecDepth 100000 in
theorem cw_X12_init : CTW 12 f_X12_init 41 512380 0 0 := by
  intro Zs Is Z I L U h0 x y z Q hC hk hU hn hI hQ
  have s0 : SW Zs Is Z I U h0 12 [] Z I x y z := SW_start hC hk hU hn
  unfold f_X12_init
  intro q1 nq1 Z2 eZ2 I3 eI3 L4 eL4
  intro Z5 eZ5
  have s6 := SW_arr 1 14 24 s0 nq1 (hs := shM rfl)
  rw [← eZ2, ← eZ5, ← eI3] at s6
  intro q7 nq7 Z8 eZ8 I9 eI9 L10 eL10
  intro Z11 eZ11
  have s12 := SW_arr 2 14 24 s6 nq7 (hs := shM rfl)
  rw [← eZ8, ← eZ11, ← eI9] at s12
  intro q13 nq13 Z14 eZ14 I15 eI15 L16 eL16
  intro Z17 eZ17
  have s18 := SW_arr 3 14 24 s12 nq13 (hs := shM rfl)
  rw [← eZ14, ← eZ17, ← eI15] at s18
  intro q19 nq19 Z20 eZ20 I21 eI21 L22 eL22
  intro Z23 eZ23
  have s24 := SW_arr 4 16 24 s18 nq19 (hs := shM rfl)
  rw [← eZ20, ← eZ23, ← eI21] at s24
  intro q25 nq25 Z26 eZ26 I27 eI27 L28 eL28
  intro Z29 eZ29
  have s30 := SW_arr 5 14 192 s24 nq25 (hs := shM rfl)
  rw [← eZ26, ← eZ29, ← eI27] at s30
  intro q31 nq31 Z32 eZ32 I33 eI33 L34 eL34
  intro Z35 eZ35
  have s36 := SW_arr 6 16 64 s30 nq31 (hs := shM rfl)
  rw [← eZ32, ← eZ35, ← eI33] at s36
  intro q37 nq37 Z38 eZ38 I39 eI39 L40 eL40
  intro Z41 eZ41
  have s42 := SW_arr 9 14 6 s36 nq37 (hs := shM rfl)
  rw [← eZ38, ← eZ41, ← eI39] at s42
  intro q43 nq43 Z44 eZ44 I45 eI45 L46 eL46
  intro Z47 eZ47
  have s48 := SW_arr 10 14 6 s42 nq43 (hs := shM rfl)
  rw [← eZ44, ← eZ47, ← eI45] at s48
  intro q49 nq49 Z50 eZ50 I51 eI51 L52 eL52
  intro Z53 eZ53
  have s54 := SW_arr 11 14 6 s48 nq49 (hs := shM rfl)
  rw [← eZ50, ← eZ53, ← eI51] at s54
  intro q55 nq55 Z56 eZ56 I57 eI57 L58 eL58
  intro Z59 eZ59
  have s60 := SW_arr 12 14 6 s54 nq55 (hs := shM rfl)
  rw [← eZ56, ← eZ59, ← eI57] at s60
  intro q61 nq61 Z62 eZ62 I63 eI63 L64 eL64
  intro Z65 eZ65
  have s66 := SW_arr 13 14 6 s60 nq61 (hs := shM rfl)
  rw [← eZ62, ← eZ65, ← eI63] at s66
  intro q67 nq67 Z68 eZ68 I69 eI69 L70 eL70
  intro Z71 eZ71
  have s72 := SW_arr 14 14 6 s66 nq67 (hs := shM rfl)
  rw [← eZ68, ← eZ71, ← eI69] at s72
  intro q73 nq73 Z74 eZ74 I75 eI75 L76 eL76
  intro Z77 eZ77
  have s78 := SW_arr 15 14 6 s72 nq73 (hs := shM rfl)
  rw [← eZ74, ← eZ77, ← eI75] at s78
  intro q79 nq79 Z80 eZ80 I81 eI81 L82 eL82
  intro Z83 eZ83
  have s84 := SW_arr 16 14 6 s78 nq79 (hs := shM rfl)
  rw [← eZ80, ← eZ83, ← eI81] at s84
  intro q85 nq85 Z86 eZ86 I87 eI87 L88 eL88
  intro Z89 eZ89
  have s90 := SW_arr 17 14 8 s84 nq85 (hs := shM rfl)
  rw [← eZ86, ← eZ89, ← eI87] at s90
  intro q91 nq91 Z92 eZ92 I93 eI93 L94 eL94
  intro Z95 eZ95
  have s96 := SW_arr 18 13 80 s90 nq91 (hs := shM rfl)
  rw [← eZ92, ← eZ95, ← eI93] at s96
  intro q97 nq97 Z98 eZ98 I99 eI99 L100 eL100
  intro Z101 eZ101
  have s102 := SW_arr 20 15 40 s96 nq97 (hs := shM rfl)
  rw [← eZ98, ← eZ101, ← eI99] at s102
  intro q103 nq103 Z104 eZ104 I105 eI105 L106 eL106
  intro Z107 eZ107
  have s108 := SW_arr 28 14 120 s102 nq103 (hs := shM rfl)
  rw [← eZ104, ← eZ107, ← eI105] at s108
  intro q109 q110 q111 nq109 nq110 nq111 Z112 eZ112 I113 eI113 L114 eL114
  intro Z115 eZ115
  have s116 := SW_mna 29 s108 nq109 nq110 nq111 rfl
  rw [← eZ112, ← eZ115, ← eI113] at s116
  intro q117 nq117 Z118 eZ118 I119 eI119 L120 eL120
  intro Z121 eZ121
  have s122 := SW_arr 30 14 2 s116 nq117 (hs := shM rfl)
  rw [← eZ118, ← eZ121, ← eI119] at s122
  intro I123 eI123
  have s124 := SW_int 31 s122 (v := (-1)) (ok := (by first | exact okF0 _ _ | trivial | exact ⟨by decide, by decide⟩ | exact hl))
  rw [← eI123] at s124
  intro q125 nq125 Z126 eZ126 I127 eI127 L128 eL128
  intro Z129 eZ129
  have s130 := SW_arr 35 14 8 s124 nq125 (hs := shM rfl)
  rw [← eZ126, ← eZ129, ← eI127] at s130
  intro q131 nq131 Z132 eZ132 I133 eI133 L134 eL134
  intro Z135 eZ135
  have s136 := SW_arr 36 15 8 s130 nq131 (hs := shM rfl)
  rw [← eZ132, ← eZ135, ← eI133] at s136
  intro q137 nq137 Z138 eZ138 I139 eI139 L140 eL140
  intro Z141 eZ141
  have s142 := SW_arr 37 14 75 s136 nq137 (hs := shM rfl)
  rw [← eZ138, ← eZ141, ← eI139] at s142
  intro q143 nq143 Z144 eZ144 I145 eI145 L146 eL146
  intro Z147 eZ147
  have s148 := SW_arr 38 14 75 s142 nq143 (hs := shM rfl)
  rw [← eZ144, ← eZ147, ← eI145] at s148
  intro I149 eI149
  have s150 := SW_int 39 s148 (v := (-1)) (ok := (by first | exact okF0 _ _ | trivial | exact ⟨by decide, by decide⟩ | exact hl))
  rw [← eI149] at s150
  intro q151 nq151 Z152 eZ152 I153 eI153 L154 eL154
  intro Z155 eZ155
  have s156 := SW_arr 40 14 25000 s150 nq151 (hs := shM rfl)
  rw [← eZ152, ← eZ155, ← eI153] at s156
  intro q157 nq157 Z158 eZ158 I159 eI159 L160 eL160
  intro Z161 eZ161
  have s162 := SW_arr 44 14 24 s156 nq157 (hs := shM rfl)
  rw [← eZ158, ← eZ161, ← eI159] at s162
  intro q163 nq163 Z164 eZ164 I165 eI165 L166 eL166
  intro Z167 eZ167
  have s168 := SW_arr 45 14 484000 s162 nq163 (hs := shM rfl)
  rw [← eZ164, ← eZ167, ← eI165] at s168
  intro q169 nq169 Z170 eZ170 I171 eI171 L172 eL172
  intro Z173 eZ173
  have s174 := SW_arr 53 14 1536 s168 nq169 (hs := shM rfl)
  rw [← eZ170, ← eZ173, ← eI171] at s174
  intro q175 nq175 Z176 eZ176 I177 eI177 L178 eL178
  intro Z179 eZ179
  have s180 := SW_arr 54 14 192 s174 nq175 (hs := shM rfl)
  rw [← eZ176, ← eZ179, ← eI177] at s180
  intro q181 nq181 Z182 eZ182 I183 eI183 L184 eL184
  intro Z185 eZ185
  have s186 := SW_arr 55 14 144 s180 nq181 (hs := shM rfl)
  rw [← eZ182, ← eZ185, ← eI183] at s186
  intro q187 nq187 Z188 eZ188 I189 eI189 L190 eL190
  intro Z191 eZ191
  have s192 := SW_arr 56 14 6 s186 nq187 (hs := shM rfl)
  rw [← eZ188, ← eZ191, ← eI189] at s192
  intro q193 nq193 Z194 eZ194 I195 eI195 L196 eL196
  intro Z197 eZ197
  have s198 := SW_arr 57 14 6 s192 nq193 (hs := shM rfl)
  rw [← eZ194, ← eZ197, ← eI195] at s198
  intro q199 nq199 Z200 eZ200 I201 eI201 L202 eL202
  intro Z203 eZ203
  have s204 := SW_arr 58 14 6 s198 nq199 (hs := shM rfl)
  rw [← eZ200, ← eZ203, ← eI201] at s204
  intro q205 nq205 Z206 eZ206 I207 eI207 L208 eL208
  intro Z209 eZ209
  have s210 := SW_arr 59 14 24 s204 nq205 (hs := shM rfl)
  rw [← eZ206, ← eZ209, ← eI207] at s210
  intro q211 nq211 Z212 eZ212 I213 eI213 L214 eL214
  intro Z215 eZ215
  have s216 := SW_arr 61 14 6 s210 nq211 (hs := shM rfl)
  rw [← eZ212, ← eZ215, ← eI213] at s216
  intro q217 nq217 Z218 eZ218 I219 eI219 L220 eL220
  intro Z221 eZ221
  have s222 := SW_arr 62 14 532 s216 nq217 (hs := shM rfl)
  rw [← eZ218, ← eZ221, ← eI219] at s222
  intro q223 nq223 Z224 eZ224 I225 eI225 L226 eL226
  intro Z227 eZ227
  have s228 := SW_arr 63 16 2 s222 nq223 (hs := shM rfl)
  rw [← eZ224, ← eZ227, ← eI225] at s228
  intro q229 nq229 Z230 eZ230 I231 eI231 L232 eL232
  intro Z233 eZ233
  have s234 := SW_arr 64 14 2 s228 nq229 (hs := shM rfl)
  rw [← eZ230, ← eZ233, ← eI231] at s234
  intro q235 nq235 Z236 eZ236 I237 eI237 L238 eL238
  intro Z239 eZ239
  have s240 := SW_arr 65 14 2 s234 nq235 (hs := shM rfl)
  rw [← eZ236, ← eZ239, ← eI237] at s240
  obtain ⟨e1, e2⟩ := SW_end s240 (by decide) (shJ (by decide))
  exact hQ _ _ _ (e1.cast (by omega) (by have jv := jcsV; have j17 : jcs 17 2 = 2 := rfl; have j18 : jcs 18 6 = 6 := rfl; omega) (by omega)) s240.2.2.2.1 e2 (fun e => by cases e) s240.2.1 s240.2.2.1
end
section
/-! ===== a pilgrim is told ===== -/
theorem sum_sub {f : Nat → Nat} : ∀ (l l' : List Nat), l.Nodup → (∀ a ∈ l, a ∈ l') → (l.map f).sum ≤ (l'.map f).sum := by
  intro l
  induction l with
  | nil => intro l' _ _; exact Nat.zero_le _
  | cons a l ih =>
    intro l' hn hs
    obtain ⟨hna, hn'⟩ := List.nodup_cons.mp hn
    obtain ⟨s, t, rfl⟩ := List.append_of_mem (hs a List.mem_cons_self)
    have h1 := ih (s ++ t) hn' (fun b hb => by
      have hne : b ≠ a := fun e => hna (e ▸ hb)
      rcases List.mem_append.mp (hs b (List.mem_cons_of_mem _ hb)) with h | h
      · exact List.mem_append_left _ h
      · exact List.mem_append_right _ ((List.mem_cons.mp h).resolve_left hne))
    simp only [List.map_cons, List.sum_cons, List.map_append, List.sum_append] at h1 ⊢
    omega
theorem len_sum (l : List Nat) : (l.map (fun _ => 1)).sum = l.length := by
  induction l with
  | nil => rfl
  | cons a l ih => simp only [List.map_cons, List.sum_cons, List.length_cons, ih]; omega
theorem jle_ext {Z Z' : jZ} (uq : UQ Z) (hx : jext Z Z') : jle Z Z' := by
  have hs : ∀ a ∈ Z.1, a ∈ Z'.1 := fun a ha => (hx a _ ⟨ha, rfl⟩).1.1
  constructor
  · have h := sum_sub (f := fun _ => 1) Z.1 Z'.1 uq.1 hs
    rw [len_sum, len_sum] at h
    exact h
  · have h := sum_sub (f := fun a => jcs (Z'.2.1 a) (Z'.2.2.1 a)) Z.1 Z'.1 uq.1 hs
    have e : Z.1.map (fun a => jcs (Z'.2.1 a) (Z'.2.2.1 a)) = Z.1.map (fun a => jcs (Z.2.1 a) (Z.2.2.1 a)) := List.map_congr_left (fun a ha => by
      obtain ⟨h1, h2⟩ := hx a _ ⟨ha, rfl⟩
      rw [h1.2, show Z'.2.2.1 a = Z.2.2.1 a from h2])
    rw [e] at h
    exact h
theorem CW_start {Z : jZ} {I : jI} (w : UQ Z ∧ OK Z I ∧ RI Z I) : CW Z I Z I [] 0 0 0 :=
  ⟨jext_rfl, fun _ _ => ⟨rfl, rfl⟩, fun a c ha hs => absurd ha.1 hs, w, fun u hu => absurd hu List.not_mem_nil, ⟨Nat.le_refl _, Nat.le_refl _, Nat.le_refl _⟩, CP.rf⟩
theorem CW_SH {Zs Z : jZ} {Is I : jI} {x y z : Nat} (h : CW Zs Is Z I [] x y z) (hs : SH Zs) : SH Z := by
  obtain ⟨h1, h2, h3, -, -, -, -⟩ := h
  have old : ∀ a c, jk Z a c → a ∈ Zs.1 → jk Zs a c ∧ ∀ j, jr Z a j = jr Zs a j := fun a c ha hm => by
    have k := (h1 a _ ⟨hm, rfl⟩).1
    exact ⟨⟨hm, k.2.symm.trans ha.2⟩, fun j => congrFun (h2 a hm).1 j⟩
  refine ⟨fun a c ha j k o e => ?_, fun a ha i b e => ?_, fun a ha i hi => ?_, fun a ha i hi => ?_⟩
  · by_cases hm : a ∈ Zs.1
    · obtain ⟨ka, er⟩ := old a c ha hm
      obtain ⟨b, g1, g2, g3⟩ := hs.1 a c ka j k o e
      exact ⟨b, (er j).trans g1, (h1 b k g2).1, fun m hm => (h1 b k g2).2.trans (g3 m hm)⟩
    · obtain ⟨b, g1, -, g2, g3⟩ := (h3 a c ha hm List.not_mem_nil).1 j k o e
      exact ⟨b, g1, g2, g3⟩
  · by_cases hm : a ∈ Zs.1
    · obtain ⟨ka, er⟩ := old a 18 ha hm
      rw [er] at e
      exact (h1 b 5 (hs.2.1 a ka i b e)).1
    · exact ((h3 a 18 ha hm List.not_mem_nil).2.1 rfl i b e).2
  · by_cases hm : a ∈ Zs.1
    · obtain ⟨ka, er⟩ := old a 17 ha hm
      rw [(h1 a 17 ka).2] at hi
      obtain ⟨b, g1, g2⟩ := hs.2.2.1 a ka i hi
      exact ⟨b, (er i).trans g1, (h1 b 2 g2).1⟩
    · obtain ⟨b, g1, -, g2⟩ := (h3 a 17 ha hm List.not_mem_nil).2.2.1 rfl i hi
      exact ⟨b, g1, g2⟩
  · by_cases hm : a ∈ Zs.1
    · obtain ⟨ka, er⟩ := old a 19 ha hm
      rw [(h1 a 19 ka).2] at hi
      obtain ⟨b, g1, g2, g3⟩ := hs.2.2.2 a ka i hi
      exact ⟨b, (er i).trans g1, (h1 b 13 g2).1, (h1 b 13 g2).2.trans g3⟩
    · obtain ⟨b, g1, -, g2, g3⟩ := (h3 a 19 ha hm List.not_mem_nil).2.2.2 rfl i hi
      exact ⟨b, g1, g2, g3⟩
theorem WD_put18 {Z : jZ} {I : jI} {a i b : Nat} (w : WD Z I) (ka : jk Z a 18) (kb : jk Z b 5) (hb : NH Z b) : WD (jpR Z a i (some b)) I := by
  have h0 : ¬ ((18 : Nat) = 0 ∧ i = 0) := by omega
  have no : ∀ x c, jk Z x c → c ≠ 18 → x ≠ a := fun x c hx hc e => by subst e; exact hc (hx.2.symm.trans ka.2)
  refine ⟨⟨fun x c hx j k o e => ?_, fun x hx j y e => ?_, fun x hx j hj => ?_, fun x hx j hj => ?_⟩, UQ_put w.2.1 ka kb.1 (Or.inl hb), ⟨w.2.2.1.1, fun x d j y hk e kk hs n => ?_⟩, fun x b0 b1 b2 b4 hk e0 e1 e2 e4 => ?_⟩
  · have hc : c ≠ 18 := fun h => by subst h; exact jsh_no (by decide) e
    obtain ⟨y, g1, g2⟩ := w.1.1 x c hx j k o e
    exact ⟨y, (jrR_ne (no x c hx hc)).trans g1, g2⟩
  · by_cases g : x = a ∧ j = i
    · obtain ⟨rfl, rfl⟩ := g
      rw [jrR_at] at e; cases e; exact kb
    · rw [jrR_o g] at e; exact w.1.2.1 x hx j y e
  · obtain ⟨y, g1, g2⟩ := w.1.2.2.1 x hx j hj
    exact ⟨y, (jrR_ne (no x 17 hx (by decide))).trans g1, g2⟩
  · obtain ⟨y, g1, g2⟩ := w.1.2.2.2 x hx j hj
    exact ⟨y, (jrR_ne (no x 19 hx (by decide))).trans g1, g2⟩
  · by_cases g : x = a ∧ j = i
    · obtain ⟨rfl, rfl⟩ := g
      rw [jrR_at] at e; cases e
      rw [show (jpR Z x j (some b)).2.1 b = 5 from kb.2] at kk
      cases kk
    · rw [jrR_o g] at e
      exact w.2.2.1.2 x d j y hk e kk hs n
  · have hx : x ≠ a := no x 7 hk (by decide)
    rw [jrR_ne hx] at e0 e1 e2 e4
    have r := w.2.2.2 x b0 b1 b2 b4 hk e0 e1 e2 e4
    exact ⟨r.1, r.2.1, by rw [capN_put ka h0]; exact r.2.2.1, r.2.2.2⟩
set_option maxHeartbeats 4000000 in
theorem s_X11_pilgrim {B : Nat × Nat} {T : Nat} {Z : jZ} {I : jI} {L : jL} (w : WD Z I) (bd : BUD B Z T) (v0 : Nat) (v1 v2 v3 v4 : Int32) (kv0 : jk Z v0 11) (ht : (I v0 4).toInt + (T : Int) = 6) {Q : Int32 → jZ → jI → jL → Prop}
    (hQ : ∀ (r : Int32) (Z' : jZ) (I' : jI) (L' : jL) (T' : Nat), WD Z' I' → BUD B Z' T' → (I' v0 4).toInt + (T' : Int) = 6 → jext Z Z' → jle Z Z' → Q r Z' I' L') : f_X11_pilgrim v0 v1 v2 v3 v4 Z I L Q := by
  have no : ∀ s0 : Int32, (s0 = 0 ∨ (1 ≤ v3.toInt ∧ v3.toInt ≤ 3)) → f_X11_pilgrim_b49 Q v0 v1 v2 v3 v4 s0 Z I L := by
    intro s0 hs0
    unfold f_X11_pilgrim_b49
    refine ⟨fun _ => hQ _ _ _ _ T w bd ht jext_rfl jle_rfl, fun c0 => ⟨fun c1 => ?_, fun _ => hQ _ _ _ _ T w bd ht jext_rfl jle_rfl⟩⟩
    have hl := hs0.resolve_left c0
    have t1 : (I v0 4).toInt < 6 := (i_lt rfl (show (6 : Int32).toInt = 6 from rfl)).mp c1
    have t0 : 0 ≤ (I v0 4).toInt ∧ (I v0 4).toInt ≤ 6 := w.fld 11 4 kv0 (by decide)
    intro b3 e3 q nq Z5 eZ5 I6 eI6 L7 eL7 b11 e11
    have hne : v0 ≠ q := fun e => nq (e ▸ kv0.1)
    obtain ⟨b8, f8, k8⟩ := sh_o w.1 kv0 (j := 2) (k := 8) rfl
    have : b11 = b8 := by
      rw [eZ5, jr_old hne, f8] at e11
      exact (Option.some.inj e11).symm
    subst this
    obtain ⟨b9, f9, k9, l9⟩ := sh_f w.1 kv0 (j := 3) (k := 18) (m := 6) rfl
    cases e3.symm.trans f9
    have c0' := CW_nw 5 0 (CW_start w.2) nq
    rw [← eZ5, ← eI6] at c0'
    refine cw_X5_init v1 v2 v3 v4 k8 ⟨by omega, hl.2⟩ I Z5 I6 L7 [] q 1 (0 + jcs 5 0) 0 _ c0' (by rw [eZ5]; exact jk_nw) List.not_mem_nil (fun j => by rw [eZ5]; exact jr_new) (fun j => by rw [eI6]; exact congrFun (va_up_self _ _ _) j) (fun Z13 I14 L15 c1 kq nhq _ x1 _ => ?_)
    have w1 : WD Z13 I14 := ⟨CW_SH c1 w.1, c1.2.2.2.1⟩
    have k3 : jk Z13 b3 18 := (c1.1 _ _ k9).1
    have kv : jk Z13 v0 11 := (c1.1 _ _ kv0).1
    have ev : I14 v0 = I v0 := (c1.2.1 v0 kv0.1).2
    refine ⟨vi_of rfl (by omega) (by omega), ?_⟩
    intro Z22 eZ22 I24 eI24
    have w2 : WD Z22 I14 := by rw [eZ22]; exact WD_put18 w1 k3 kq nhq
    have t2 : (I14 v0 4).toInt = (I v0 4).toInt := by rw [ev]
    have t3 : ((I14 v0 4) + (1 : Int32)).toInt = (I v0 4).toInt + 1 := (i_add rfl (show (1 : Int32).toInt = 1 from rfl) (by omega) (by omega)).trans (by omega)
    have kv' : jk Z22 v0 11 := by rw [eZ22]; exact kv
    have w3 : WD Z22 I24 := by rw [eI24]; exact WD_putF w2 11 4 kv' (by decide) (by decide) (by constructor <;> omega)
    refine ⟨w2.1, hQ _ _ _ _ (T - 1) w3 ?_ ?_ ?_ ?_⟩
    · obtain ⟨hb1, hb2⟩ := bd
      obtain ⟨g1, g2, g3⟩ := c1.2.2.2.2.2.1
      have hp : potc Z22 = potc Z13 := by rw [eZ22]; exact potc_put k3 (by omega) (by omega)
      have hc : jcz Z22 = jcz Z13 := by rw [eZ22]; rfl
      have hs : jsz Z22 = jsz Z13 := by rw [eZ22]; rfl
      have j5 : jcs 5 0 = 9 := rfl
      have hT : T = (T - 1) + 1 := by omega
      constructor
      · rw [hp, hc]; omega
      · rw [hp, hs]; omega
    · rw [eI24, jpI_at]; omega
    · have x2 : jext Z Z13 := c1.1
      rw [eZ22]; exact jext_trans x2 jext_putr
    · rw [eZ22]; exact jle_ext w.2.1 (jext_trans c1.1 jext_putr)
  unfold f_X11_pilgrim f_X11_pilgrim_b48
  refine ⟨fun _ => no 0 (Or.inl rfl), fun _ => ⟨fun _ => no 0 (Or.inl rfl), fun _ => ⟨fun _ => no 0 (Or.inl rfl), fun _ => ⟨fun _ => no 0 (Or.inl rfl), fun _ => ⟨fun _ => no 0 (Or.inl rfl), fun c3 => ⟨fun _ => no 0 (Or.inl rfl), fun c4 => ⟨fun _ => no 0 (Or.inl rfl), fun _ => ⟨fun _ => no 0 (Or.inl rfl), fun _ => no 1 (Or.inr ?_)⟩⟩⟩⟩⟩⟩⟩⟩
  have h3 := (not_congr (i_lt (x := v3) (y := 1) rfl (show (1 : Int32).toInt = 1 from rfl))).mp c3
  have h4 := (not_congr (i_lt (x := 3) (y := v3) (show (3 : Int32).toInt = 3 from rfl) rfl)).mp c4
  constructor <;> omega
end
