
set_option maxHeartbeats 4000000 in
set_option maxRecDepth 100000 in
theorem l9_X12_layMoves_L12 {B : Nat × Nat} {T : Nat} {Z0 : jZ} {I0 : jI} {Q : jZ → jI → jL → Prop} (w0 : WD Z0 I0) (v0 : Nat) (v1 : Int32) (kv0 : jk Z0 v0 12) (uC : Nat) (huC : jr Z0 v0 37 = some uC) (uE : Nat) (huE : jr Z0 v0 38 = some uE) (uL : Nat) (huL : jr Z0 v0 11 = some uL) (uV : Nat) (huV : jr Z0 v0 13 = some uV) (p0 : 0 ≤ v1.toInt ∧ v1.toInt ≤ 5) (v2 : Int32) (hQ : ∀  (Z' : jZ) (I' : jI) (L' : jL), WD Z' I' → BUD B Z' T → FR Ws_X12_layMoves Z0 I0 Z' I' → CP Z0 Z' → (MVB (3 * ((I' v0 0).toInt + 1)) (I' v0 0).toInt (I' uC) (I' uE) ∧ LMV B v0 Z0 I0 (I0 v0 0).toInt (I0 v0 39).toInt (I0 uL v1.toNatClampNeg) (I0 uV v1.toNatClampNeg) v1 (3 * ((I0 v0 0).toInt + 1)) (I' uC) (I' uE)) → Q Z' I' L') {K2 : Nat → Int32 → Int32 → jZ → jI → jL → Prop} {N2 : Int} (hK2 : ∀ (v2 : Int32) (Z : jZ) (I : jI) (L : jL), WD Z I → BUD B Z T → FR Ws_X12_layMoves Z0 I0 Z I → CP Z0 Z →   ((-1 ≤ v2.toInt ∧ v2.toInt ≤ (I0 v0 0).toInt ∧ (I0 v0 0).toInt ≤ 24) ∧ (I v0 0).toInt = (I0 v0 0).toInt ∧ MVB (3 * (v2.toInt + 1)) (I0 v0 0).toInt (I uC) (I uE) ∧ LMV B v0 Z0 I0 (I0 v0 0).toInt (I0 v0 39).toInt (I0 uL v1.toNatClampNeg) (I0 uV v1.toNatClampNeg) v1 (3 * (v2.toInt + 1)) (I uC) (I uE)) → 24 - v2.toInt < N2 → K2 v0 v1 v2 Z I L) : ∀ (n : Nat) (v3 : Int32) (Z : jZ) (I : jI) (L : jL), WD Z I → BUD B Z T → FR Ws_X12_layMoves Z0 I0 Z I → CP Z0 Z →   ((-1 ≤ v2.toInt ∧ v2.toInt < (I0 v0 0).toInt ∧ (I0 v0 0).toInt ≤ 24 ∧ 1 ≤ v3.toInt ∧ v3.toInt ≤ 4) ∧ (I v0 0).toInt = (I0 v0 0).toInt ∧ MVB (3 * (v2.toInt + 1) + v3.toInt - 1) (I0 v0 0).toInt (I uC) (I uE) ∧ LMV B v0 Z0 I0 (I0 v0 0).toInt (I0 v0 39).toInt (I0 uL v1.toNatClampNeg) (I0 uV v1.toNatClampNeg) v1 (3 * (v2.toInt + 1) + v3.toInt - 1) (I uC) (I uE)) → 24 - v2.toInt ≤ N2 → 4 - v3.toInt < (n : Int) → f_X12_layMoves_L12 B K2 Q n v0 v1 v2 v3 Z I L := by
  intro n
  induction n with
  | zero =>
    intro v3 Z I L w_I bd_Z q_I cp_Z   li hm2 me
    exfalso
    omega
  | succ n ih =>
    intro v3 Z I L w_I bd_Z q_I cp_Z   li hm2 me
    unfold f_X12_layMoves_L12
    have rv3 := i_rng v3
    have rv2 := i_rng v2
    have rv1 := i_rng v1
    obtain ⟨li0, li1, li2, li3⟩ := li
    have kv0_0 := kv0
    have kv0 := (q_I.1 _ _ kv0).1
    have t1 : 0 ≤ (I v0 0).toInt ∧ (I v0 0).toInt ≤ 24 := w_I.fld 12 0 kv0 (by decide)
    have t2 : -1 ≤ (I v0 39).toInt ∧ (I v0 39).toInt ≤ 23 := w_I.fld 12 39 kv0 (by decide)
    have huC_1 : jr Z v0 37 = some uC := (q_I.2.1 v0 12 37 kv0_0 (by decide) (by decide)).trans huC
    have luC : jlen Z uC = 75 := by obtain ⟨b9, e9, -, l9⟩ := sh_f w_I.1 kv0 (j := 37) (k := 14) (m := 75) rfl; cases huC_1.symm.trans e9; exact l9
    have kuC : jk Z uC 14 := by obtain ⟨b9, e9, k9, -⟩ := sh_f w_I.1 kv0 (j := 37) (k := 14) (m := 75) rfl; cases huC_1.symm.trans e9; exact k9
    have huE_1 : jr Z v0 38 = some uE := (q_I.2.1 v0 12 38 kv0_0 (by decide) (by decide)).trans huE
    have luE : jlen Z uE = 75 := by obtain ⟨b9, e9, -, l9⟩ := sh_f w_I.1 kv0 (j := 38) (k := 14) (m := 75) rfl; cases huE_1.symm.trans e9; exact l9
    have kuE : jk Z uE 14 := by obtain ⟨b9, e9, k9, -⟩ := sh_f w_I.1 kv0 (j := 38) (k := 14) (m := 75) rfl; cases huE_1.symm.trans e9; exact k9
    have huL_1 : jr Z v0 11 = some uL := (q_I.2.1 v0 12 11 kv0_0 (by decide) (by decide)).trans huL
    have luL : jlen Z uL = 6 := by obtain ⟨b9, e9, -, l9⟩ := sh_f w_I.1 kv0 (j := 11) (k := 14) (m := 6) rfl; cases huL_1.symm.trans e9; exact l9
    have kuL : jk Z uL 14 := by obtain ⟨b9, e9, k9, -⟩ := sh_f w_I.1 kv0 (j := 11) (k := 14) (m := 6) rfl; cases huL_1.symm.trans e9; exact k9
    have huV_1 : jr Z v0 13 = some uV := (q_I.2.1 v0 12 13 kv0_0 (by decide) (by decide)).trans huV
    have luV : jlen Z uV = 6 := by obtain ⟨b9, e9, -, l9⟩ := sh_f w_I.1 kv0 (j := 13) (k := 14) (m := 6) rfl; cases huV_1.symm.trans e9; exact l9
    have kuV : jk Z uV 14 := by obtain ⟨b9, e9, k9, -⟩ := sh_f w_I.1 kv0 (j := 13) (k := 14) (m := 6) rfl; cases huV_1.symm.trans e9; exact k9
    have xq_I := q_I.1
    refine ⟨fun c3 => ?_, fun c3 => ?_⟩
    · skip
      first | (have t4 : (3) < v3.toInt := (i_lt (show (3 : Int32).toInt = 3 from rfl) rfl).mp c3) | (have t4 : (3 : Int32).toInt < v3.toInt := (i_lt rfl rfl).mp c3) | skip
      intro x5 ex5
      have rx5 := i_rng x5
      first | (have tx5 : x5.toInt = v2.toInt + (1) := by (rw [ex5]; exact (i_add rfl (show (1 : Int32).toInt = 1 from rfl) (by omega) (by omega)))) | skip
      exact hK2 x5 Z I L w_I bd_Z q_I cp_Z   (by refine ⟨?_, ?_, ?_, ?_⟩; (omega); (omega); (first | exact MVB.zero (by omega) | (rw [show 3 * (x5.toInt + 1) = 3 * (v2.toInt + 1) + v3.toInt - 1 by omega]; exact li2)); (first | exact LMV.zero (by omega) | (rw [show 3 * (x5.toInt + 1) = 3 * (v2.toInt + 1) + v3.toInt - 1 by omega]; exact li3)))  (by omega)
    · skip
      first | (have t6 : ¬ ((3) < v3.toInt) := (not_congr (i_lt (show (3 : Int32).toInt = 3 from rfl) rfl)).mp c3) | (have t6 : ¬ ((3 : Int32).toInt < v3.toInt) := (not_congr (i_lt rfl rfl)).mp c3) | skip
      intro x7 ex7
      have rx7 := i_rng x7
      first | (have tx7 : x7.toInt = ((((3) * (v2.toInt + (1))) + v3.toInt) - (1)) := by (rw [ex7]; exact (i_sub (i_add (i_mul (show (3 : Int32).toInt = 3 from rfl) (i_add rfl (show (1 : Int32).toInt = 1 from rfl) (by omega) (by omega)) (by omega) (by omega)) rfl (by omega) (by omega)) (show (1 : Int32).toInt = 1 from rfl) (by omega) (by omega)))) | (have tx7 : x7.toInt = ((((3 : Int32) * (v2 + (1 : Int32))) + v3) - (1 : Int32)).toInt := by rw [ex7])
      intro x8 ex8
      have rx8 := i_rng x8
      first | (have tx8 : x8.toInt = (v2.toInt + v3.toInt) := by (rw [ex8]; exact (i_add rfl rfl (by omega) (by omega)))) | (have tx8 : x8.toInt = (v2 + v3).toInt := by rw [ex8])
      intro b9 eb9
      obtain rfl : uC = b9 := Option.some.inj (huC_1.symm.trans eb9)
      have o10 : vp_in x7 75 := vi_of rfl (by omega) (by omega)
      refine ⟨o10, ?_⟩
      intro I11 eI11
      have t12 : (1000000000 : Int32).toInt = 1000000000 := rfl
      have w_I11 : WD Z I11 := by rw [eI11]; exact WD_putA w_I 12 37 kv0 huC_1 kuC rfl rfl (by decide) trivial
      have ao_I11_uC : ∀ q, q ≠ x7.toNatClampNeg → I11 uC q = I uC q := fun q hq => by rw [eI11]; exact jpI_off hq
      first | (have u13 : (I11 uC (x7.toNatClampNeg)).toInt = (1000000000) := by (rw [eI11, show jpI I uC x7.toNatClampNeg (1000000000 : Int32) uC x7.toNatClampNeg = (1000000000 : Int32) from jpI_at] <;> exact (show (1000000000 : Int32).toInt = 1000000000 from rfl))) | skip
      have f_I11 : FR [(12, 37)] Z I Z I11 := by rw [eI11]; exact FR_upA w_I.2.1 kv0 huC_1 kuC rfl rfl List.mem_cons_self
      have q_I11 : FR Ws_X12_layMoves Z0 I0 Z I11 := q_I.trans w0.1 w0.2.1 (f_I11.mono (by decide))
      have ao_I11_uE : I11 uE = I uE := f_I11.2.2.2 v0 12 38 uE kv0 huE_1 (by rw [kuE.2]; rfl) rfl (by decide)
      have u14 : (I11 v0 0).toInt = (I v0 0).toInt := by rw [f_I11.2.2.1 v0 12 0 kv0 (by decide) (by decide)]
      have u15 : (I11 v0 39).toInt = (I v0 39).toInt := by rw [f_I11.2.2.1 v0 12 39 kv0 (by decide) (by decide)]
      have el9 : I11 uL = I0 uL := q_I11.2.2.2 v0 12 11 uL kv0_0 huL (by obtain ⟨b9, e9, k9, -⟩ := sh_f w0.1 kv0_0 (j := 11) (k := 14) (m := 6) rfl; cases huL.symm.trans e9; rw [k9.2]; rfl) rfl (by decide)
      have ev9 : I11 uV = I0 uV := q_I11.2.2.2 v0 12 13 uV kv0_0 huV (by obtain ⟨b9, e9, k9, -⟩ := sh_f w0.1 kv0_0 (j := 13) (k := 14) (m := 6) rfl; cases huV.symm.trans e9; rw [k9.2]; rfl) rfl (by decide)
      have es9 : (I11 v0 39).toInt = (I0 v0 39).toInt := by rw [q_I11.2.2.1 v0 12 39 kv0_0 (by decide) (by decide)]
      have el8 : (I11 uL v1.toNatClampNeg).toInt = (I0 uL v1.toNatClampNeg).toInt := by rw [el9]
      intro b16 eb16
      obtain rfl : uL = b16 := Option.some.inj (huL_1.symm.trans eb16)
      have o17 : vp_in v1 6 := vi_of rfl (by omega) (by omega)
      refine ⟨o17, ?_⟩
      have t18 : 0 ≤ (I11 uL v1.toNatClampNeg).toInt ∧ (I11 uL v1.toNatClampNeg).toInt ≤ 3 := w_I11.arr 12 11 kv0 huL_1 kuL rfl rfl _
      refine ⟨fun c19 => ?_, fun c19 => ?_⟩
      · skip
        first | (have t20 : (I11 uL v1.toNatClampNeg).toInt < v3.toInt := (i_lt rfl rfl).mp c19) | (have t20 : (I11 uL v1.toNatClampNeg).toInt < v3.toInt := (i_lt rfl rfl).mp c19) | skip
        unfold f_X12_layMoves_b122
        intro x21 ex21
        have rx21 := i_rng x21
        first | (have tx21 : x21.toInt = v3.toInt + (1) := by (rw [ex21]; exact (i_add rfl (show (1 : Int32).toInt = 1 from rfl) (by omega) (by omega)))) | skip
        exact ih x21 Z I11 L w_I11 bd_Z q_I11 cp_Z   (by refine ⟨?_, ?_, ?_, ?_⟩; (omega); (omega); (first | (rw [show 3 * (v2.toInt + 1) + (1 : Int32).toInt - 1 = 3 * (v2.toInt + 1) by omega]; exact li2) | (have hn := i_nat (x := x7) rfl (by omega); exact MVB.step li2 x7.toNatClampNeg (by omega) ao_I11_uC (fun q _ => congrFun ao_I11_uE q) (by omega) (by omega))); (first | (rw [show 3 * (v2.toInt + 1) + (1 : Int32).toInt - 1 = 3 * (v2.toInt + 1) by omega]; exact li3) | (have hn := i_nat (x := x7) rfl (by omega); refine LMV.step li3 x7.toNatClampNeg (by omega) ao_I11_uC (fun q _ => congrFun ao_I11_uE q) ?_ (by omega); first | exact Or.inl ⟨by omega, by omega⟩ | exact Or.inr ⟨by omega, v2, _, rm, by omega, by omega, hmn, Or.inl ⟨(hhv.resolve_right (fun h => by omega)).2, by omega⟩⟩ | exact Or.inr ⟨by omega, v2, _, rm, by omega, by omega, hmn, Or.inr ⟨(hhv.resolve_left (fun h => by omega)).2, by rw [show I11 uC x7.toNatClampNeg = rc from (i_eq rfl rfl).mpr (by rw [hrc]; omega)]; exact hcv, by rw [show I11 uE x7.toNatClampNeg = re from (i_eq rfl rfl).mpr (by rw [hre]; omega)]; exact hev⟩⟩))) (by omega) (by omega)
      · skip
        first | (have t22 : ¬ ((I11 uL v1.toNatClampNeg).toInt < v3.toInt) := (not_congr (i_lt rfl rfl)).mp c19) | (have t22 : ¬ ((I11 uL v1.toNatClampNeg).toInt < v3.toInt) := (not_congr (i_lt rfl rfl)).mp c19) | skip
        have t24 : 0 ≤ (I11 v0 0).toInt ∧ (I11 v0 0).toInt ≤ 24 := w_I11.fld 12 0 kv0 (by decide)
        refine ⟨fun c25 => ?_, fun c25 => ?_⟩
        · skip
          first | (have t26 : (I11 v0 0).toInt ≤ x8.toInt := (i_le rfl rfl).mp c25) | (have t26 : (I11 v0 0).toInt ≤ x8.toInt := (i_le rfl rfl).mp c25) | skip
          unfold f_X12_layMoves_b122
          intro x27 ex27
          have rx27 := i_rng x27
          first | (have tx27 : x27.toInt = v3.toInt + (1) := by (rw [ex27]; exact (i_add rfl (show (1 : Int32).toInt = 1 from rfl) (by omega) (by omega)))) | skip
          exact ih x27 Z I11 L w_I11 bd_Z q_I11 cp_Z   (by refine ⟨?_, ?_, ?_, ?_⟩; (omega); (omega); (first | (rw [show 3 * (v2.toInt + 1) + (1 : Int32).toInt - 1 = 3 * (v2.toInt + 1) by omega]; exact li2) | (have hn := i_nat (x := x7) rfl (by omega); exact MVB.step li2 x7.toNatClampNeg (by omega) ao_I11_uC (fun q _ => congrFun ao_I11_uE q) (by omega) (by omega))); (first | (rw [show 3 * (v2.toInt + 1) + (1 : Int32).toInt - 1 = 3 * (v2.toInt + 1) by omega]; exact li3) | (have hn := i_nat (x := x7) rfl (by omega); refine LMV.step li3 x7.toNatClampNeg (by omega) ao_I11_uC (fun q _ => congrFun ao_I11_uE q) ?_ (by omega); first | exact Or.inl ⟨by omega, by omega⟩ | exact Or.inr ⟨by omega, v2, _, rm, by omega, by omega, hmn, Or.inl ⟨(hhv.resolve_right (fun h => by omega)).2, by omega⟩⟩ | exact Or.inr ⟨by omega, v2, _, rm, by omega, by omega, hmn, Or.inr ⟨(hhv.resolve_left (fun h => by omega)).2, by rw [show I11 uC x7.toNatClampNeg = rc from (i_eq rfl rfl).mpr (by rw [hrc]; omega)]; exact hcv, by rw [show I11 uE x7.toNatClampNeg = re from (i_eq rfl rfl).mpr (by rw [hre]; omega)]; exact hev⟩⟩))) (by omega) (by omega)
        · skip
          first | (have t28 : ¬ ((I11 v0 0).toInt ≤ x8.toInt) := (not_congr (i_le rfl rfl)).mp c25) | (have t28 : ¬ ((I11 v0 0).toInt ≤ x8.toInt) := (not_congr (i_le rfl rfl)).mp c25) | skip
          have t30 : -1 ≤ (I11 v0 39).toInt ∧ (I11 v0 39).toInt ≤ 23 := w_I11.fld 12 39 kv0 (by decide)
          refine ⟨fun c31 => ?_, fun c31 => ?_⟩
          · skip
            first | (have t32 : x8.toInt = (I11 v0 39).toInt := (i_eq rfl rfl).mp c31) | (have t32 : x8.toInt = (I11 v0 39).toInt := (i_eq rfl rfl).mp c31) | skip
            unfold f_X12_layMoves_b122
            intro x33 ex33
            have rx33 := i_rng x33
            first | (have tx33 : x33.toInt = v3.toInt + (1) := by (rw [ex33]; exact (i_add rfl (show (1 : Int32).toInt = 1 from rfl) (by omega) (by omega)))) | skip
            exact ih x33 Z I11 L w_I11 bd_Z q_I11 cp_Z   (by refine ⟨?_, ?_, ?_, ?_⟩; (omega); (omega); (first | (rw [show 3 * (v2.toInt + 1) + (1 : Int32).toInt - 1 = 3 * (v2.toInt + 1) by omega]; exact li2) | (have hn := i_nat (x := x7) rfl (by omega); exact MVB.step li2 x7.toNatClampNeg (by omega) ao_I11_uC (fun q _ => congrFun ao_I11_uE q) (by omega) (by omega))); (first | (rw [show 3 * (v2.toInt + 1) + (1 : Int32).toInt - 1 = 3 * (v2.toInt + 1) by omega]; exact li3) | (have hn := i_nat (x := x7) rfl (by omega); refine LMV.step li3 x7.toNatClampNeg (by omega) ao_I11_uC (fun q _ => congrFun ao_I11_uE q) ?_ (by omega); first | exact Or.inl ⟨by omega, by omega⟩ | exact Or.inr ⟨by omega, v2, _, rm, by omega, by omega, hmn, Or.inl ⟨(hhv.resolve_right (fun h => by omega)).2, by omega⟩⟩ | exact Or.inr ⟨by omega, v2, _, rm, by omega, by omega, hmn, Or.inr ⟨(hhv.resolve_left (fun h => by omega)).2, by rw [show I11 uC x7.toNatClampNeg = rc from (i_eq rfl rfl).mpr (by rw [hrc]; omega)]; exact hcv, by rw [show I11 uE x7.toNatClampNeg = re from (i_eq rfl rfl).mpr (by rw [hre]; omega)]; exact hev⟩⟩))) (by omega) (by omega)
          · skip
            first | (have t34 : ¬ (x8.toInt = (I11 v0 39).toInt) := (not_congr (i_eq rfl rfl)).mp c31) | (have t34 : ¬ (x8.toInt = (I11 v0 39).toInt) := (not_congr (i_eq rfl rfl)).mp c31) | skip
            intro b35 eb35
            obtain rfl : uV = b35 := Option.some.inj (huV_1.symm.trans eb35)
            have o36 : vp_in v1 6 := vi_of rfl (by omega) (by omega)
            refine ⟨o36, ?_⟩
            refine s9_X12_mainOf w_I11 v0 x8 kv0  (by omega) (fun r37 p38 => ?_)
            have rr37 := i_rng r37
            obtain ⟨rm, hrm, hmn⟩ : ∃ rm : Int32, rm = r37 ∧ MN0 v0 Z0 I0 x8 rm := ⟨_, rfl, MN0.cls (L := jL0) (L' := jL0) (A0_FR w0 kv0_0 q_I11 (by decide) (fun e => e.elim)) (p38).2⟩
            refine s9_X12_has w_I11 (I11 uV v1.toNatClampNeg) r37    (fun r39 p40 => ?_)
            have rr39 := i_rng r39
            have hhv : (r39.toInt = 1 ∧ hvb (I0 uV v1.toNatClampNeg) rm) ∨ (r39.toInt = 0 ∧ ¬ hvb (I0 uV v1.toNatClampNeg) rm) := by rw [hrm, ← ev9]; exact p40
            refine ⟨fun c41 => ?_, fun c41 => ?_⟩
            · skip
              first | (have t42 : r39.toInt = (0) := (i_eq rfl (show (0 : Int32).toInt = 0 from rfl)).mp c41) | (have t42 : r39.toInt = (0 : Int32).toInt := (i_eq rfl rfl).mp c41) | skip
              intro b43 eb43
              obtain rfl : uC = b43 := Option.some.inj (huC_1.symm.trans eb43)
              have ag9 : A0 False v0 Z0 I0 jL0 Z I11 jL0 := A0_FR w0 kv0_0 q_I11 (by decide) (fun e => e.elim)
              refine s9_X12_costOf w_I11 bd_Z v0 v1 v2 x8 kv0  (by omega) (fun r44 Z48 I46 L47 w_I46 bd_Z48 f_I46 c_Z48 p45 => ?_)
              have q_I46 : FR Ws_X12_layMoves Z0 I0 Z48 I46 := q_I11.trans w0.1 w0.2.1 (f_I46.mono (by decide))
              have cp_Z48 : CP Z0 Z48 := cp_Z.trans q_I11.1 c_Z48
              have x_Z48 := f_I46.1
              have k49 := (f_I46.1 _ _ kv0).1
              have k50 := (f_I46.1 _ _ kuC).1
              have l51 := (f_I46.1 _ _ kuC).2.trans luC
              have k52 := (f_I46.1 _ _ kv0).1
              have e53 := (f_I46.2.1 v0 12 37 kv0 (by decide) (by decide)).trans huC_1
              have k54 := (f_I46.1 _ _ kuE).1
              have l55 := (f_I46.1 _ _ kuE).2.trans luE
              have k56 := (f_I46.1 _ _ kv0).1
              have e57 := (f_I46.2.1 v0 12 38 kv0 (by decide) (by decide)).trans huE_1
              have k58 := (f_I46.1 _ _ kuL).1
              have l59 := (f_I46.1 _ _ kuL).2.trans luL
              have k60 := (f_I46.1 _ _ kv0).1
              have e61 := (f_I46.2.1 v0 12 11 kv0 (by decide) (by decide)).trans huL_1
              have k62 := (f_I46.1 _ _ kuV).1
              have l63 := (f_I46.1 _ _ kuV).2.trans luV
              have k64 := (f_I46.1 _ _ kv0).1
              have e65 := (f_I46.2.1 v0 12 13 kv0 (by decide) (by decide)).trans huV_1
              have ao_I46_uC : ∀ q, q ≠ x7.toNatClampNeg → I46 uC q = I uC q := fun q hq => by rw [f_I46.2.2.2 v0 12 37 uC kv0 huC_1 (by rw [kuC.2]; rfl) rfl (by decide)]; exact ao_I11_uC q hq
              have ao_I46_uE : I46 uE = I uE := (f_I46.2.2.2 v0 12 38 uE kv0 huE_1 (by rw [kuE.2]; rfl) rfl (by decide)).trans ao_I11_uE
              have u66 : (I46 uC (x7.toNatClampNeg)).toInt = (I11 uC (x7.toNatClampNeg)).toInt := by rw [f_I46.2.2.2 v0 12 37 uC kv0 huC_1 (by rw [kuC.2]; rfl) rfl (by decide)]
              have u67 : (I46 v0 0).toInt = (I11 v0 0).toInt := by rw [f_I46.2.2.1 v0 12 0 kv0 (by decide) (by decide)]
              have u68 : (I46 v0 39).toInt = (I11 v0 39).toInt := by rw [f_I46.2.2.1 v0 12 39 kv0 (by decide) (by decide)]
              have rr44 := i_rng r44
              obtain ⟨rc, hrc, hcv⟩ : ∃ rc : Int32, rc = r44 ∧ CV0 B v0 Z0 I0 v1 v2 x8 rc := ⟨_, rfl, CV0.cls ag9 (p45).2⟩
              have o69 : vp_in x7 75 := vi_of rfl (by omega) (by omega)
              refine ⟨o69, ?_⟩
              intro I70 eI70
              have w_I70 : WD Z48 I70 := by rw [eI70]; exact WD_putA w_I46 12 37 k52 e53 k50 rfl rfl (by decide) trivial
              have ao_I70_uC : ∀ q, q ≠ x7.toNatClampNeg → I70 uC q = I uC q := fun q hq => by rw [eI70, jpI_off hq]; exact ao_I46_uC q hq
              first | (have u71 : (I70 uC (x7.toNatClampNeg)).toInt = r44.toInt := by (rw [eI70, show jpI I46 uC x7.toNatClampNeg r44 uC x7.toNatClampNeg = r44 from jpI_at] <;> exact rfl)) | skip
              have f_I70 : FR [(12, 37)] Z48 I46 Z48 I70 := by rw [eI70]; exact FR_upA w_I46.2.1 k52 e53 k50 rfl rfl List.mem_cons_self
              have q_I70 : FR Ws_X12_layMoves Z0 I0 Z48 I70 := q_I46.trans w0.1 w0.2.1 (f_I70.mono (by decide))
              have ao_I70_uE : I70 uE = I uE := (f_I70.2.2.2 v0 12 38 uE k56 e57 (by rw [k54.2]; rfl) rfl (by decide)).trans ao_I46_uE
              have u72 : (I70 v0 0).toInt = (I46 v0 0).toInt := by rw [f_I70.2.2.1 v0 12 0 k49 (by decide) (by decide)]
              have u73 : (I70 v0 39).toInt = (I46 v0 39).toInt := by rw [f_I70.2.2.1 v0 12 39 k49 (by decide) (by decide)]
              intro b74 eb74
              obtain rfl : uE = b74 := Option.some.inj (e57.symm.trans eb74)
              have ag8 : A0 False v0 Z0 I0 jL0 Z48 I70 jL0 := A0_FR w0 kv0_0 q_I70 (by decide) (fun e => e.elim)
              refine s9_X12_effortOf w_I70 v0 v1 v2 x8 k49  (by omega) (fun r75 p76 => ?_)
              have rr75 := i_rng r75
              obtain ⟨re, hre, hev⟩ : ∃ re : Int32, re = r75 ∧ EV0 v0 Z0 I0 v1 v2 x8 re := ⟨_, rfl, EV0.cls ag8 (p76).2⟩
              have o77 : vp_in x7 75 := vi_of rfl (by omega) (by omega)
              refine ⟨o77, ?_⟩
              intro I78 eI78
              have w_I78 : WD Z48 I78 := by rw [eI78]; exact WD_putA w_I70 12 38 k56 e57 k54 rfl rfl (by decide) trivial
              have ao_I78_uE : ∀ q, q ≠ x7.toNatClampNeg → I78 uE q = I uE q := fun q hq => by rw [eI78, jpI_off hq, ao_I70_uE]
              first | (have u79 : (I78 uE (x7.toNatClampNeg)).toInt = r75.toInt := by (rw [eI78, show jpI I70 uE x7.toNatClampNeg r75 uE x7.toNatClampNeg = r75 from jpI_at] <;> exact rfl)) | skip
              have f_I78 : FR [(12, 38)] Z48 I70 Z48 I78 := by rw [eI78]; exact FR_upA w_I70.2.1 k56 e57 k54 rfl rfl List.mem_cons_self
              have q_I78 : FR Ws_X12_layMoves Z0 I0 Z48 I78 := q_I70.trans w0.1 w0.2.1 (f_I78.mono (by decide))
              have ao_I78_uC : ∀ q, q ≠ x7.toNatClampNeg → I78 uC q = I uC q := fun q hq => by rw [f_I78.2.2.2 v0 12 37 uC k52 e53 (by rw [k50.2]; rfl) rfl (by decide)]; exact ao_I70_uC q hq
              have u80 : (I78 uC (x7.toNatClampNeg)).toInt = (I70 uC (x7.toNatClampNeg)).toInt := by rw [f_I78.2.2.2 v0 12 37 uC k52 e53 (by rw [k50.2]; rfl) rfl (by decide)]
              have u81 : (I78 v0 0).toInt = (I70 v0 0).toInt := by rw [f_I78.2.2.1 v0 12 0 k49 (by decide) (by decide)]
              have u82 : (I78 v0 39).toInt = (I70 v0 39).toInt := by rw [f_I78.2.2.1 v0 12 39 k49 (by decide) (by decide)]
              unfold f_X12_layMoves_b122
              intro x83 ex83
              have rx83 := i_rng x83
              first | (have tx83 : x83.toInt = v3.toInt + (1) := by (rw [ex83]; exact (i_add rfl (show (1 : Int32).toInt = 1 from rfl) (by omega) (by omega)))) | skip
              exact ih x83 Z48 I78 L47 w_I78 bd_Z48 q_I78 cp_Z48   (by refine ⟨?_, ?_, ?_, ?_⟩; (omega); (omega); (first | (rw [show 3 * (v2.toInt + 1) + (1 : Int32).toInt - 1 = 3 * (v2.toInt + 1) by omega]; exact li2) | (have hn := i_nat (x := x7) rfl (by omega); exact MVB.step li2 x7.toNatClampNeg (by omega) ao_I78_uC ao_I78_uE (by omega) (by omega))); (first | (rw [show 3 * (v2.toInt + 1) + (1 : Int32).toInt - 1 = 3 * (v2.toInt + 1) by omega]; exact li3) | (have hn := i_nat (x := x7) rfl (by omega); refine LMV.step li3 x7.toNatClampNeg (by omega) ao_I78_uC ao_I78_uE ?_ (by omega); first | exact Or.inl ⟨by omega, by omega⟩ | exact Or.inr ⟨by omega, v2, _, rm, by omega, by omega, hmn, Or.inl ⟨(hhv.resolve_right (fun h => by omega)).2, by omega⟩⟩ | exact Or.inr ⟨by omega, v2, _, rm, by omega, by omega, hmn, Or.inr ⟨(hhv.resolve_left (fun h => by omega)).2, by rw [show I78 uC x7.toNatClampNeg = rc from (i_eq rfl rfl).mpr (by rw [hrc]; omega)]; exact hcv, by rw [show I78 uE x7.toNatClampNeg = re from (i_eq rfl rfl).mpr (by rw [hre]; omega)]; exact hev⟩⟩))) (by omega) (by omega)
            · skip
              first | (have t84 : ¬ (r39.toInt = (0)) := (not_congr (i_eq rfl (show (0 : Int32).toInt = 0 from rfl))).mp c41) | (have t84 : ¬ (r39.toInt = (0 : Int32).toInt) := (not_congr (i_eq rfl rfl)).mp c41) | skip
              unfold f_X12_layMoves_b122
              intro x85 ex85
              have rx85 := i_rng x85
              first | (have tx85 : x85.toInt = v3.toInt + (1) := by (rw [ex85]; exact (i_add rfl (show (1 : Int32).toInt = 1 from rfl) (by omega) (by omega)))) | skip
              exact ih x85 Z I11 L w_I11 bd_Z q_I11 cp_Z   (by refine ⟨?_, ?_, ?_, ?_⟩; (omega); (omega); (first | (rw [show 3 * (v2.toInt + 1) + (1 : Int32).toInt - 1 = 3 * (v2.toInt + 1) by omega]; exact li2) | (have hn := i_nat (x := x7) rfl (by omega); exact MVB.step li2 x7.toNatClampNeg (by omega) ao_I11_uC (fun q _ => congrFun ao_I11_uE q) (by omega) (by omega))); (first | (rw [show 3 * (v2.toInt + 1) + (1 : Int32).toInt - 1 = 3 * (v2.toInt + 1) by omega]; exact li3) | (have hn := i_nat (x := x7) rfl (by omega); refine LMV.step li3 x7.toNatClampNeg (by omega) ao_I11_uC (fun q _ => congrFun ao_I11_uE q) ?_ (by omega); first | exact Or.inl ⟨by omega, by omega⟩ | exact Or.inr ⟨by omega, v2, _, rm, by omega, by omega, hmn, Or.inl ⟨(hhv.resolve_right (fun h => by omega)).2, by omega⟩⟩ | exact Or.inr ⟨by omega, v2, _, rm, by omega, by omega, hmn, Or.inr ⟨(hhv.resolve_left (fun h => by omega)).2, by rw [show I11 uC x7.toNatClampNeg = rc from (i_eq rfl rfl).mpr (by rw [hrc]; omega)]; exact hcv, by rw [show I11 uE x7.toNatClampNeg = re from (i_eq rfl rfl).mpr (by rw [hre]; omega)]; exact hev⟩⟩))) (by omega) (by omega)
set_option maxHeartbeats 4000000 in
set_option maxRecDepth 100000 in
theorem l9_X12_layMoves_L2 {B : Nat × Nat} {T : Nat} {Z0 : jZ} {I0 : jI} {Q : jZ → jI → jL → Prop} (w0 : WD Z0 I0) (v0 : Nat) (v1 : Int32) (kv0 : jk Z0 v0 12) (uC : Nat) (huC : jr Z0 v0 37 = some uC) (uE : Nat) (huE : jr Z0 v0 38 = some uE) (uL : Nat) (huL : jr Z0 v0 11 = some uL) (uV : Nat) (huV : jr Z0 v0 13 = some uV) (p0 : 0 ≤ v1.toInt ∧ v1.toInt ≤ 5) (hQ : ∀  (Z' : jZ) (I' : jI) (L' : jL), WD Z' I' → BUD B Z' T → FR Ws_X12_layMoves Z0 I0 Z' I' → CP Z0 Z' → (MVB (3 * ((I' v0 0).toInt + 1)) (I' v0 0).toInt (I' uC) (I' uE) ∧ LMV B v0 Z0 I0 (I0 v0 0).toInt (I0 v0 39).toInt (I0 uL v1.toNatClampNeg) (I0 uV v1.toNatClampNeg) v1 (3 * ((I0 v0 0).toInt + 1)) (I' uC) (I' uE)) → Q Z' I' L') : ∀ (n : Nat) (v2 : Int32) (Z : jZ) (I : jI) (L : jL), WD Z I → BUD B Z T → FR Ws_X12_layMoves Z0 I0 Z I → CP Z0 Z →   ((-1 ≤ v2.toInt ∧ v2.toInt ≤ (I0 v0 0).toInt ∧ (I0 v0 0).toInt ≤ 24) ∧ (I v0 0).toInt = (I0 v0 0).toInt ∧ MVB (3 * (v2.toInt + 1)) (I0 v0 0).toInt (I uC) (I uE) ∧ LMV B v0 Z0 I0 (I0 v0 0).toInt (I0 v0 39).toInt (I0 uL v1.toNatClampNeg) (I0 uV v1.toNatClampNeg) v1 (3 * (v2.toInt + 1)) (I uC) (I uE)) → 24 - v2.toInt < (n : Int) → f_X12_layMoves_L2 B  Q n v0 v1 v2 Z I L := by
  intro n
  induction n with
  | zero =>
    intro v2 Z I L w_I bd_Z q_I cp_Z   li  me
    exfalso
    omega
  | succ n ih =>
    intro v2 Z I L w_I bd_Z q_I cp_Z   li  me
    unfold f_X12_layMoves_L2
    have rv2 := i_rng v2
    have rv1 := i_rng v1
    obtain ⟨li0, li1, li2, li3⟩ := li
    have kv0_0 := kv0
    have kv0 := (q_I.1 _ _ kv0).1
    have t86 : 0 ≤ (I v0 0).toInt ∧ (I v0 0).toInt ≤ 24 := w_I.fld 12 0 kv0 (by decide)
    have t87 : -1 ≤ (I v0 39).toInt ∧ (I v0 39).toInt ≤ 23 := w_I.fld 12 39 kv0 (by decide)
    have huC_1 : jr Z v0 37 = some uC := (q_I.2.1 v0 12 37 kv0_0 (by decide) (by decide)).trans huC
    have luC : jlen Z uC = 75 := by obtain ⟨b9, e9, -, l9⟩ := sh_f w_I.1 kv0 (j := 37) (k := 14) (m := 75) rfl; cases huC_1.symm.trans e9; exact l9
    have kuC : jk Z uC 14 := by obtain ⟨b9, e9, k9, -⟩ := sh_f w_I.1 kv0 (j := 37) (k := 14) (m := 75) rfl; cases huC_1.symm.trans e9; exact k9
    have huE_1 : jr Z v0 38 = some uE := (q_I.2.1 v0 12 38 kv0_0 (by decide) (by decide)).trans huE
    have luE : jlen Z uE = 75 := by obtain ⟨b9, e9, -, l9⟩ := sh_f w_I.1 kv0 (j := 38) (k := 14) (m := 75) rfl; cases huE_1.symm.trans e9; exact l9
    have kuE : jk Z uE 14 := by obtain ⟨b9, e9, k9, -⟩ := sh_f w_I.1 kv0 (j := 38) (k := 14) (m := 75) rfl; cases huE_1.symm.trans e9; exact k9
    have huL_1 : jr Z v0 11 = some uL := (q_I.2.1 v0 12 11 kv0_0 (by decide) (by decide)).trans huL
    have luL : jlen Z uL = 6 := by obtain ⟨b9, e9, -, l9⟩ := sh_f w_I.1 kv0 (j := 11) (k := 14) (m := 6) rfl; cases huL_1.symm.trans e9; exact l9
    have kuL : jk Z uL 14 := by obtain ⟨b9, e9, k9, -⟩ := sh_f w_I.1 kv0 (j := 11) (k := 14) (m := 6) rfl; cases huL_1.symm.trans e9; exact k9
    have huV_1 : jr Z v0 13 = some uV := (q_I.2.1 v0 12 13 kv0_0 (by decide) (by decide)).trans huV
    have luV : jlen Z uV = 6 := by obtain ⟨b9, e9, -, l9⟩ := sh_f w_I.1 kv0 (j := 13) (k := 14) (m := 6) rfl; cases huV_1.symm.trans e9; exact l9
    have kuV : jk Z uV 14 := by obtain ⟨b9, e9, k9, -⟩ := sh_f w_I.1 kv0 (j := 13) (k := 14) (m := 6) rfl; cases huV_1.symm.trans e9; exact k9
    have xq_I := q_I.1
    have t89 : 0 ≤ (I v0 0).toInt ∧ (I v0 0).toInt ≤ 24 := w_I.fld 12 0 kv0 (by decide)
    refine ⟨fun c90 => ?_, fun c90 => ?_⟩
    · skip
      first | (have t91 : (I v0 0).toInt ≤ v2.toInt := (i_le rfl rfl).mp c90) | (have t91 : (I v0 0).toInt ≤ v2.toInt := (i_le rfl rfl).mp c90) | skip
      exact hQ  Z I L w_I bd_Z q_I cp_Z (by have e9 : v2.toInt = (I0 v0 0).toInt := (by omega); rw [e9] at li2 li3; rw [li1]; exact ⟨li2, li3⟩)
    · skip
      first | (have t92 : ¬ ((I v0 0).toInt ≤ v2.toInt) := (not_congr (i_le rfl rfl)).mp c90) | (have t92 : ¬ ((I v0 0).toInt ≤ v2.toInt) := (not_congr (i_le rfl rfl)).mp c90) | skip
      have t93 : (1 : Int32).toInt = 1 := rfl
      exact ⟨(4 - (1 : Int32).toInt).toNat + 1, l9_X12_layMoves_L12 w0 v0 v1 kv0_0 uC huC uE huE uL huL uV huV p0 v2  hQ ih  _ (1 : Int32) Z I L w_I bd_Z q_I cp_Z   (by refine ⟨?_, ?_, ?_, ?_⟩; (omega); (omega); (first | (rw [show 3 * (v2.toInt + 1) + (1 : Int32).toInt - 1 = 3 * (v2.toInt + 1) by omega]; exact li2) | (have hn := i_nat (x := 0) rfl (by omega); exact MVB.step li2 0 (by omega) (fun _ _ => rfl) (fun _ _ => rfl) (by omega) (by omega))); (first | (rw [show 3 * (v2.toInt + 1) + (1 : Int32).toInt - 1 = 3 * (v2.toInt + 1) by omega]; exact li3) | (have hn := i_nat (x := 0) rfl (by omega); refine LMV.step li3 0 (by omega) (fun _ _ => rfl) (fun _ _ => rfl) ?_ (by omega); first | exact Or.inl ⟨by omega, by omega⟩ | exact Or.inr ⟨by omega, v2, _, rm, by omega, by omega, hmn, Or.inl ⟨(hhv.resolve_right (fun h => by omega)).2, by omega⟩⟩ | exact Or.inr ⟨by omega, v2, _, rm, by omega, by omega, hmn, Or.inr ⟨(hhv.resolve_left (fun h => by omega)).2, by rw [show I uC 0 = rc from (i_eq rfl rfl).mpr (by rw [hrc]; omega)]; exact hcv, by rw [show I uE 0 = re from (i_eq rfl rfl).mpr (by rw [hre]; omega)]; exact hev⟩⟩))) (by omega) (by omega)⟩
set_option maxHeartbeats 4000000 in
set_option maxRecDepth 100000 in
theorem s9_X12_layMoves {B : Nat × Nat} {T : Nat} {Z : jZ} {I : jI} {L : jL} (w_I : WD Z I) (bd_Z : BUD B Z T) (v0 : Nat) (v1 : Int32) (kv0 : jk Z v0 12) (uC : Nat) (huC : jr Z v0 37 = some uC) (uE : Nat) (huE : jr Z v0 38 = some uE) (uL : Nat) (huL : jr Z v0 11 = some uL) (uV : Nat) (huV : jr Z v0 13 = some uV) (p0 : 0 ≤ v1.toInt ∧ v1.toInt ≤ 5) {Q : jZ → jI → jL → Prop} (hQ : ∀  (Z' : jZ) (I' : jI) (L' : jL), WD Z' I' → BUD B Z' T → FR Ws_X12_layMoves Z I Z' I' → CP Z Z' → (MVB (3 * ((I' v0 0).toInt + 1)) (I' v0 0).toInt (I' uC) (I' uE) ∧ LMV B v0 Z I (I v0 0).toInt (I v0 39).toInt (I uL v1.toNatClampNeg) (I uV v1.toNatClampNeg) v1 (3 * ((I v0 0).toInt + 1)) (I' uC) (I' uE)) → Q Z' I' L') : f_X12_layMoves B v0 v1 Z I L Q := by
  unfold f_X12_layMoves
  have q_I : FR Ws_X12_layMoves Z I Z I := FR.rf
  have cp_Z : CP Z Z := CP.rf
  have rv1 := i_rng v1
  have t94 : 0 ≤ (I v0 0).toInt ∧ (I v0 0).toInt ≤ 24 := w_I.fld 12 0 kv0 (by decide)
  have t95 : -1 ≤ (I v0 39).toInt ∧ (I v0 39).toInt ≤ 23 := w_I.fld 12 39 kv0 (by decide)
  have luC : jlen Z uC = 75 := by obtain ⟨b9, e9, -, l9⟩ := sh_f w_I.1 kv0 (j := 37) (k := 14) (m := 75) rfl; cases huC.symm.trans e9; exact l9
  have kuC : jk Z uC 14 := by obtain ⟨b9, e9, k9, -⟩ := sh_f w_I.1 kv0 (j := 37) (k := 14) (m := 75) rfl; cases huC.symm.trans e9; exact k9
  have luE : jlen Z uE = 75 := by obtain ⟨b9, e9, -, l9⟩ := sh_f w_I.1 kv0 (j := 38) (k := 14) (m := 75) rfl; cases huE.symm.trans e9; exact l9
  have kuE : jk Z uE 14 := by obtain ⟨b9, e9, k9, -⟩ := sh_f w_I.1 kv0 (j := 38) (k := 14) (m := 75) rfl; cases huE.symm.trans e9; exact k9
  have luL : jlen Z uL = 6 := by obtain ⟨b9, e9, -, l9⟩ := sh_f w_I.1 kv0 (j := 11) (k := 14) (m := 6) rfl; cases huL.symm.trans e9; exact l9
  have kuL : jk Z uL 14 := by obtain ⟨b9, e9, k9, -⟩ := sh_f w_I.1 kv0 (j := 11) (k := 14) (m := 6) rfl; cases huL.symm.trans e9; exact k9
  have luV : jlen Z uV = 6 := by obtain ⟨b9, e9, -, l9⟩ := sh_f w_I.1 kv0 (j := 13) (k := 14) (m := 6) rfl; cases huV.symm.trans e9; exact l9
  have kuV : jk Z uV 14 := by obtain ⟨b9, e9, k9, -⟩ := sh_f w_I.1 kv0 (j := 13) (k := 14) (m := 6) rfl; cases huV.symm.trans e9; exact k9
  have t96 : (-1 : Int32).toInt = -1 := rfl
  exact ⟨(24 - (-1 : Int32).toInt).toNat + 1, l9_X12_layMoves_L2 w_I v0 v1 kv0 uC huC uE huE uL huL uV huV p0   hQ   _ (-1 : Int32) Z I L w_I bd_Z q_I cp_Z   (by refine ⟨?_, ?_, ?_, ?_⟩; (omega); (omega); (first | exact MVB.zero (by omega) | (rw [show 3 * ((-1 : Int32).toInt + 1) = 3 * (v2.toInt + 1) + v3.toInt - 1 by omega]; exact li2)); (first | exact LMV.zero (by omega) | (rw [show 3 * ((-1 : Int32).toInt + 1) = 3 * (v2.toInt + 1) + v3.toInt - 1 by omega]; exact li3)))  (by omega)⟩

set_option maxHeartbeats 4000000 in
set_option maxRecDepth 100000 in
theorem l9_X12_findByEffort_L45 {Z : jZ} {I0 : jI} {Q : jI → jL → Prop} (w0 : WD Z I0) (v0 : Nat) (v1 : Int32) (kv0 : jk Z v0 12) (uC : Nat) (huC : jr Z v0 37 = some uC) (uE : Nat) (huE : jr Z v0 38 = some uE) (uB : Nat) (huB : jr Z v0 40 = some uB) (p0 : MVB (3 * ((I0 v0 0).toInt + 1)) (I0 v0 0).toInt (I0 uC) (I0 uE)) (p1 : 0 ≤ v1.toInt ∧ v1.toInt ≤ 999) (v2 : Int32) (v3 : Int32) (hQ : ∀  (I' : jI) (L' : jL), WD Z I' → FR Ws_X12_findByEffort Z I0 Z I' → (DPR (I0 v0 0).toInt v1.toInt (I0 uC) (I0 uE) (I' uB) (-1) 0 ∧ DMR (I0 v0 0).toInt v1.toInt (I0 uC) (I0 uE) (I' uB) (-1) 0) → Q I' L') {K7 : Nat → Int32 → Int32 → jI → jL → Prop} {N7 : Int} (hK7 : ∀ (v2 : Int32) (I : jI) (L : jL), WD Z I → FR Ws_X12_findByEffort Z I0 Z I →   ((-2 ≤ v2.toInt ∧ (I0 v0 0).toInt ≤ 24 ∧ v2.toInt < (I0 v0 0).toInt) ∧ DPR (I0 v0 0).toInt v1.toInt (I0 uC) (I0 uE) (I uB) (v2.toInt + 1) 0 ∧ DMR (I0 v0 0).toInt v1.toInt (I0 uC) (I0 uE) (I uB) (v2.toInt + 1) 0) → v2.toInt + 2 < N7 → K7 v0 v1 v2 I L) {K14 : Nat → Int32 → Int32 → Int32 → jI → jL → Prop} {N14 : Int} (hK14 : ∀ (v3 : Int32) (I : jI) (L : jL), WD Z I → FR Ws_X12_findByEffort Z I0 Z I →   ((-1 ≤ v2.toInt ∧ (I0 v0 0).toInt ≤ 24 ∧ v2.toInt < (I0 v0 0).toInt ∧ 0 ≤ v3.toInt ∧ v3.toInt ≤ v1.toInt + 1) ∧ DPR (I0 v0 0).toInt v1.toInt (I0 uC) (I0 uE) (I uB) (v2.toInt + 1) v3.toInt ∧ DMR (I0 v0 0).toInt v1.toInt (I0 uC) (I0 uE) (I uB) (v2.toInt + 1) v3.toInt) → v2.toInt + 2 ≤ N7 → 1000 - v3.toInt < N14 → K14 v0 v1 v2 v3 I L) : ∀ (n : Nat) (v4 : Int32) (v5 : Int32) (I : jI) (L : jL), WD Z I → FR Ws_X12_findByEffort Z I0 Z I →   ((-1 ≤ v2.toInt ∧ (I0 v0 0).toInt ≤ 24 ∧ v2.toInt < (I0 v0 0).toInt ∧ 0 ≤ v3.toInt ∧ v3.toInt ≤ v1.toInt ∧ 1 ≤ v5.toInt ∧ v5.toInt ≤ 4) ∧ DPR (I0 v0 0).toInt v1.toInt (I0 uC) (I0 uE) (I uB) (v2.toInt + 1) v3.toInt ∧ DP1 (I0 v0 0).toInt (I0 uC) (I0 uE) (I uB) (v2.toInt + 1).toNat v3.toNatClampNeg v4.toInt ∧ DMR (I0 v0 0).toInt v1.toInt (I0 uC) (I0 uE) (I uB) (v2.toInt + 1) v3.toInt ∧ DM1 (I0 v0 0).toInt (I0 uC) (I0 uE) (I uB) (v2.toInt + 1).toNat v3.toNatClampNeg v5.toInt v4.toInt) → v2.toInt + 2 ≤ N7 → 1000 - v3.toInt ≤ N14 → 4 - v5.toInt < (n : Int) → f_X12_findByEffort_L45 K7 K14 Z Q n v0 v1 v2 v3 v4 v5 I L := by
  intro n
  induction n with
  | zero =>
    intro v4 v5 I L w_I q_I   li hm7 hm14 me
    exfalso
    omega
  | succ n ih =>
    intro v4 v5 I L w_I q_I   li hm7 hm14 me
    unfold f_X12_findByEffort_L45
    have rv4 := i_rng v4
    have rv5 := i_rng v5
    have rv2 := i_rng v2
    have rv3 := i_rng v3
    have rv1 := i_rng v1
    obtain ⟨li0, li1, li2, li3, li4⟩ := li
    have t1 : 0 ≤ (I v0 0).toInt ∧ (I v0 0).toInt ≤ 24 := w_I.fld 12 0 kv0 (by decide)
    have luC : jlen Z uC = 75 := by obtain ⟨b9, e9, -, l9⟩ := sh_f w_I.1 kv0 (j := 37) (k := 14) (m := 75) rfl; cases huC.symm.trans e9; exact l9
    have kuC : jk Z uC 14 := by obtain ⟨b9, e9, k9, -⟩ := sh_f w_I.1 kv0 (j := 37) (k := 14) (m := 75) rfl; cases huC.symm.trans e9; exact k9
    have luE : jlen Z uE = 75 := by obtain ⟨b9, e9, -, l9⟩ := sh_f w_I.1 kv0 (j := 38) (k := 14) (m := 75) rfl; cases huE.symm.trans e9; exact l9
    have kuE : jk Z uE 14 := by obtain ⟨b9, e9, k9, -⟩ := sh_f w_I.1 kv0 (j := 38) (k := 14) (m := 75) rfl; cases huE.symm.trans e9; exact k9
    have luB : jlen Z uB = 25000 := by obtain ⟨b9, e9, -, l9⟩ := sh_f w_I.1 kv0 (j := 40) (k := 14) (m := 25000) rfl; cases huB.symm.trans e9; exact l9
    have kuB : jk Z uB 14 := by obtain ⟨b9, e9, k9, -⟩ := sh_f w_I.1 kv0 (j := 40) (k := 14) (m := 25000) rfl; cases huB.symm.trans e9; exact k9
    have e0 : (I v0 0).toInt = (I0 v0 0).toInt := by rw [q_I.2.2.1 v0 12 0 kv0 (by decide) (by decide)]
    have ec : I uC = I0 uC := q_I.2.2.2 v0 12 37 uC kv0 huC (by rw [kuC.2]; rfl) rfl (by decide)
    have ee : I uE = I0 uE := q_I.2.2.2 v0 12 38 uE kv0 huE (by rw [kuE.2]; rfl) rfl (by decide)
    have mv : MVB (3 * ((I0 v0 0).toInt + 1)) (I0 v0 0).toInt (I uC) (I uE) := by rw [ec, ee]; exact p0
    refine ⟨fun c2 => ?_, fun c2 => ?_⟩
    · skip
      first | (have t3 : (3) < v5.toInt := (i_lt (show (3 : Int32).toInt = 3 from rfl) rfl).mp c2) | (have t3 : (3 : Int32).toInt < v5.toInt := (i_lt rfl rfl).mp c2) | skip
      intro b4 eb4
      obtain rfl : uB = b4 := Option.some.inj (huB.symm.trans eb4)
      have o5 : vp_in (((1000 : Int32) * (v2 + (1 : Int32))) + v3) 25000 := vi_of (i_add (i_mul (show (1000 : Int32).toInt = 1000 from rfl) (i_add rfl (show (1 : Int32).toInt = 1 from rfl) (by omega) (by omega)) (by omega) (by omega)) rfl (by omega) (by omega)) (by omega) (by omega)
      refine ⟨o5, ?_⟩
      intro I6 eI6
      have w_I6 : WD Z I6 := by rw [eI6]; exact WD_putA w_I 12 40 kv0 huB kuB rfl rfl (by decide) trivial
      have ao_I6_uB : ∀ q, q ≠ (((1000 : Int32) * (v2 + (1 : Int32))) + v3).toNatClampNeg → I6 uB q = I uB q := fun q hq => by rw [eI6]; exact jpI_off hq
      first | (have u7 : (I6 uB ((((1000 : Int32) * (v2 + (1 : Int32))) + v3).toNatClampNeg)).toInt = v4.toInt := by (rw [eI6, show jpI I uB (((1000 : Int32) * (v2 + (1 : Int32))) + v3).toNatClampNeg v4 uB (((1000 : Int32) * (v2 + (1 : Int32))) + v3).toNatClampNeg = v4 from jpI_at] <;> exact rfl)) | skip
      have f_I6 : FR [(12, 40)] Z I Z I6 := by rw [eI6]; exact FR_upA w_I.2.1 kv0 huB kuB rfl rfl List.mem_cons_self
      have q_I6 : FR Ws_X12_findByEffort Z I0 Z I6 := q_I.trans w0.1 w0.2.1 (f_I6.mono (by decide))
      have u8 : (I6 v0 0).toInt = (I v0 0).toInt := by rw [f_I6.2.2.1 v0 12 0 kv0 (by decide) (by decide)]
      intro x9 ex9
      have rx9 := i_rng x9
      first | (have tx9 : x9.toInt = v3.toInt + (1) := by (rw [ex9]; exact (i_add rfl (show (1 : Int32).toInt = 1 from rfl) (by omega) (by omega)))) | skip
      exact hK14 x9 I6 L w_I6 q_I6   (by refine ⟨?_, ?_, ?_⟩; (omega); (first | exact li1 | (have h3 := i_nat (x := v3) rfl (by omega); have h4 := i_nat (x := (((1000 : Int32) * (v2 + (1 : Int32))) + v3)) (i_add (i_mul (show (1000 : Int32).toInt = 1000 from rfl) (i_add rfl (show (1 : Int32).toInt = 1 from rfl) (by omega) (by omega)) (by omega) (by omega)) rfl (by omega) (by omega)) (by omega); exact DPR.step li1 li2 (by omega) (by omega) (by omega) (by omega) (by omega) ao_I6_uB (by assumption) (by omega))); (first | exact li2 | (have h3 := i_nat (x := v3) rfl (by omega); have h4 := i_nat (x := (((1000 : Int32) * (v2 + (1 : Int32))) + v3)) (i_add (i_mul (show (1000 : Int32).toInt = 1000 from rfl) (i_add rfl (show (1 : Int32).toInt = 1 from rfl) (by omega) (by omega)) (by omega) (by omega)) rfl (by omega) (by omega)) (by omega); have e5 : v5.toInt = 4 := (by omega); rw [e5] at li4; exact DMR.step li3 li4 (by omega) (by omega) (by omega) (by omega) ao_I6_uB (by assumption) (by omega) (by omega)))) (by omega) (by omega)
    · skip
      first | (have t10 : ¬ ((3) < v5.toInt) := (not_congr (i_lt (show (3 : Int32).toInt = 3 from rfl) rfl)).mp c2) | (have t10 : ¬ ((3 : Int32).toInt < v5.toInt) := (not_congr (i_lt rfl rfl)).mp c2) | skip
      intro x11 ex11
      have rx11 := i_rng x11
      first | (have tx11 : x11.toInt = ((((3) * (v2.toInt + (1))) + v5.toInt) - (1)) := by (rw [ex11]; exact (i_sub (i_add (i_mul (show (3 : Int32).toInt = 3 from rfl) (i_add rfl (show (1 : Int32).toInt = 1 from rfl) (by omega) (by omega)) (by omega) (by omega)) rfl (by omega) (by omega)) (show (1 : Int32).toInt = 1 from rfl) (by omega) (by omega)))) | (have tx11 : x11.toInt = ((((3 : Int32) * (v2 + (1 : Int32))) + v5) - (1 : Int32)).toInt := by rw [ex11])
      intro b12 eb12
      obtain rfl : uC = b12 := Option.some.inj (huC.symm.trans eb12)
      have hm := MVB.at mv (x := x11) rfl (by omega) (by omega)
      have o13 : vp_in x11 75 := vi_of rfl (by omega) (by omega)
      refine ⟨o13, ?_⟩
      refine ⟨fun c14 => ?_, fun c14 => ?_⟩
      · skip
        first | (have t15 : (I uC x11.toNatClampNeg).toInt = (1000000000) := (i_eq rfl (show (1000000000 : Int32).toInt = 1000000000 from rfl)).mp c14) | (have t15 : (I uC x11.toNatClampNeg).toInt = (1000000000 : Int32).toInt := (i_eq rfl rfl).mp c14) | skip
        unfold f_X12_findByEffort_b147
        intro x16 ex16
        have rx16 := i_rng x16
        first | (have tx16 : x16.toInt = v5.toInt + (1) := by (rw [ex16]; exact (i_add rfl (show (1 : Int32).toInt = 1 from rfl) (by omega) (by omega)))) | skip
        exact ih v4 x16 I L w_I q_I   (by refine ⟨?_, ?_, ?_, ?_, ?_⟩; (omega); (exact li1); (first | exact li2 | (have h3 := i_nat (x := v3) rfl (by omega); first | exact Or.inl (by omega) | exact Or.inr ⟨by omega, by omega, Or.inl ⟨by omega, by omega⟩⟩ | (rw [← ec, ← ee] at li2 ⊢; exact DP1.cand li2 (k := x11) (far := v5.toInt) (by omega) (by omega) (by omega) (by omega) (by omega) hsp (by omega) (by omega) (by omega) (by omega)))); (first | exact li3 | exact li2); (have h3 := i_nat (x := v3) rfl (by omega); first | exact DM1.init (fun h => by omega) | (have h6 := i_nat (x := x11) rfl (by omega); rw [← ec, ← ee] at li4 ⊢; refine DM1.more li4 (by omega) (by omega) (x11).toNatClampNeg (by omega) (fun i h1 h2 h4 h5 => ?_); first | (exfalso; omega) | (obtain rfl : i = ix := (by omega); omega)))) (by omega) (by omega) (by omega)
      · skip
        first | (have t17 : ¬ ((I uC x11.toNatClampNeg).toInt = (1000000000)) := (not_congr (i_eq rfl (show (1000000000 : Int32).toInt = 1000000000 from rfl))).mp c14) | (have t17 : ¬ ((I uC x11.toNatClampNeg).toInt = (1000000000 : Int32).toInt) := (not_congr (i_eq rfl rfl)).mp c14) | skip
        intro b18 eb18
        obtain rfl : uE = b18 := Option.some.inj (huE.symm.trans eb18)
        have o19 : vp_in x11 75 := vi_of rfl (by omega) (by omega)
        refine ⟨o19, ?_⟩
        refine ⟨fun c20 => ?_, fun c20 => ?_⟩
        · skip
          first | (have t21 : (I uE x11.toNatClampNeg).toInt ≤ v3.toInt := (i_le rfl rfl).mp c20) | (have t21 : (I uE x11.toNatClampNeg).toInt ≤ v3.toInt := (i_le rfl rfl).mp c20) | skip
          intro b22 eb22
          obtain rfl : uB = b22 := Option.some.inj (huB.symm.trans eb22)
          intro b23 eb23
          obtain rfl : uE = b23 := Option.some.inj (huE.symm.trans eb23)
          have o24 : vp_in x11 75 := vi_of rfl (by omega) (by omega)
          refine ⟨o24, ?_⟩
          have hd := DPR.at li1 (x := ((((1000 : Int32) * ((v2 + v5) + (1 : Int32))) + v3) - (I uE x11.toNatClampNeg))) (i_sub (i_add (i_mul (show (1000 : Int32).toInt = 1000 from rfl) (i_add (i_add rfl rfl (by omega) (by omega)) (show (1 : Int32).toInt = 1 from rfl) (by omega) (by omega)) (by omega) (by omega)) rfl (by omega) (by omega)) rfl (by omega) (by omega)) (v2.toInt + v5.toInt + 1) (v3.toInt - (I uE x11.toNatClampNeg).toInt) (by omega) (by omega) (by omega)
          have hsp : ((((1000 : Int32) * ((v2 + v5) + (1 : Int32))) + v3) - (I uE x11.toNatClampNeg)).toInt = ((((1000) * ((v2.toInt + v5.toInt) + (1))) + v3.toInt) - (I uE x11.toNatClampNeg).toInt) := (i_sub (i_add (i_mul (show (1000 : Int32).toInt = 1000 from rfl) (i_add (i_add rfl rfl (by omega) (by omega)) (show (1 : Int32).toInt = 1 from rfl) (by omega) (by omega)) (by omega) (by omega)) rfl (by omega) (by omega)) rfl (by omega) (by omega))
          obtain ⟨ix, hix1, hix2⟩ : ∃ ix : Nat, (ix : Int) = 1000 * (v2.toInt + v5.toInt + 1) + v3.toInt - (I uE x11.toNatClampNeg).toInt ∧ ix = (((((1000 : Int32) * ((v2 + v5) + (1 : Int32))) + v3) - (I uE x11.toNatClampNeg))).toNatClampNeg := ⟨_, by (have h9 := i_nat (x := ((((1000 : Int32) * ((v2 + v5) + (1 : Int32))) + v3) - (I uE x11.toNatClampNeg))) (i_sub (i_add (i_mul (show (1000 : Int32).toInt = 1000 from rfl) (i_add (i_add rfl rfl (by omega) (by omega)) (show (1 : Int32).toInt = 1 from rfl) (by omega) (by omega)) (by omega) (by omega)) rfl (by omega) (by omega)) rfl (by omega) (by omega)) (by omega); omega), rfl⟩
          have o25 : vp_in ((((1000 : Int32) * ((v2 + v5) + (1 : Int32))) + v3) - (I uE x11.toNatClampNeg)) 25000 := vi_of (i_sub (i_add (i_mul (show (1000 : Int32).toInt = 1000 from rfl) (i_add (i_add rfl rfl (by omega) (by omega)) (show (1 : Int32).toInt = 1 from rfl) (by omega) (by omega)) (by omega) (by omega)) rfl (by omega) (by omega)) rfl (by omega) (by omega)) (by omega) (by omega)
          refine ⟨o25, ?_⟩
          intro x26 ex26
          have rx26 := i_rng x26
          first | (have tx26 : x26.toInt = (I uB ((((1000 : Int32) * ((v2 + v5) + (1 : Int32))) + v3) - (I uE x11.toNatClampNeg)).toNatClampNeg).toInt := by (rw [ex26]; exact rfl)) | (have tx26 : x26.toInt = (I uB ((((1000 : Int32) * ((v2 + v5) + (1 : Int32))) + v3) - (I uE x11.toNatClampNeg)).toNatClampNeg).toInt := by rw [ex26])
          have hbx : (I uB ix).toInt = x26.toInt := by rw [hix2, ex26]
          refine ⟨fun c27 => ?_, fun c27 => ?_⟩
          · skip
            first | (have t28 : x26.toInt = (1000000000) := (i_eq rfl (show (1000000000 : Int32).toInt = 1000000000 from rfl)).mp c27) | (have t28 : x26.toInt = (1000000000 : Int32).toInt := (i_eq rfl rfl).mp c27) | skip
            unfold f_X12_findByEffort_b147
            intro x29 ex29
            have rx29 := i_rng x29
            first | (have tx29 : x29.toInt = v5.toInt + (1) := by (rw [ex29]; exact (i_add rfl (show (1 : Int32).toInt = 1 from rfl) (by omega) (by omega)))) | skip
            exact ih v4 x29 I L w_I q_I   (by refine ⟨?_, ?_, ?_, ?_, ?_⟩; (omega); (exact li1); (first | exact li2 | (have h3 := i_nat (x := v3) rfl (by omega); first | exact Or.inl (by omega) | exact Or.inr ⟨by omega, by omega, Or.inl ⟨by omega, by omega⟩⟩ | (rw [← ec, ← ee] at li2 ⊢; exact DP1.cand li2 (k := x11) (far := v5.toInt) (by omega) (by omega) (by omega) (by omega) (by omega) hsp (by omega) (by omega) (by omega) (by omega)))); (first | exact li3 | exact li2); (have h3 := i_nat (x := v3) rfl (by omega); first | exact DM1.init (fun h => by omega) | (have h6 := i_nat (x := x11) rfl (by omega); rw [← ec, ← ee] at li4 ⊢; refine DM1.more li4 (by omega) (by omega) (x11).toNatClampNeg (by omega) (fun i h1 h2 h4 h5 => ?_); first | (exfalso; omega) | (obtain rfl : i = ix := (by omega); omega)))) (by omega) (by omega) (by omega)
          · skip
            first | (have t30 : ¬ (x26.toInt = (1000000000)) := (not_congr (i_eq rfl (show (1000000000 : Int32).toInt = 1000000000 from rfl))).mp c27) | (have t30 : ¬ (x26.toInt = (1000000000 : Int32).toInt) := (not_congr (i_eq rfl rfl)).mp c27) | skip
            intro b31 eb31
            obtain rfl : uC = b31 := Option.some.inj (huC.symm.trans eb31)
            have o32 : vp_in x11 75 := vi_of rfl (by omega) (by omega)
            refine ⟨o32, ?_⟩
            intro x33 ex33
            have rx33 := i_rng x33
            first | (have tx33 : x33.toInt = (min v4.toInt ((x26.toInt + ((100) * (I uC x11.toNatClampNeg).toInt)) + (1))) := by (rw [ex33]; exact (i_min rfl (i_add (i_add rfl (i_mul (show (100 : Int32).toInt = 100 from rfl) rfl (by omega) (by omega)) (by omega) (by omega)) (show (1 : Int32).toInt = 1 from rfl) (by omega) (by omega))))) | (have tx33 : x33.toInt = (if ((x26 + ((100 : Int32) * (I uC x11.toNatClampNeg))) + (1 : Int32)) < v4 then ((x26 + ((100 : Int32) * (I uC x11.toNatClampNeg))) + (1 : Int32)) else v4).toInt := by rw [ex33])
            unfold f_X12_findByEffort_b147
            intro x34 ex34
            have rx34 := i_rng x34
            first | (have tx34 : x34.toInt = v5.toInt + (1) := by (rw [ex34]; exact (i_add rfl (show (1 : Int32).toInt = 1 from rfl) (by omega) (by omega)))) | skip
            exact ih x33 x34 I L w_I q_I   (by refine ⟨?_, ?_, ?_, ?_, ?_⟩; (omega); (exact li1); (first | exact li2 | (have h3 := i_nat (x := v3) rfl (by omega); first | exact Or.inl (by omega) | exact Or.inr ⟨by omega, by omega, Or.inl ⟨by omega, by omega⟩⟩ | (rw [← ec, ← ee] at li2 ⊢; exact DP1.cand li2 (k := x11) (far := v5.toInt) (by omega) (by omega) (by omega) (by omega) (by omega) hsp (by omega) (by omega) (by omega) (by omega)))); (first | exact li3 | exact li2); (have h3 := i_nat (x := v3) rfl (by omega); first | exact DM1.init (fun h => by omega) | (have h6 := i_nat (x := x11) rfl (by omega); rw [← ec, ← ee] at li4 ⊢; refine DM1.more li4 (by omega) (by omega) (x11).toNatClampNeg (by omega) (fun i h1 h2 h4 h5 => ?_); first | (exfalso; omega) | (obtain rfl : i = ix := (by omega); omega)))) (by omega) (by omega) (by omega)
        · skip
          first | (have t35 : ¬ ((I uE x11.toNatClampNeg).toInt ≤ v3.toInt) := (not_congr (i_le rfl rfl)).mp c20) | (have t35 : ¬ ((I uE x11.toNatClampNeg).toInt ≤ v3.toInt) := (not_congr (i_le rfl rfl)).mp c20) | skip
          unfold f_X12_findByEffort_b147
          intro x36 ex36
          have rx36 := i_rng x36
          first | (have tx36 : x36.toInt = v5.toInt + (1) := by (rw [ex36]; exact (i_add rfl (show (1 : Int32).toInt = 1 from rfl) (by omega) (by omega)))) | skip
          exact ih v4 x36 I L w_I q_I   (by refine ⟨?_, ?_, ?_, ?_, ?_⟩; (omega); (exact li1); (first | exact li2 | (have h3 := i_nat (x := v3) rfl (by omega); first | exact Or.inl (by omega) | exact Or.inr ⟨by omega, by omega, Or.inl ⟨by omega, by omega⟩⟩ | (rw [← ec, ← ee] at li2 ⊢; exact DP1.cand li2 (k := x11) (far := v5.toInt) (by omega) (by omega) (by omega) (by omega) (by omega) hsp (by omega) (by omega) (by omega) (by omega)))); (first | exact li3 | exact li2); (have h3 := i_nat (x := v3) rfl (by omega); first | exact DM1.init (fun h => by omega) | (have h6 := i_nat (x := x11) rfl (by omega); rw [← ec, ← ee] at li4 ⊢; refine DM1.more li4 (by omega) (by omega) (x11).toNatClampNeg (by omega) (fun i h1 h2 h4 h5 => ?_); first | (exfalso; omega) | (obtain rfl : i = ix := (by omega); omega)))) (by omega) (by omega) (by omega)
set_option maxHeartbeats 4000000 in
set_option maxRecDepth 100000 in
theorem l9_X12_findByEffort_L14 {Z : jZ} {I0 : jI} {Q : jI → jL → Prop} (w0 : WD Z I0) (v0 : Nat) (v1 : Int32) (kv0 : jk Z v0 12) (uC : Nat) (huC : jr Z v0 37 = some uC) (uE : Nat) (huE : jr Z v0 38 = some uE) (uB : Nat) (huB : jr Z v0 40 = some uB) (p0 : MVB (3 * ((I0 v0 0).toInt + 1)) (I0 v0 0).toInt (I0 uC) (I0 uE)) (p1 : 0 ≤ v1.toInt ∧ v1.toInt ≤ 999) (v2 : Int32) (hQ : ∀  (I' : jI) (L' : jL), WD Z I' → FR Ws_X12_findByEffort Z I0 Z I' → (DPR (I0 v0 0).toInt v1.toInt (I0 uC) (I0 uE) (I' uB) (-1) 0 ∧ DMR (I0 v0 0).toInt v1.toInt (I0 uC) (I0 uE) (I' uB) (-1) 0) → Q I' L') {K7 : Nat → Int32 → Int32 → jI → jL → Prop} {N7 : Int} (hK7 : ∀ (v2 : Int32) (I : jI) (L : jL), WD Z I → FR Ws_X12_findByEffort Z I0 Z I →   ((-2 ≤ v2.toInt ∧ (I0 v0 0).toInt ≤ 24 ∧ v2.toInt < (I0 v0 0).toInt) ∧ DPR (I0 v0 0).toInt v1.toInt (I0 uC) (I0 uE) (I uB) (v2.toInt + 1) 0 ∧ DMR (I0 v0 0).toInt v1.toInt (I0 uC) (I0 uE) (I uB) (v2.toInt + 1) 0) → v2.toInt + 2 < N7 → K7 v0 v1 v2 I L) : ∀ (n : Nat) (v3 : Int32) (I : jI) (L : jL), WD Z I → FR Ws_X12_findByEffort Z I0 Z I →   ((-1 ≤ v2.toInt ∧ (I0 v0 0).toInt ≤ 24 ∧ v2.toInt < (I0 v0 0).toInt ∧ 0 ≤ v3.toInt ∧ v3.toInt ≤ v1.toInt + 1) ∧ DPR (I0 v0 0).toInt v1.toInt (I0 uC) (I0 uE) (I uB) (v2.toInt + 1) v3.toInt ∧ DMR (I0 v0 0).toInt v1.toInt (I0 uC) (I0 uE) (I uB) (v2.toInt + 1) v3.toInt) → v2.toInt + 2 ≤ N7 → 1000 - v3.toInt < (n : Int) → f_X12_findByEffort_L14 K7 Z Q n v0 v1 v2 v3 I L := by
  intro n
  induction n with
  | zero =>
    intro v3 I L w_I q_I   li hm7 me
    exfalso
    omega
  | succ n ih =>
    intro v3 I L w_I q_I   li hm7 me
    unfold f_X12_findByEffort_L14
    have rv3 := i_rng v3
    have rv2 := i_rng v2
    have rv1 := i_rng v1
    obtain ⟨li0, li1, li2⟩ := li
    have t37 : 0 ≤ (I v0 0).toInt ∧ (I v0 0).toInt ≤ 24 := w_I.fld 12 0 kv0 (by decide)
    have luC : jlen Z uC = 75 := by obtain ⟨b9, e9, -, l9⟩ := sh_f w_I.1 kv0 (j := 37) (k := 14) (m := 75) rfl; cases huC.symm.trans e9; exact l9
    have kuC : jk Z uC 14 := by obtain ⟨b9, e9, k9, -⟩ := sh_f w_I.1 kv0 (j := 37) (k := 14) (m := 75) rfl; cases huC.symm.trans e9; exact k9
    have luE : jlen Z uE = 75 := by obtain ⟨b9, e9, -, l9⟩ := sh_f w_I.1 kv0 (j := 38) (k := 14) (m := 75) rfl; cases huE.symm.trans e9; exact l9
    have kuE : jk Z uE 14 := by obtain ⟨b9, e9, k9, -⟩ := sh_f w_I.1 kv0 (j := 38) (k := 14) (m := 75) rfl; cases huE.symm.trans e9; exact k9
    have luB : jlen Z uB = 25000 := by obtain ⟨b9, e9, -, l9⟩ := sh_f w_I.1 kv0 (j := 40) (k := 14) (m := 25000) rfl; cases huB.symm.trans e9; exact l9
    have kuB : jk Z uB 14 := by obtain ⟨b9, e9, k9, -⟩ := sh_f w_I.1 kv0 (j := 40) (k := 14) (m := 25000) rfl; cases huB.symm.trans e9; exact k9
    have e0 : (I v0 0).toInt = (I0 v0 0).toInt := by rw [q_I.2.2.1 v0 12 0 kv0 (by decide) (by decide)]
    have ec : I uC = I0 uC := q_I.2.2.2 v0 12 37 uC kv0 huC (by rw [kuC.2]; rfl) rfl (by decide)
    have ee : I uE = I0 uE := q_I.2.2.2 v0 12 38 uE kv0 huE (by rw [kuE.2]; rfl) rfl (by decide)
    have mv : MVB (3 * ((I0 v0 0).toInt + 1)) (I0 v0 0).toInt (I uC) (I uE) := by rw [ec, ee]; exact p0
    refine ⟨fun c38 => ?_, fun c38 => ?_⟩
    · skip
      first | (have t39 : v1.toInt < v3.toInt := (i_lt rfl rfl).mp c38) | (have t39 : v1.toInt < v3.toInt := (i_lt rfl rfl).mp c38) | skip
      intro x40 ex40
      have rx40 := i_rng x40
      first | (have tx40 : x40.toInt = v2.toInt + (-1) := by (rw [ex40]; exact (i_add rfl (show (-1 : Int32).toInt = -1 from rfl) (by omega) (by omega)))) | skip
      exact hK7 x40 I L w_I q_I   (by refine ⟨?_, ?_, ?_⟩; (omega); (first | exact DPR.zero (by omega) | exact DPR.next li1 (by omega) (by omega)); (first | exact DMR.zero (by omega) | exact DMR.next li2 (by omega) (by omega)))  (by omega)
    · skip
      first | (have t41 : ¬ (v1.toInt < v3.toInt) := (not_congr (i_lt rfl rfl)).mp c38) | (have t41 : ¬ (v1.toInt < v3.toInt) := (not_congr (i_lt rfl rfl)).mp c38) | skip
      have t43 : 0 ≤ (I v0 0).toInt ∧ (I v0 0).toInt ≤ 24 := w_I.fld 12 0 kv0 (by decide)
      refine ⟨fun c44 => ?_, fun c44 => ?_⟩
      · skip
        first | (have t45 : ¬ (v2.toInt = ((I v0 0).toInt - (1))) := (not_congr (i_eq rfl (i_sub rfl (show (1 : Int32).toInt = 1 from rfl) (by omega) (by omega)))).mp c44) | (have t45 : ¬ (v2.toInt = ((I v0 0) - (1 : Int32)).toInt) := (not_congr (i_eq rfl rfl)).mp c44) | skip
        unfold f_X12_findByEffort_b37
        unfold f_X12_findByEffort_b40
        have t46 : (1000000000 : Int32).toInt = 1000000000 := rfl
        have t47 : (1 : Int32).toInt = 1 := rfl
        exact ⟨(4 - (1 : Int32).toInt).toNat + 1, l9_X12_findByEffort_L45 w0 v0 v1 kv0 uC huC uE huE uB huB p0 p1 v2 v3  hQ hK7 ih  _ (1000000000 : Int32) (1 : Int32) I L w_I q_I   (by refine ⟨?_, ?_, ?_, ?_, ?_⟩; (omega); (exact li1); (first | exact li2 | (have h3 := i_nat (x := v3) rfl (by omega); first | exact Or.inl (by omega) | exact Or.inr ⟨by omega, by omega, Or.inl ⟨by omega, by omega⟩⟩ | (rw [← ec, ← ee] at li2 ⊢; exact DP1.cand li2 (k := x11) (far := v5.toInt) (by omega) (by omega) (by omega) (by omega) (by omega) hsp (by omega) (by omega) (by omega) (by omega)))); (first | exact li3 | exact li2); (have h3 := i_nat (x := v3) rfl (by omega); first | exact DM1.init (fun h => by omega) | (have h6 := i_nat (x := x11) rfl (by omega); rw [← ec, ← ee] at li4 ⊢; refine DM1.more li4 (by omega) (by omega) (x11).toNatClampNeg (by omega) (fun i h1 h2 h4 h5 => ?_); first | (exfalso; omega) | (obtain rfl : i = ix := (by omega); omega)))) (by omega) (by omega) (by omega)⟩
      · skip
        first | (have t48 : v2.toInt = ((I v0 0).toInt - (1)) := (i_eq rfl (i_sub rfl (show (1 : Int32).toInt = 1 from rfl) (by omega) (by omega))).mp c44) | (have t48 : v2.toInt = ((I v0 0) - (1 : Int32)).toInt := (i_eq rfl rfl).mp c44) | skip
        refine ⟨fun c49 => ?_, fun c49 => ?_⟩
        · skip
          first | (have t50 : ¬ (v3.toInt = (0)) := (not_congr (i_eq rfl (show (0 : Int32).toInt = 0 from rfl))).mp c49) | (have t50 : ¬ (v3.toInt = (0 : Int32).toInt) := (not_congr (i_eq rfl rfl)).mp c49) | skip
          unfold f_X12_findByEffort_b37
          unfold f_X12_findByEffort_b40
          have t51 : (1000000000 : Int32).toInt = 1000000000 := rfl
          have t52 : (1 : Int32).toInt = 1 := rfl
          exact ⟨(4 - (1 : Int32).toInt).toNat + 1, l9_X12_findByEffort_L45 w0 v0 v1 kv0 uC huC uE huE uB huB p0 p1 v2 v3  hQ hK7 ih  _ (1000000000 : Int32) (1 : Int32) I L w_I q_I   (by refine ⟨?_, ?_, ?_, ?_, ?_⟩; (omega); (exact li1); (first | exact li2 | (have h3 := i_nat (x := v3) rfl (by omega); first | exact Or.inl (by omega) | exact Or.inr ⟨by omega, by omega, Or.inl ⟨by omega, by omega⟩⟩ | (rw [← ec, ← ee] at li2 ⊢; exact DP1.cand li2 (k := x11) (far := v5.toInt) (by omega) (by omega) (by omega) (by omega) (by omega) hsp (by omega) (by omega) (by omega) (by omega)))); (first | exact li3 | exact li2); (have h3 := i_nat (x := v3) rfl (by omega); first | exact DM1.init (fun h => by omega) | (have h6 := i_nat (x := x11) rfl (by omega); rw [← ec, ← ee] at li4 ⊢; refine DM1.more li4 (by omega) (by omega) (x11).toNatClampNeg (by omega) (fun i h1 h2 h4 h5 => ?_); first | (exfalso; omega) | (obtain rfl : i = ix := (by omega); omega)))) (by omega) (by omega) (by omega)⟩
        · skip
          first | (have t53 : v3.toInt = (0) := (i_eq rfl (show (0 : Int32).toInt = 0 from rfl)).mp c49) | (have t53 : v3.toInt = (0 : Int32).toInt := (i_eq rfl rfl).mp c49) | skip
          unfold f_X12_findByEffort_b40
          have t54 : (0 : Int32).toInt = 0 := rfl
          have t55 : (1 : Int32).toInt = 1 := rfl
          exact ⟨(4 - (1 : Int32).toInt).toNat + 1, l9_X12_findByEffort_L45 w0 v0 v1 kv0 uC huC uE huE uB huB p0 p1 v2 v3  hQ hK7 ih  _ (0 : Int32) (1 : Int32) I L w_I q_I   (by refine ⟨?_, ?_, ?_, ?_, ?_⟩; (omega); (exact li1); (first | exact li2 | (have h3 := i_nat (x := v3) rfl (by omega); first | exact Or.inl (by omega) | exact Or.inr ⟨by omega, by omega, Or.inl ⟨by omega, by omega⟩⟩ | (rw [← ec, ← ee] at li2 ⊢; exact DP1.cand li2 (k := x11) (far := v5.toInt) (by omega) (by omega) (by omega) (by omega) (by omega) hsp (by omega) (by omega) (by omega) (by omega)))); (first | exact li3 | exact li2); (have h3 := i_nat (x := v3) rfl (by omega); first | exact DM1.init (fun h => by omega) | (have h6 := i_nat (x := x11) rfl (by omega); rw [← ec, ← ee] at li4 ⊢; refine DM1.more li4 (by omega) (by omega) (x11).toNatClampNeg (by omega) (fun i h1 h2 h4 h5 => ?_); first | (exfalso; omega) | (obtain rfl : i = ix := (by omega); omega)))) (by omega) (by omega) (by omega)⟩
set_option maxHeartbeats 4000000 in
set_option maxRecDepth 100000 in
theorem l9_X12_findByEffort_L7 {Z : jZ} {I0 : jI} {Q : jI → jL → Prop} (w0 : WD Z I0) (v0 : Nat) (v1 : Int32) (kv0 : jk Z v0 12) (uC : Nat) (huC : jr Z v0 37 = some uC) (uE : Nat) (huE : jr Z v0 38 = some uE) (uB : Nat) (huB : jr Z v0 40 = some uB) (p0 : MVB (3 * ((I0 v0 0).toInt + 1)) (I0 v0 0).toInt (I0 uC) (I0 uE)) (p1 : 0 ≤ v1.toInt ∧ v1.toInt ≤ 999) (hQ : ∀  (I' : jI) (L' : jL), WD Z I' → FR Ws_X12_findByEffort Z I0 Z I' → (DPR (I0 v0 0).toInt v1.toInt (I0 uC) (I0 uE) (I' uB) (-1) 0 ∧ DMR (I0 v0 0).toInt v1.toInt (I0 uC) (I0 uE) (I' uB) (-1) 0) → Q I' L') : ∀ (n : Nat) (v2 : Int32) (I : jI) (L : jL), WD Z I → FR Ws_X12_findByEffort Z I0 Z I →   ((-2 ≤ v2.toInt ∧ (I0 v0 0).toInt ≤ 24 ∧ v2.toInt < (I0 v0 0).toInt) ∧ DPR (I0 v0 0).toInt v1.toInt (I0 uC) (I0 uE) (I uB) (v2.toInt + 1) 0 ∧ DMR (I0 v0 0).toInt v1.toInt (I0 uC) (I0 uE) (I uB) (v2.toInt + 1) 0) → v2.toInt + 2 < (n : Int) → f_X12_findByEffort_L7  Z Q n v0 v1 v2 I L := by
  intro n
  induction n with
  | zero =>
    intro v2 I L w_I q_I   li  me
    exfalso
    omega
  | succ n ih =>
    intro v2 I L w_I q_I   li  me
    unfold f_X12_findByEffort_L7
    have rv2 := i_rng v2
    have rv1 := i_rng v1
    obtain ⟨li0, li1, li2⟩ := li
    have t56 : 0 ≤ (I v0 0).toInt ∧ (I v0 0).toInt ≤ 24 := w_I.fld 12 0 kv0 (by decide)
    have luC : jlen Z uC = 75 := by obtain ⟨b9, e9, -, l9⟩ := sh_f w_I.1 kv0 (j := 37) (k := 14) (m := 75) rfl; cases huC.symm.trans e9; exact l9
    have kuC : jk Z uC 14 := by obtain ⟨b9, e9, k9, -⟩ := sh_f w_I.1 kv0 (j := 37) (k := 14) (m := 75) rfl; cases huC.symm.trans e9; exact k9
    have luE : jlen Z uE = 75 := by obtain ⟨b9, e9, -, l9⟩ := sh_f w_I.1 kv0 (j := 38) (k := 14) (m := 75) rfl; cases huE.symm.trans e9; exact l9
    have kuE : jk Z uE 14 := by obtain ⟨b9, e9, k9, -⟩ := sh_f w_I.1 kv0 (j := 38) (k := 14) (m := 75) rfl; cases huE.symm.trans e9; exact k9
    have luB : jlen Z uB = 25000 := by obtain ⟨b9, e9, -, l9⟩ := sh_f w_I.1 kv0 (j := 40) (k := 14) (m := 25000) rfl; cases huB.symm.trans e9; exact l9
    have kuB : jk Z uB 14 := by obtain ⟨b9, e9, k9, -⟩ := sh_f w_I.1 kv0 (j := 40) (k := 14) (m := 25000) rfl; cases huB.symm.trans e9; exact k9
    have e0 : (I v0 0).toInt = (I0 v0 0).toInt := by rw [q_I.2.2.1 v0 12 0 kv0 (by decide) (by decide)]
    have ec : I uC = I0 uC := q_I.2.2.2 v0 12 37 uC kv0 huC (by rw [kuC.2]; rfl) rfl (by decide)
    have ee : I uE = I0 uE := q_I.2.2.2 v0 12 38 uE kv0 huE (by rw [kuE.2]; rfl) rfl (by decide)
    have mv : MVB (3 * ((I0 v0 0).toInt + 1)) (I0 v0 0).toInt (I uC) (I uE) := by rw [ec, ee]; exact p0
    refine ⟨fun c57 => ?_, fun c57 => ?_⟩
    · skip
      first | (have t58 : v2.toInt < (-1) := (i_lt rfl (show (-1 : Int32).toInt = -1 from rfl)).mp c57) | (have t58 : v2.toInt < (-1 : Int32).toInt := (i_lt rfl rfl).mp c57) | skip
      exact hQ  I L w_I q_I (by have e9 : v2.toInt + 1 = -1 := (by omega); rw [e9] at li1 li2; exact ⟨li1, li2⟩)
    · skip
      first | (have t59 : ¬ (v2.toInt < (-1)) := (not_congr (i_lt rfl (show (-1 : Int32).toInt = -1 from rfl))).mp c57) | (have t59 : ¬ (v2.toInt < (-1 : Int32).toInt) := (not_congr (i_lt rfl rfl)).mp c57) | skip
      have t60 : (0 : Int32).toInt = 0 := rfl
      exact ⟨(1000 - (0 : Int32).toInt).toNat + 1, l9_X12_findByEffort_L14 w0 v0 v1 kv0 uC huC uE huE uB huB p0 p1 v2  hQ ih  _ (0 : Int32) I L w_I q_I   (by refine ⟨?_, ?_, ?_⟩; (omega); (first | exact li1 | (have h3 := i_nat (x := v3) rfl (by omega); have h4 := i_nat (x := 0) rfl (by omega); exact DPR.step li1 li2 (by omega) (by omega) (by omega) (by omega) (by omega) (fun _ _ => rfl) (by assumption) (by omega))); (first | exact li2 | (have h3 := i_nat (x := v3) rfl (by omega); have h4 := i_nat (x := 0) rfl (by omega); have e5 : v5.toInt = 4 := (by omega); rw [e5] at li4; exact DMR.step li3 li4 (by omega) (by omega) (by omega) (by omega) (fun _ _ => rfl) (by assumption) (by omega) (by omega)))) (by omega) (by omega)⟩
set_option maxHeartbeats 4000000 in
set_option maxRecDepth 100000 in
theorem s9_X12_findByEffort {Z : jZ} {I : jI} {L : jL} (w_I : WD Z I) (v0 : Nat) (v1 : Int32) (kv0 : jk Z v0 12) (uC : Nat) (huC : jr Z v0 37 = some uC) (uE : Nat) (huE : jr Z v0 38 = some uE) (uB : Nat) (huB : jr Z v0 40 = some uB) (p0 : MVB (3 * ((I v0 0).toInt + 1)) (I v0 0).toInt (I uC) (I uE)) (p1 : 0 ≤ v1.toInt ∧ v1.toInt ≤ 999) {Q : jI → jL → Prop} (hQ : ∀  (I' : jI) (L' : jL), WD Z I' → FR Ws_X12_findByEffort Z I Z I' → (DPR (I v0 0).toInt v1.toInt (I uC) (I uE) (I' uB) (-1) 0 ∧ DMR (I v0 0).toInt v1.toInt (I uC) (I uE) (I' uB) (-1) 0) → Q I' L') : f_X12_findByEffort v0 v1 Z I L Q := by
  unfold f_X12_findByEffort
  have q_I : FR Ws_X12_findByEffort Z I Z I := FR.rf
  have rv1 := i_rng v1
  have t61 : 0 ≤ (I v0 0).toInt ∧ (I v0 0).toInt ≤ 24 := w_I.fld 12 0 kv0 (by decide)
  have luC : jlen Z uC = 75 := by obtain ⟨b9, e9, -, l9⟩ := sh_f w_I.1 kv0 (j := 37) (k := 14) (m := 75) rfl; cases huC.symm.trans e9; exact l9
  have kuC : jk Z uC 14 := by obtain ⟨b9, e9, k9, -⟩ := sh_f w_I.1 kv0 (j := 37) (k := 14) (m := 75) rfl; cases huC.symm.trans e9; exact k9
  have luE : jlen Z uE = 75 := by obtain ⟨b9, e9, -, l9⟩ := sh_f w_I.1 kv0 (j := 38) (k := 14) (m := 75) rfl; cases huE.symm.trans e9; exact l9
  have kuE : jk Z uE 14 := by obtain ⟨b9, e9, k9, -⟩ := sh_f w_I.1 kv0 (j := 38) (k := 14) (m := 75) rfl; cases huE.symm.trans e9; exact k9
  have luB : jlen Z uB = 25000 := by obtain ⟨b9, e9, -, l9⟩ := sh_f w_I.1 kv0 (j := 40) (k := 14) (m := 25000) rfl; cases huB.symm.trans e9; exact l9
  have kuB : jk Z uB 14 := by obtain ⟨b9, e9, k9, -⟩ := sh_f w_I.1 kv0 (j := 40) (k := 14) (m := 25000) rfl; cases huB.symm.trans e9; exact k9
  have t63 : 0 ≤ (I v0 0).toInt ∧ (I v0 0).toInt ≤ 24 := w_I.fld 12 0 kv0 (by decide)
  intro x64 ex64
  have rx64 := i_rng x64
  first | (have tx64 : x64.toInt = ((I v0 0).toInt - (1)) := by (rw [ex64]; exact (i_sub rfl (show (1 : Int32).toInt = 1 from rfl) (by omega) (by omega)))) | (have tx64 : x64.toInt = ((I v0 0) - (1 : Int32)).toInt := by rw [ex64])
  exact ⟨(x64.toInt + 2).toNat + 1, l9_X12_findByEffort_L7 w_I v0 v1 kv0 uC huC uE huE uB huB p0 p1   hQ   _ x64 I L w_I q_I   (by refine ⟨?_, ?_, ?_⟩; (omega); (first | exact DPR.zero (by omega) | exact DPR.next li1 (by omega) (by omega)); (first | exact DMR.zero (by omega) | exact DMR.next li2 (by omega) (by omega)))  (by omega)⟩
