def Ws_X12_layMoves : List (Nat × Nat) := [(12, 24), (12, 25), (12, 26), (12, 27), (12, 31), (12, 32), (12, 33), (12, 34), (12, 37), (12, 38)]
set_option maxHeartbeats 4000000 in
set_option maxRecDepth 100000 in
theorem l_X12_layMoves_L12 {B : Nat × Nat} {T : Nat} {Z0 : jZ} {I0 : jI} {Q : jZ → jI → jL → Prop} (w0 : WD Z0 I0) (v0 : Nat) (v1 : Int32) (kv0 : jk Z0 v0 12) (uC : Nat) (huC : jr Z0 v0 37 = some uC) (uE : Nat) (huE : jr Z0 v0 38 = some uE) (p0 : 0 ≤ v1.toInt ∧ v1.toInt ≤ 5) (v2 : Int32) (hQ : ∀  (Z' : jZ) (I' : jI) (L' : jL), WD Z' I' → BUD B Z' T → FR Ws_X12_layMoves Z0 I0 Z' I' → CP Z0 Z' → MVB (3 * ((I' v0 0).toInt + 1)) (I' v0 0).toInt (I' uC) (I' uE) → Q Z' I' L') {K2 : Nat → Int32 → Int32 → jZ → jI → jL → Prop} {N2 : Int} (hK2 : ∀ (v2 : Int32) (Z : jZ) (I : jI) (L : jL), WD Z I → BUD B Z T → FR Ws_X12_layMoves Z0 I0 Z I → CP Z0 Z →   ((-1 ≤ v2.toInt ∧ v2.toInt ≤ (I0 v0 0).toInt ∧ (I0 v0 0).toInt ≤ 24) ∧ (I v0 0).toInt = (I0 v0 0).toInt ∧ MVB (3 * (v2.toInt + 1)) (I0 v0 0).toInt (I uC) (I uE)) → 24 - v2.toInt < N2 → K2 v0 v1 v2 Z I L) : ∀ (n : Nat) (v3 : Int32) (Z : jZ) (I : jI) (L : jL), WD Z I → BUD B Z T → FR Ws_X12_layMoves Z0 I0 Z I → CP Z0 Z →   ((-1 ≤ v2.toInt ∧ v2.toInt < (I0 v0 0).toInt ∧ (I0 v0 0).toInt ≤ 24 ∧ 1 ≤ v3.toInt ∧ v3.toInt ≤ 4) ∧ (I v0 0).toInt = (I0 v0 0).toInt ∧ MVB (3 * (v2.toInt + 1) + v3.toInt - 1) (I0 v0 0).toInt (I uC) (I uE)) → 24 - v2.toInt ≤ N2 → 4 - v3.toInt < (n : Int) → f_X12_layMoves_L12 B K2 Q n v0 v1 v2 v3 Z I L := by
  intro n
  induction n with
  | zero =>
    intro v3 Z I L w_I bd_Z q_I cp_Z   li hm2 me
    exfalso
    omega
  | succ n ih =>
    intro v3 Z I L w_I bd_Z q_I cp_Z   li hm2 me
    unfold f_X12_layMoves_L12
    have rv3 := i_rng v3
    have rv2 := i_rng v2
    have rv1 := i_rng v1
    obtain ⟨li0, li1, li2⟩ := li
    have kv0_0 := kv0
    have kv0 := (q_I.1 _ _ kv0).1
    have t1 : 0 ≤ (I v0 0).toInt ∧ (I v0 0).toInt ≤ 24 := w_I.fld 12 0 kv0 (by decide)
    have huC_1 : jr Z v0 37 = some uC := (q_I.2.1 v0 12 37 kv0_0 (by decide) (by decide)).trans huC
    have luC : jlen Z uC = 75 := by obtain ⟨b9, e9, -, l9⟩ := sh_f w_I.1 kv0 (j := 37) (k := 14) (m := 75) rfl; cases huC_1.symm.trans e9; exact l9
    have kuC : jk Z uC 14 := by obtain ⟨b9, e9, k9, -⟩ := sh_f w_I.1 kv0 (j := 37) (k := 14) (m := 75) rfl; cases huC_1.symm.trans e9; exact k9
    have huE_1 : jr Z v0 38 = some uE := (q_I.2.1 v0 12 38 kv0_0 (by decide) (by decide)).trans huE
    have luE : jlen Z uE = 75 := by obtain ⟨b9, e9, -, l9⟩ := sh_f w_I.1 kv0 (j := 38) (k := 14) (m := 75) rfl; cases huE_1.symm.trans e9; exact l9
    have kuE : jk Z uE 14 := by obtain ⟨b9, e9, k9, -⟩ := sh_f w_I.1 kv0 (j := 38) (k := 14) (m := 75) rfl; cases huE_1.symm.trans e9; exact k9
    have xq_I := q_I.1
    refine ⟨fun c2 => ?_, fun c2 => ?_⟩
    · skip
      first | (have t3 : (3) < v3.toInt := (i_lt (show (3 : Int32).toInt = 3 from rfl) rfl).mp c2) | (have t3 : (3 : Int32).toInt < v3.toInt := (i_lt rfl rfl).mp c2) | skip
      intro x4 ex4
      have rx4 := i_rng x4
      first | (have tx4 : x4.toInt = v2.toInt + (1) := by (rw [ex4]; exact (i_add rfl (show (1 : Int32).toInt = 1 from rfl) (by omega) (by omega)))) | skip
      exact hK2 x4 Z I L w_I bd_Z q_I cp_Z   (by refine ⟨?_, ?_, ?_⟩; (omega); (omega); first | exact MVB.zero (by omega) | (rw [show 3 * (x4.toInt + 1) = 3 * (v2.toInt + 1) + v3.toInt - 1 by omega]; exact li2))  (by omega)
    · skip
      first | (have t5 : ¬ ((3) < v3.toInt) := (not_congr (i_lt (show (3 : Int32).toInt = 3 from rfl) rfl)).mp c2) | (have t5 : ¬ ((3 : Int32).toInt < v3.toInt) := (not_congr (i_lt rfl rfl)).mp c2) | skip
      intro x6 ex6
      have rx6 := i_rng x6
      first | (have tx6 : x6.toInt = ((((3) * (v2.toInt + (1))) + v3.toInt) - (1)) := by (rw [ex6]; exact (i_sub (i_add (i_mul (show (3 : Int32).toInt = 3 from rfl) (i_add rfl (show (1 : Int32).toInt = 1 from rfl) (by omega) (by omega)) (by omega) (by omega)) rfl (by omega) (by omega)) (show (1 : Int32).toInt = 1 from rfl) (by omega) (by omega)))) | (have tx6 : x6.toInt = ((((3 : Int32) * (v2 + (1 : Int32))) + v3) - (1 : Int32)).toInt := by rw [ex6])
      intro x7 ex7
      have rx7 := i_rng x7
      first | (have tx7 : x7.toInt = (v2.toInt + v3.toInt) := by (rw [ex7]; exact (i_add rfl rfl (by omega) (by omega)))) | (have tx7 : x7.toInt = (v2 + v3).toInt := by rw [ex7])
      intro b8 eb8
      obtain rfl : uC = b8 := Option.some.inj (huC_1.symm.trans eb8)
      have o9 : vp_in x6 75 := vi_of rfl (by omega) (by omega)
      refine ⟨o9, ?_⟩
      intro I10 eI10
      have t11 : (1000000000 : Int32).toInt = 1000000000 := rfl
      have w_I10 : WD Z I10 := by rw [eI10]; exact WD_putA w_I 12 37 kv0 huC_1 kuC rfl rfl (by decide) trivial
      have ao_I10_uC : ∀ q, q ≠ x6.toNatClampNeg → I10 uC q = I uC q := fun q hq => by rw [eI10]; exact jpI_off hq
      first | (have u12 : (I10 uC (x6.toNatClampNeg)).toInt = (1000000000) := by (rw [eI10, show jpI I uC x6.toNatClampNeg (1000000000 : Int32) uC x6.toNatClampNeg = (1000000000 : Int32) from jpI_at] <;> exact (show (1000000000 : Int32).toInt = 1000000000 from rfl))) | skip
      have f_I10 : FR [(12, 37)] Z I Z I10 := by rw [eI10]; exact FR_upA w_I.2.1 kv0 huC_1 kuC rfl rfl List.mem_cons_self
      have q_I10 : FR Ws_X12_layMoves Z0 I0 Z I10 := q_I.trans w0.1 w0.2.1 (f_I10.mono (by decide))
      have ao_I10_uE : I10 uE = I uE := f_I10.2.2.2 v0 12 38 uE kv0 huE_1 (by rw [kuE.2]; rfl) rfl (by decide)
      have u13 : (I10 v0 0).toInt = (I v0 0).toInt := by rw [f_I10.2.2.1 v0 12 0 kv0 (by decide) (by decide)]
      intro b14 eb14
      obtain ⟨x15, ex15, kb14, lb14⟩ := sh_f w_I10.1 kv0 (j := 11) (k := 14) (m := 6) rfl
      cases eb14.symm.trans ex15
      have o16 : vp_in v1 6 := vi_of rfl (by omega) (by omega)
      refine ⟨o16, ?_⟩
      have t17 : 0 ≤ (I10 b14 v1.toNatClampNeg).toInt ∧ (I10 b14 v1.toNatClampNeg).toInt ≤ 3 := w_I10.arr 12 11 kv0 eb14 kb14 rfl rfl _
      refine ⟨fun c18 => ?_, fun c18 => ?_⟩
      · skip
        first | (have t19 : (I10 b14 v1.toNatClampNeg).toInt < v3.toInt := (i_lt rfl rfl).mp c18) | (have t19 : (I10 b14 v1.toNatClampNeg).toInt < v3.toInt := (i_lt rfl rfl).mp c18) | skip
        unfold f_X12_layMoves_b122
        intro x20 ex20
        have rx20 := i_rng x20
        first | (have tx20 : x20.toInt = v3.toInt + (1) := by (rw [ex20]; exact (i_add rfl (show (1 : Int32).toInt = 1 from rfl) (by omega) (by omega)))) | skip
        exact ih x20 Z I10 L w_I10 bd_Z q_I10 cp_Z   (by refine ⟨?_, ?_, ?_⟩; (omega); (omega); first | (rw [show 3 * (v2.toInt + 1) + (1 : Int32).toInt - 1 = 3 * (v2.toInt + 1) by omega]; exact li2) | (have hn := i_nat (x := x6) rfl (by omega); exact MVB.step li2 x6.toNatClampNeg (by omega) ao_I10_uC (fun q _ => congrFun ao_I10_uE q) (by omega) (by omega))) (by omega) (by omega)
      · skip
        first | (have t21 : ¬ ((I10 b14 v1.toNatClampNeg).toInt < v3.toInt) := (not_congr (i_lt rfl rfl)).mp c18) | (have t21 : ¬ ((I10 b14 v1.toNatClampNeg).toInt < v3.toInt) := (not_congr (i_lt rfl rfl)).mp c18) | skip
        have t23 : 0 ≤ (I10 v0 0).toInt ∧ (I10 v0 0).toInt ≤ 24 := w_I10.fld 12 0 kv0 (by decide)
        refine ⟨fun c24 => ?_, fun c24 => ?_⟩
        · skip
          first | (have t25 : (I10 v0 0).toInt ≤ x7.toInt := (i_le rfl rfl).mp c24) | (have t25 : (I10 v0 0).toInt ≤ x7.toInt := (i_le rfl rfl).mp c24) | skip
          unfold f_X12_layMoves_b122
          intro x26 ex26
          have rx26 := i_rng x26
          first | (have tx26 : x26.toInt = v3.toInt + (1) := by (rw [ex26]; exact (i_add rfl (show (1 : Int32).toInt = 1 from rfl) (by omega) (by omega)))) | skip
          exact ih x26 Z I10 L w_I10 bd_Z q_I10 cp_Z   (by refine ⟨?_, ?_, ?_⟩; (omega); (omega); first | (rw [show 3 * (v2.toInt + 1) + (1 : Int32).toInt - 1 = 3 * (v2.toInt + 1) by omega]; exact li2) | (have hn := i_nat (x := x6) rfl (by omega); exact MVB.step li2 x6.toNatClampNeg (by omega) ao_I10_uC (fun q _ => congrFun ao_I10_uE q) (by omega) (by omega))) (by omega) (by omega)
        · skip
          first | (have t27 : ¬ ((I10 v0 0).toInt ≤ x7.toInt) := (not_congr (i_le rfl rfl)).mp c24) | (have t27 : ¬ ((I10 v0 0).toInt ≤ x7.toInt) := (not_congr (i_le rfl rfl)).mp c24) | skip
          have t29 : -1 ≤ (I10 v0 39).toInt ∧ (I10 v0 39).toInt ≤ 23 := w_I10.fld 12 39 kv0 (by decide)
          refine ⟨fun c30 => ?_, fun c30 => ?_⟩
          · skip
            first | (have t31 : x7.toInt = (I10 v0 39).toInt := (i_eq rfl rfl).mp c30) | (have t31 : x7.toInt = (I10 v0 39).toInt := (i_eq rfl rfl).mp c30) | skip
            unfold f_X12_layMoves_b122
            intro x32 ex32
            have rx32 := i_rng x32
            first | (have tx32 : x32.toInt = v3.toInt + (1) := by (rw [ex32]; exact (i_add rfl (show (1 : Int32).toInt = 1 from rfl) (by omega) (by omega)))) | skip
            exact ih x32 Z I10 L w_I10 bd_Z q_I10 cp_Z   (by refine ⟨?_, ?_, ?_⟩; (omega); (omega); first | (rw [show 3 * (v2.toInt + 1) + (1 : Int32).toInt - 1 = 3 * (v2.toInt + 1) by omega]; exact li2) | (have hn := i_nat (x := x6) rfl (by omega); exact MVB.step li2 x6.toNatClampNeg (by omega) ao_I10_uC (fun q _ => congrFun ao_I10_uE q) (by omega) (by omega))) (by omega) (by omega)
          · skip
            first | (have t33 : ¬ (x7.toInt = (I10 v0 39).toInt) := (not_congr (i_eq rfl rfl)).mp c30) | (have t33 : ¬ (x7.toInt = (I10 v0 39).toInt) := (not_congr (i_eq rfl rfl)).mp c30) | skip
            intro b34 eb34
            obtain ⟨x35, ex35, kb34, lb34⟩ := sh_f w_I10.1 kv0 (j := 13) (k := 14) (m := 6) rfl
            cases eb34.symm.trans ex35
            have o36 : vp_in v1 6 := vi_of rfl (by omega) (by omega)
            refine ⟨o36, ?_⟩
            refine s_X12_mainOf w_I10 v0 x7 kv0  (by omega) (fun r37 p38 => ?_)
            have rr37 := i_rng r37
            refine s_X12_has w_I10 (I10 b34 v1.toNatClampNeg) r37    (fun r39  => ?_)
            have rr39 := i_rng r39
            refine ⟨fun c40 => ?_, fun c40 => ?_⟩
            · skip
              first | (have t41 : r39.toInt = (0) := (i_eq rfl (show (0 : Int32).toInt = 0 from rfl)).mp c40) | (have t41 : r39.toInt = (0 : Int32).toInt := (i_eq rfl rfl).mp c40) | skip
              intro b42 eb42
              obtain rfl : uC = b42 := Option.some.inj (huC_1.symm.trans eb42)
              refine s_X12_costOf w_I10 bd_Z v0 v1 v2 x7 kv0  (by omega) (fun r43 Z47 I45 L46 w_I45 bd_Z47 f_I45 c_Z47 p44 => ?_)
              have q_I45 : FR Ws_X12_layMoves Z0 I0 Z47 I45 := q_I10.trans w0.1 w0.2.1 (f_I45.mono (by decide))
              have cp_Z47 : CP Z0 Z47 := cp_Z.trans q_I10.1 c_Z47
              have x_Z47 := f_I45.1
              have k48 := (f_I45.1 _ _ kv0).1
              have k49 := (f_I45.1 _ _ kuC).1
              have l50 := (f_I45.1 _ _ kuC).2.trans luC
              have k51 := (f_I45.1 _ _ kv0).1
              have e52 := (f_I45.2.1 v0 12 37 kv0 (by decide) (by decide)).trans huC_1
              have k53 := (f_I45.1 _ _ kuE).1
              have l54 := (f_I45.1 _ _ kuE).2.trans luE
              have k55 := (f_I45.1 _ _ kv0).1
              have e56 := (f_I45.2.1 v0 12 38 kv0 (by decide) (by decide)).trans huE_1
              have k57 := (f_I45.1 _ _ kb14).1
              have l58 := (f_I45.1 _ _ kb14).2.trans lb14
              have k59 := (f_I45.1 _ _ kv0).1
              have e60 := (f_I45.2.1 v0 12 11 kv0 (by decide) (by decide)).trans eb14
              have k61 := (f_I45.1 _ _ kb34).1
              have l62 := (f_I45.1 _ _ kb34).2.trans lb34
              have k63 := (f_I45.1 _ _ kv0).1
              have e64 := (f_I45.2.1 v0 12 13 kv0 (by decide) (by decide)).trans eb34
              have ao_I45_uC : ∀ q, q ≠ x6.toNatClampNeg → I45 uC q = I uC q := fun q hq => by rw [f_I45.2.2.2 v0 12 37 uC kv0 huC_1 (by rw [kuC.2]; rfl) rfl (by decide)]; exact ao_I10_uC q hq
              have ao_I45_uE : I45 uE = I uE := (f_I45.2.2.2 v0 12 38 uE kv0 huE_1 (by rw [kuE.2]; rfl) rfl (by decide)).trans ao_I10_uE
              have u65 : (I45 uC (x6.toNatClampNeg)).toInt = (I10 uC (x6.toNatClampNeg)).toInt := by rw [f_I45.2.2.2 v0 12 37 uC kv0 huC_1 (by rw [kuC.2]; rfl) rfl (by decide)]
              have u66 : (I45 v0 0).toInt = (I10 v0 0).toInt := by rw [f_I45.2.2.1 v0 12 0 kv0 (by decide) (by decide)]
              have u67 : (I45 v0 39).toInt = (I10 v0 39).toInt := by rw [f_I45.2.2.1 v0 12 39 kv0 (by decide) (by decide)]
              have rr43 := i_rng r43
              have o68 : vp_in x6 75 := vi_of rfl (by omega) (by omega)
              refine ⟨o68, ?_⟩
              intro I69 eI69
              have w_I69 : WD Z47 I69 := by rw [eI69]; exact WD_putA w_I45 12 37 k51 e52 k49 rfl rfl (by decide) trivial
              have ao_I69_uC : ∀ q, q ≠ x6.toNatClampNeg → I69 uC q = I uC q := fun q hq => by rw [eI69, jpI_off hq]; exact ao_I45_uC q hq
              first | (have u70 : (I69 uC (x6.toNatClampNeg)).toInt = r43.toInt := by (rw [eI69, show jpI I45 uC x6.toNatClampNeg r43 uC x6.toNatClampNeg = r43 from jpI_at] <;> exact rfl)) | skip
              have f_I69 : FR [(12, 37)] Z47 I45 Z47 I69 := by rw [eI69]; exact FR_upA w_I45.2.1 k51 e52 k49 rfl rfl List.mem_cons_self
              have q_I69 : FR Ws_X12_layMoves Z0 I0 Z47 I69 := q_I45.trans w0.1 w0.2.1 (f_I69.mono (by decide))
              have ao_I69_uE : I69 uE = I uE := (f_I69.2.2.2 v0 12 38 uE k55 e56 (by rw [k53.2]; rfl) rfl (by decide)).trans ao_I45_uE
              have u71 : (I69 v0 0).toInt = (I45 v0 0).toInt := by rw [f_I69.2.2.1 v0 12 0 k48 (by decide) (by decide)]
              have u72 : (I69 v0 39).toInt = (I45 v0 39).toInt := by rw [f_I69.2.2.1 v0 12 39 k48 (by decide) (by decide)]
              intro b73 eb73
              obtain rfl : uE = b73 := Option.some.inj (e56.symm.trans eb73)
              refine s_X12_effortOf w_I69 v0 v1 v2 x7 k48  (by omega) (fun r74 p75 => ?_)
              have rr74 := i_rng r74
              have o76 : vp_in x6 75 := vi_of rfl (by omega) (by omega)
              refine ⟨o76, ?_⟩
              intro I77 eI77
              have w_I77 : WD Z47 I77 := by rw [eI77]; exact WD_putA w_I69 12 38 k55 e56 k53 rfl rfl (by decide) trivial
              have ao_I77_uE : ∀ q, q ≠ x6.toNatClampNeg → I77 uE q = I uE q := fun q hq => by rw [eI77, jpI_off hq, ao_I69_uE]
              first | (have u78 : (I77 uE (x6.toNatClampNeg)).toInt = r74.toInt := by (rw [eI77, show jpI I69 uE x6.toNatClampNeg r74 uE x6.toNatClampNeg = r74 from jpI_at] <;> exact rfl)) | skip
              have f_I77 : FR [(12, 38)] Z47 I69 Z47 I77 := by rw [eI77]; exact FR_upA w_I69.2.1 k55 e56 k53 rfl rfl List.mem_cons_self
              have q_I77 : FR Ws_X12_layMoves Z0 I0 Z47 I77 := q_I69.trans w0.1 w0.2.1 (f_I77.mono (by decide))
              have ao_I77_uC : ∀ q, q ≠ x6.toNatClampNeg → I77 uC q = I uC q := fun q hq => by rw [f_I77.2.2.2 v0 12 37 uC k51 e52 (by rw [k49.2]; rfl) rfl (by decide)]; exact ao_I69_uC q hq
              have u79 : (I77 uC (x6.toNatClampNeg)).toInt = (I69 uC (x6.toNatClampNeg)).toInt := by rw [f_I77.2.2.2 v0 12 37 uC k51 e52 (by rw [k49.2]; rfl) rfl (by decide)]
              have u80 : (I77 v0 0).toInt = (I69 v0 0).toInt := by rw [f_I77.2.2.1 v0 12 0 k48 (by decide) (by decide)]
              have u81 : (I77 v0 39).toInt = (I69 v0 39).toInt := by rw [f_I77.2.2.1 v0 12 39 k48 (by decide) (by decide)]
              unfold f_X12_layMoves_b122
              intro x82 ex82
              have rx82 := i_rng x82
              first | (have tx82 : x82.toInt = v3.toInt + (1) := by (rw [ex82]; exact (i_add rfl (show (1 : Int32).toInt = 1 from rfl) (by omega) (by omega)))) | skip
              exact ih x82 Z47 I77 L46 w_I77 bd_Z47 q_I77 cp_Z47   (by refine ⟨?_, ?_, ?_⟩; (omega); (omega); first | (rw [show 3 * (v2.toInt + 1) + (1 : Int32).toInt - 1 = 3 * (v2.toInt + 1) by omega]; exact li2) | (have hn := i_nat (x := x6) rfl (by omega); exact MVB.step li2 x6.toNatClampNeg (by omega) ao_I77_uC ao_I77_uE (by omega) (by omega))) (by omega) (by omega)
            · skip
              first | (have t83 : ¬ (r39.toInt = (0)) := (not_congr (i_eq rfl (show (0 : Int32).toInt = 0 from rfl))).mp c40) | (have t83 : ¬ (r39.toInt = (0 : Int32).toInt) := (not_congr (i_eq rfl rfl)).mp c40) | skip
              unfold f_X12_layMoves_b122
              intro x84 ex84
              have rx84 := i_rng x84
              first | (have tx84 : x84.toInt = v3.toInt + (1) := by (rw [ex84]; exact (i_add rfl (show (1 : Int32).toInt = 1 from rfl) (by omega) (by omega)))) | skip
              exact ih x84 Z I10 L w_I10 bd_Z q_I10 cp_Z   (by refine ⟨?_, ?_, ?_⟩; (omega); (omega); first | (rw [show 3 * (v2.toInt + 1) + (1 : Int32).toInt - 1 = 3 * (v2.toInt + 1) by omega]; exact li2) | (have hn := i_nat (x := x6) rfl (by omega); exact MVB.step li2 x6.toNatClampNeg (by omega) ao_I10_uC (fun q _ => congrFun ao_I10_uE q) (by omega) (by omega))) (by omega) (by omega)
set_option maxHeartbeats 4000000 in
set_option maxRecDepth 100000 in
theorem l_X12_layMoves_L2 {B : Nat × Nat} {T : Nat} {Z0 : jZ} {I0 : jI} {Q : jZ → jI → jL → Prop} (w0 : WD Z0 I0) (v0 : Nat) (v1 : Int32) (kv0 : jk Z0 v0 12) (uC : Nat) (huC : jr Z0 v0 37 = some uC) (uE : Nat) (huE : jr Z0 v0 38 = some uE) (p0 : 0 ≤ v1.toInt ∧ v1.toInt ≤ 5) (hQ : ∀  (Z' : jZ) (I' : jI) (L' : jL), WD Z' I' → BUD B Z' T → FR Ws_X12_layMoves Z0 I0 Z' I' → CP Z0 Z' → MVB (3 * ((I' v0 0).toInt + 1)) (I' v0 0).toInt (I' uC) (I' uE) → Q Z' I' L') : ∀ (n : Nat) (v2 : Int32) (Z : jZ) (I : jI) (L : jL), WD Z I → BUD B Z T → FR Ws_X12_layMoves Z0 I0 Z I → CP Z0 Z →   ((-1 ≤ v2.toInt ∧ v2.toInt ≤ (I0 v0 0).toInt ∧ (I0 v0 0).toInt ≤ 24) ∧ (I v0 0).toInt = (I0 v0 0).toInt ∧ MVB (3 * (v2.toInt + 1)) (I0 v0 0).toInt (I uC) (I uE)) → 24 - v2.toInt < (n : Int) → f_X12_layMoves_L2 B  Q n v0 v1 v2 Z I L := by
  intro n
  induction n with
  | zero =>
    intro v2 Z I L w_I bd_Z q_I cp_Z   li  me
    exfalso
    omega
  | succ n ih =>
    intro v2 Z I L w_I bd_Z q_I cp_Z   li  me
    unfold f_X12_layMoves_L2
    have rv2 := i_rng v2
    have rv1 := i_rng v1
    obtain ⟨li0, li1, li2⟩ := li
    have kv0_0 := kv0
    have kv0 := (q_I.1 _ _ kv0).1
    have t85 : 0 ≤ (I v0 0).toInt ∧ (I v0 0).toInt ≤ 24 := w_I.fld 12 0 kv0 (by decide)
    have huC_1 : jr Z v0 37 = some uC := (q_I.2.1 v0 12 37 kv0_0 (by decide) (by decide)).trans huC
    have luC : jlen Z uC = 75 := by obtain ⟨b9, e9, -, l9⟩ := sh_f w_I.1 kv0 (j := 37) (k := 14) (m := 75) rfl; cases huC_1.symm.trans e9; exact l9
    have kuC : jk Z uC 14 := by obtain ⟨b9, e9, k9, -⟩ := sh_f w_I.1 kv0 (j := 37) (k := 14) (m := 75) rfl; cases huC_1.symm.trans e9; exact k9
    have huE_1 : jr Z v0 38 = some uE := (q_I.2.1 v0 12 38 kv0_0 (by decide) (by decide)).trans huE
    have luE : jlen Z uE = 75 := by obtain ⟨b9, e9, -, l9⟩ := sh_f w_I.1 kv0 (j := 38) (k := 14) (m := 75) rfl; cases huE_1.symm.trans e9; exact l9
    have kuE : jk Z uE 14 := by obtain ⟨b9, e9, k9, -⟩ := sh_f w_I.1 kv0 (j := 38) (k := 14) (m := 75) rfl; cases huE_1.symm.trans e9; exact k9
    have xq_I := q_I.1
    have t87 : 0 ≤ (I v0 0).toInt ∧ (I v0 0).toInt ≤ 24 := w_I.fld 12 0 kv0 (by decide)
    refine ⟨fun c88 => ?_, fun c88 => ?_⟩
    · skip
      first | (have t89 : (I v0 0).toInt ≤ v2.toInt := (i_le rfl rfl).mp c88) | (have t89 : (I v0 0).toInt ≤ v2.toInt := (i_le rfl rfl).mp c88) | skip
      exact hQ  Z I L w_I bd_Z q_I cp_Z (by rw [li1]; have e9 : v2.toInt = (I0 v0 0).toInt := (by omega); rw [← e9]; rw [← e9] at li2; exact li2)
    · skip
      first | (have t90 : ¬ ((I v0 0).toInt ≤ v2.toInt) := (not_congr (i_le rfl rfl)).mp c88) | (have t90 : ¬ ((I v0 0).toInt ≤ v2.toInt) := (not_congr (i_le rfl rfl)).mp c88) | skip
      have t91 : (1 : Int32).toInt = 1 := rfl
      exact ⟨(4 - (1 : Int32).toInt).toNat + 1, l_X12_layMoves_L12 w0 v0 v1 kv0_0 uC huC uE huE p0 v2  hQ ih  _ (1 : Int32) Z I L w_I bd_Z q_I cp_Z   (by refine ⟨?_, ?_, ?_⟩; (omega); (omega); first | (rw [show 3 * (v2.toInt + 1) + (1 : Int32).toInt - 1 = 3 * (v2.toInt + 1) by omega]; exact li2) | (have hn := i_nat (x := 0) rfl (by omega); exact MVB.step li2 0 (by omega) (fun _ _ => rfl) (fun _ _ => rfl) (by omega) (by omega))) (by omega) (by omega)⟩
set_option maxHeartbeats 4000000 in
set_option maxRecDepth 100000 in
theorem s_X12_layMoves {B : Nat × Nat} {T : Nat} {Z : jZ} {I : jI} {L : jL} (w_I : WD Z I) (bd_Z : BUD B Z T) (v0 : Nat) (v1 : Int32) (kv0 : jk Z v0 12) (uC : Nat) (huC : jr Z v0 37 = some uC) (uE : Nat) (huE : jr Z v0 38 = some uE) (p0 : 0 ≤ v1.toInt ∧ v1.toInt ≤ 5) {Q : jZ → jI → jL → Prop} (hQ : ∀  (Z' : jZ) (I' : jI) (L' : jL), WD Z' I' → BUD B Z' T → FR Ws_X12_layMoves Z I Z' I' → CP Z Z' → MVB (3 * ((I' v0 0).toInt + 1)) (I' v0 0).toInt (I' uC) (I' uE) → Q Z' I' L') : f_X12_layMoves B v0 v1 Z I L Q := by
  unfold f_X12_layMoves
  have q_I : FR Ws_X12_layMoves Z I Z I := FR.rf
  have cp_Z : CP Z Z := CP.rf
  have rv1 := i_rng v1
  have t92 : 0 ≤ (I v0 0).toInt ∧ (I v0 0).toInt ≤ 24 := w_I.fld 12 0 kv0 (by decide)
  have luC : jlen Z uC = 75 := by obtain ⟨b9, e9, -, l9⟩ := sh_f w_I.1 kv0 (j := 37) (k := 14) (m := 75) rfl; cases huC.symm.trans e9; exact l9
  have kuC : jk Z uC 14 := by obtain ⟨b9, e9, k9, -⟩ := sh_f w_I.1 kv0 (j := 37) (k := 14) (m := 75) rfl; cases huC.symm.trans e9; exact k9
  have luE : jlen Z uE = 75 := by obtain ⟨b9, e9, -, l9⟩ := sh_f w_I.1 kv0 (j := 38) (k := 14) (m := 75) rfl; cases huE.symm.trans e9; exact l9
  have kuE : jk Z uE 14 := by obtain ⟨b9, e9, k9, -⟩ := sh_f w_I.1 kv0 (j := 38) (k := 14) (m := 75) rfl; cases huE.symm.trans e9; exact k9
  have t93 : (-1 : Int32).toInt = -1 := rfl
  exact ⟨(24 - (-1 : Int32).toInt).toNat + 1, l_X12_layMoves_L2 w_I v0 v1 kv0 uC huC uE huE p0   hQ   _ (-1 : Int32) Z I L w_I bd_Z q_I cp_Z   (by refine ⟨?_, ?_, ?_⟩; (omega); (omega); first | exact MVB.zero (by omega) | (rw [show 3 * ((-1 : Int32).toInt + 1) = 3 * (v2.toInt + 1) + v3.toInt - 1 by omega]; exact li2))  (by omega)⟩
set_option maxHeartbeats 4000000 in
set_option maxRecDepth 100000 in
theorem s_X12_isOn {Z : jZ} {I : jI} {L : jL} (w_I : WD Z I) (v0 : Nat) (v1 : Int32) (v2 : Int32) (v3 : Int32) (kv0 : jk Z v0 12) (uC : Nat) (huC : jr Z v0 37 = some uC) (uE : Nat) (huE : jr Z v0 38 = some uE) (uB : Nat) (huB : jr Z v0 40 = some uB) (p0 : MVB (3 * ((I v0 0).toInt + 1)) (I v0 0).toInt (I uC) (I uE)) (p1 : -1 ≤ v1.toInt ∧ v1.toInt < (I v0 0).toInt ∧ 1 ≤ v2.toInt ∧ v2.toInt ≤ 3 ∧ 0 ≤ v3.toInt ∧ v3.toInt ≤ 999) (p2 : ∃ M : Int, v3.toInt ≤ M ∧ DPR (I v0 0).toInt M (I uC) (I uE) (I uB) (-1) 0) {Q : Int32 → jI → jL → Prop} (hQ : ∀ (r : Int32), ((r.toInt = 1 ∧ CN (I uC) (I uE) (I uB) (v1.toInt + 1) v3.toInt v2.toInt) ∨ (r.toInt = 0 ∧ ¬ CN (I uC) (I uE) (I uB) (v1.toInt + 1) v3.toInt v2.toInt)) → Q r I L) : f_X12_isOn v0 v1 v2 v3 Z I L Q := by
  unfold f_X12_isOn
  have rv1 := i_rng v1
  have rv2 := i_rng v2
  have rv3 := i_rng v3
  have t1 : 0 ≤ (I v0 0).toInt ∧ (I v0 0).toInt ≤ 24 := w_I.fld 12 0 kv0 (by decide)
  have luC : jlen Z uC = 75 := by obtain ⟨b9, e9, -, l9⟩ := sh_f w_I.1 kv0 (j := 37) (k := 14) (m := 75) rfl; cases huC.symm.trans e9; exact l9
  have kuC : jk Z uC 14 := by obtain ⟨b9, e9, k9, -⟩ := sh_f w_I.1 kv0 (j := 37) (k := 14) (m := 75) rfl; cases huC.symm.trans e9; exact k9
  have luE : jlen Z uE = 75 := by obtain ⟨b9, e9, -, l9⟩ := sh_f w_I.1 kv0 (j := 38) (k := 14) (m := 75) rfl; cases huE.symm.trans e9; exact l9
  have kuE : jk Z uE 14 := by obtain ⟨b9, e9, k9, -⟩ := sh_f w_I.1 kv0 (j := 38) (k := 14) (m := 75) rfl; cases huE.symm.trans e9; exact k9
  have luB : jlen Z uB = 25000 := by obtain ⟨b9, e9, -, l9⟩ := sh_f w_I.1 kv0 (j := 40) (k := 14) (m := 25000) rfl; cases huB.symm.trans e9; exact l9
  have kuB : jk Z uB 14 := by obtain ⟨b9, e9, k9, -⟩ := sh_f w_I.1 kv0 (j := 40) (k := 14) (m := 25000) rfl; cases huB.symm.trans e9; exact k9
  have mv := p0
  obtain ⟨M, hM, dp⟩ := p2
  intro x2 ex2
  have rx2 := i_rng x2
  first | (have tx2 : x2.toInt = ((((3) * (v1.toInt + (1))) + v2.toInt) - (1)) := by (rw [ex2]; exact (i_sub (i_add (i_mul (show (3 : Int32).toInt = 3 from rfl) (i_add rfl (show (1 : Int32).toInt = 1 from rfl) (by omega) (by omega)) (by omega) (by omega)) rfl (by omega) (by omega)) (show (1 : Int32).toInt = 1 from rfl) (by omega) (by omega)))) | (have tx2 : x2.toInt = ((((3 : Int32) * (v1 + (1 : Int32))) + v2) - (1 : Int32)).toInt := by rw [ex2])
  intro b3 eb3
  obtain rfl : uC = b3 := Option.some.inj (huC.symm.trans eb3)
  have hm := MVB.at mv (x := x2) rfl (by omega) (by omega)
  have hk4 : x2.toInt = 3 * (v1.toInt + 1) + v2.toInt - 1 := by omega
  have o4 : vp_in x2 75 := vi_of rfl (by omega) (by omega)
  refine ⟨o4, ?_⟩
  refine ⟨fun c5 => ?_, fun c5 => ?_⟩
  · skip
    first | (have t6 : (I uC x2.toNatClampNeg).toInt = (1000000000) := (i_eq rfl (show (1000000000 : Int32).toInt = 1000000000 from rfl)).mp c5) | (have t6 : (I uC x2.toNatClampNeg).toInt = (1000000000 : Int32).toInt := (i_eq rfl rfl).mp c5) | skip
    have t7 : (0 : Int32).toInt = 0 := rfl
    exact hQ (0 : Int32) (by first | exact Or.inr ⟨rfl, CN.no1 hk4 (by omega) (by omega)⟩ | (refine Or.inr ⟨rfl, fun h9 => ?_⟩; have h8 := (hcn (by omega) (by omega)).mp h9; first | (exfalso; omega) | (rw [← hself] at h8; exfalso; omega)) | (refine Or.inl ⟨rfl, (hcn (by omega) (by omega)).mpr ?_⟩; rw [← hself]; constructor <;> omega))
  · skip
    first | (have t8 : ¬ ((I uC x2.toNatClampNeg).toInt = (1000000000)) := (not_congr (i_eq rfl (show (1000000000 : Int32).toInt = 1000000000 from rfl))).mp c5) | (have t8 : ¬ ((I uC x2.toNatClampNeg).toInt = (1000000000 : Int32).toInt) := (not_congr (i_eq rfl rfl)).mp c5) | skip
    intro b9 eb9
    obtain rfl : uE = b9 := Option.some.inj (huE.symm.trans eb9)
    have o10 : vp_in x2 75 := vi_of rfl (by omega) (by omega)
    refine ⟨o10, ?_⟩
    refine ⟨fun c11 => ?_, fun c11 => ?_⟩
    · skip
      first | (have t12 : (I uE x2.toNatClampNeg).toInt ≤ v3.toInt := (i_le rfl rfl).mp c11) | (have t12 : (I uE x2.toNatClampNeg).toInt ≤ v3.toInt := (i_le rfl rfl).mp c11) | skip
      intro b13 eb13
      obtain rfl : uB = b13 := Option.some.inj (huB.symm.trans eb13)
      intro b14 eb14
      obtain rfl : uE = b14 := Option.some.inj (huE.symm.trans eb14)
      have o15 : vp_in x2 75 := vi_of rfl (by omega) (by omega)
      refine ⟨o15, ?_⟩
      have hix : ((((1000 : Int32) * ((v1 + v2) + (1 : Int32))) + v3) - (I uE x2.toNatClampNeg)).toInt = ((((1000) * ((v1.toInt + v2.toInt) + (1))) + v3.toInt) - (I uE x2.toNatClampNeg).toInt) := (i_sub (i_add (i_mul (show (1000 : Int32).toInt = 1000 from rfl) (i_add (i_add rfl rfl (by omega) (by omega)) (show (1 : Int32).toInt = 1 from rfl) (by omega) (by omega)) (by omega) (by omega)) rfl (by omega) (by omega)) rfl (by omega) (by omega))
      have hdp := DPR.at (F := -1) dp hix (v1.toInt + 1 + v2.toInt) (v3.toInt - (I uE x2.toNatClampNeg).toInt) (by omega) (by omega) (by omega)
      have hcn := fun h1 h2 => CN.iff (C := I uC) (E := I uE) (Bf := I uB) (f := v1.toInt + 1) (e := v3.toInt) (far := v2.toInt) (i := ((((1000 : Int32) * ((v1 + v2) + (1 : Int32))) + v3) - (I uE x2.toNatClampNeg))) hk4 (by omega) (by omega) (by omega) h1 h2
      have o16 : vp_in ((((1000 : Int32) * ((v1 + v2) + (1 : Int32))) + v3) - (I uE x2.toNatClampNeg)) 25000 := vi_of (i_sub (i_add (i_mul (show (1000 : Int32).toInt = 1000 from rfl) (i_add (i_add rfl rfl (by omega) (by omega)) (show (1 : Int32).toInt = 1 from rfl) (by omega) (by omega)) (by omega) (by omega)) rfl (by omega) (by omega)) rfl (by omega) (by omega)) (by omega) (by omega)
      refine ⟨o16, ?_⟩
      intro x17 ex17
      have rx17 := i_rng x17
      first | (have tx17 : x17.toInt = (I uB ((((1000 : Int32) * ((v1 + v2) + (1 : Int32))) + v3) - (I uE x2.toNatClampNeg)).toNatClampNeg).toInt := by (rw [ex17]; exact rfl)) | (have tx17 : x17.toInt = (I uB ((((1000 : Int32) * ((v1 + v2) + (1 : Int32))) + v3) - (I uE x2.toNatClampNeg)).toNatClampNeg).toInt := by rw [ex17])
      refine ⟨fun c18 => ?_, fun c18 => ?_⟩
      · skip
        first | (have t19 : x17.toInt = (1000000000) := (i_eq rfl (show (1000000000 : Int32).toInt = 1000000000 from rfl)).mp c18) | (have t19 : x17.toInt = (1000000000 : Int32).toInt := (i_eq rfl rfl).mp c18) | skip
        have t20 : (0 : Int32).toInt = 0 := rfl
        exact hQ (0 : Int32) (by first | exact Or.inr ⟨rfl, CN.no1 hk4 (by omega) (by omega)⟩ | (refine Or.inr ⟨rfl, fun h9 => ?_⟩; have h8 := (hcn (by omega) (by omega)).mp h9; first | (exfalso; omega) | (rw [← hself] at h8; exfalso; omega)) | (refine Or.inl ⟨rfl, (hcn (by omega) (by omega)).mpr ?_⟩; rw [← hself]; constructor <;> omega))
      · skip
        first | (have t21 : ¬ (x17.toInt = (1000000000)) := (not_congr (i_eq rfl (show (1000000000 : Int32).toInt = 1000000000 from rfl))).mp c18) | (have t21 : ¬ (x17.toInt = (1000000000 : Int32).toInt) := (not_congr (i_eq rfl rfl)).mp c18) | skip
        intro b22 eb22
        obtain rfl : uC = b22 := Option.some.inj (huC.symm.trans eb22)
        have o23 : vp_in x2 75 := vi_of rfl (by omega) (by omega)
        refine ⟨o23, ?_⟩
        intro b24 eb24
        obtain rfl : uB = b24 := Option.some.inj (huB.symm.trans eb24)
        have hself : ((((1000 : Int32) * (v1 + (1 : Int32))) + v3)).toNatClampNeg = (1000 * (v1.toInt + 1) + v3.toInt).toNat := by (have h9 := i_nat (x := (((1000 : Int32) * (v1 + (1 : Int32))) + v3)) (i_add (i_mul (show (1000 : Int32).toInt = 1000 from rfl) (i_add rfl (show (1 : Int32).toInt = 1 from rfl) (by omega) (by omega)) (by omega) (by omega)) rfl (by omega) (by omega)) (by omega); omega)
        have o25 : vp_in (((1000 : Int32) * (v1 + (1 : Int32))) + v3) 25000 := vi_of (i_add (i_mul (show (1000 : Int32).toInt = 1000 from rfl) (i_add rfl (show (1 : Int32).toInt = 1 from rfl) (by omega) (by omega)) (by omega) (by omega)) rfl (by omega) (by omega)) (by omega) (by omega)
        refine ⟨o25, ?_⟩
        refine ⟨fun c26 => ?_, fun c26 => ?_⟩
        · skip
          first | (have t27 : ¬ (((x17.toInt + ((100) * (I uC x2.toNatClampNeg).toInt)) + (1)) = (I uB (((1000 : Int32) * (v1 + (1 : Int32))) + v3).toNatClampNeg).toInt) := (not_congr (i_eq (i_add (i_add rfl (i_mul (show (100 : Int32).toInt = 100 from rfl) rfl (by omega) (by omega)) (by omega) (by omega)) (show (1 : Int32).toInt = 1 from rfl) (by omega) (by omega)) rfl)).mp c26) | (have t27 : ¬ (((x17 + ((100 : Int32) * (I uC x2.toNatClampNeg))) + (1 : Int32)).toInt = (I uB (((1000 : Int32) * (v1 + (1 : Int32))) + v3).toNatClampNeg).toInt) := (not_congr (i_eq rfl rfl)).mp c26) | skip
          have t28 : (0 : Int32).toInt = 0 := rfl
          exact hQ (0 : Int32) (by first | exact Or.inr ⟨rfl, CN.no1 hk4 (by omega) (by omega)⟩ | (refine Or.inr ⟨rfl, fun h9 => ?_⟩; have h8 := (hcn (by omega) (by omega)).mp h9; first | (exfalso; omega) | (rw [← hself] at h8; exfalso; omega)) | (refine Or.inl ⟨rfl, (hcn (by omega) (by omega)).mpr ?_⟩; rw [← hself]; constructor <;> omega))
        · skip
          first | (have t29 : ((x17.toInt + ((100) * (I uC x2.toNatClampNeg).toInt)) + (1)) = (I uB (((1000 : Int32) * (v1 + (1 : Int32))) + v3).toNatClampNeg).toInt := (i_eq (i_add (i_add rfl (i_mul (show (100 : Int32).toInt = 100 from rfl) rfl (by omega) (by omega)) (by omega) (by omega)) (show (1 : Int32).toInt = 1 from rfl) (by omega) (by omega)) rfl).mp c26) | (have t29 : ((x17 + ((100 : Int32) * (I uC x2.toNatClampNeg))) + (1 : Int32)).toInt = (I uB (((1000 : Int32) * (v1 + (1 : Int32))) + v3).toNatClampNeg).toInt := (i_eq rfl rfl).mp c26) | skip
          have t30 : (1 : Int32).toInt = 1 := rfl
          exact hQ (1 : Int32) (by first | exact Or.inr ⟨rfl, CN.no1 hk4 (by omega) (by omega)⟩ | (refine Or.inr ⟨rfl, fun h9 => ?_⟩; have h8 := (hcn (by omega) (by omega)).mp h9; first | (exfalso; omega) | (rw [← hself] at h8; exfalso; omega)) | (refine Or.inl ⟨rfl, (hcn (by omega) (by omega)).mpr ?_⟩; rw [← hself]; constructor <;> omega))
    · skip
      first | (have t31 : ¬ ((I uE x2.toNatClampNeg).toInt ≤ v3.toInt) := (not_congr (i_le rfl rfl)).mp c11) | (have t31 : ¬ ((I uE x2.toNatClampNeg).toInt ≤ v3.toInt) := (not_congr (i_le rfl rfl)).mp c11) | skip
      have t32 : (0 : Int32).toInt = 0 := rfl
      exact hQ (0 : Int32) (by first | exact Or.inr ⟨rfl, CN.no1 hk4 (by omega) (by omega)⟩ | (refine Or.inr ⟨rfl, fun h9 => ?_⟩; have h8 := (hcn (by omega) (by omega)).mp h9; first | (exfalso; omega) | (rw [← hself] at h8; exfalso; omega)) | (refine Or.inl ⟨rfl, (hcn (by omega) (by omega)).mpr ?_⟩; rw [← hself]; constructor <;> omega))
def Ws_X12_findByCost : List (Nat × Nat) := [(12, 40)]
set_option maxHeartbeats 4000000 in
set_option maxRecDepth 100000 in
theorem l_X12_findByCost_L45 {Z : jZ} {I0 : jI} {Q : jI → jL → Prop} (w0 : WD Z I0) (v0 : Nat) (v1 : Int32) (kv0 : jk Z v0 12) (uC : Nat) (huC : jr Z v0 37 = some uC) (uE : Nat) (huE : jr Z v0 38 = some uE) (uB : Nat) (huB : jr Z v0 40 = some uB) (p0 : MVB (3 * ((I0 v0 0).toInt + 1)) (I0 v0 0).toInt (I0 uC) (I0 uE)) (p1 : 0 ≤ v1.toInt ∧ v1.toInt ≤ 999) (v2 : Int32) (v3 : Int32) (hQ : ∀  (I' : jI) (L' : jL), WD Z I' → FR Ws_X12_findByCost Z I0 Z I' → Q I' L') {K7 : Nat → Int32 → Int32 → jI → jL → Prop} {N7 : Int} (hK7 : ∀ (v2 : Int32) (I : jI) (L : jL), WD Z I → FR Ws_X12_findByCost Z I0 Z I →   (-2 ≤ v2.toInt ∧ (I0 v0 0).toInt ≤ 24 ∧ v2.toInt < (I0 v0 0).toInt) → v2.toInt + 2 < N7 → K7 v0 v1 v2 I L) {K14 : Nat → Int32 → Int32 → Int32 → jI → jL → Prop} {N14 : Int} (hK14 : ∀ (v3 : Int32) (I : jI) (L : jL), WD Z I → FR Ws_X12_findByCost Z I0 Z I →   (-1 ≤ v2.toInt ∧ (I0 v0 0).toInt ≤ 24 ∧ v2.toInt < (I0 v0 0).toInt ∧ 0 ≤ v3.toInt ∧ v3.toInt ≤ 1000) → v2.toInt + 2 ≤ N7 → 1000 - v3.toInt < N14 → K14 v0 v1 v2 v3 I L) : ∀ (n : Nat) (v4 : Int32) (v5 : Int32) (I : jI) (L : jL), WD Z I → FR Ws_X12_findByCost Z I0 Z I →   (-1 ≤ v2.toInt ∧ (I0 v0 0).toInt ≤ 24 ∧ v2.toInt < (I0 v0 0).toInt ∧ 0 ≤ v3.toInt ∧ v3.toInt ≤ 999 ∧ 1 ≤ v5.toInt ∧ v5.toInt ≤ 4) → v2.toInt + 2 ≤ N7 → 1000 - v3.toInt ≤ N14 → 4 - v5.toInt < (n : Int) → f_X12_findByCost_L45 K7 K14 Z Q n v0 v1 v2 v3 v4 v5 I L := by
  intro n
  induction n with
  | zero =>
    intro v4 v5 I L w_I q_I   li hm7 hm14 me
    exfalso
    omega
  | succ n ih =>
    intro v4 v5 I L w_I q_I   li hm7 hm14 me
    unfold f_X12_findByCost_L45
    have rv4 := i_rng v4
    have rv5 := i_rng v5
    have rv2 := i_rng v2
    have rv3 := i_rng v3
    have rv1 := i_rng v1
    have t1 : 0 ≤ (I v0 0).toInt ∧ (I v0 0).toInt ≤ 24 := w_I.fld 12 0 kv0 (by decide)
    have luC : jlen Z uC = 75 := by obtain ⟨b9, e9, -, l9⟩ := sh_f w_I.1 kv0 (j := 37) (k := 14) (m := 75) rfl; cases huC.symm.trans e9; exact l9
    have kuC : jk Z uC 14 := by obtain ⟨b9, e9, k9, -⟩ := sh_f w_I.1 kv0 (j := 37) (k := 14) (m := 75) rfl; cases huC.symm.trans e9; exact k9
    have luE : jlen Z uE = 75 := by obtain ⟨b9, e9, -, l9⟩ := sh_f w_I.1 kv0 (j := 38) (k := 14) (m := 75) rfl; cases huE.symm.trans e9; exact l9
    have kuE : jk Z uE 14 := by obtain ⟨b9, e9, k9, -⟩ := sh_f w_I.1 kv0 (j := 38) (k := 14) (m := 75) rfl; cases huE.symm.trans e9; exact k9
    have luB : jlen Z uB = 25000 := by obtain ⟨b9, e9, -, l9⟩ := sh_f w_I.1 kv0 (j := 40) (k := 14) (m := 25000) rfl; cases huB.symm.trans e9; exact l9
    have kuB : jk Z uB 14 := by obtain ⟨b9, e9, k9, -⟩ := sh_f w_I.1 kv0 (j := 40) (k := 14) (m := 25000) rfl; cases huB.symm.trans e9; exact k9
    have e0 : (I v0 0).toInt = (I0 v0 0).toInt := by rw [q_I.2.2.1 v0 12 0 kv0 (by decide) (by decide)]
    have ec : I uC = I0 uC := q_I.2.2.2 v0 12 37 uC kv0 huC (by rw [kuC.2]; rfl) rfl (by decide)
    have ee : I uE = I0 uE := q_I.2.2.2 v0 12 38 uE kv0 huE (by rw [kuE.2]; rfl) rfl (by decide)
    have mv : MVB (3 * ((I0 v0 0).toInt + 1)) (I0 v0 0).toInt (I uC) (I uE) := by rw [ec, ee]; exact p0
    refine ⟨fun c2 => ?_, fun c2 => ?_⟩
    · skip
      first | (have t3 : (3) < v5.toInt := (i_lt (show (3 : Int32).toInt = 3 from rfl) rfl).mp c2) | (have t3 : (3 : Int32).toInt < v5.toInt := (i_lt rfl rfl).mp c2) | skip
      intro b4 eb4
      obtain rfl : uB = b4 := Option.some.inj (huB.symm.trans eb4)
      have o5 : vp_in (((1000 : Int32) * (v2 + (1 : Int32))) + v3) 25000 := vi_of (i_add (i_mul (show (1000 : Int32).toInt = 1000 from rfl) (i_add rfl (show (1 : Int32).toInt = 1 from rfl) (by omega) (by omega)) (by omega) (by omega)) rfl (by omega) (by omega)) (by omega) (by omega)
      refine ⟨o5, ?_⟩
      intro I6 eI6
      have w_I6 : WD Z I6 := by rw [eI6]; exact WD_putA w_I 12 40 kv0 huB kuB rfl rfl (by decide) trivial
      have f_I6 : FR [(12, 40)] Z I Z I6 := by rw [eI6]; exact FR_upA w_I.2.1 kv0 huB kuB rfl rfl List.mem_cons_self
      have q_I6 : FR Ws_X12_findByCost Z I0 Z I6 := q_I.trans w0.1 w0.2.1 (f_I6.mono (by decide))
      have u7 : (I6 v0 0).toInt = (I v0 0).toInt := by rw [f_I6.2.2.1 v0 12 0 kv0 (by decide) (by decide)]
      intro x8 ex8
      have rx8 := i_rng x8
      first | (have tx8 : x8.toInt = v3.toInt + (1) := by (rw [ex8]; exact (i_add rfl (show (1 : Int32).toInt = 1 from rfl) (by omega) (by omega)))) | skip
      exact hK14 x8 I6 L w_I6 q_I6   (by omega) (by omega) (by omega)
    · skip
      first | (have t9 : ¬ ((3) < v5.toInt) := (not_congr (i_lt (show (3 : Int32).toInt = 3 from rfl) rfl)).mp c2) | (have t9 : ¬ ((3 : Int32).toInt < v5.toInt) := (not_congr (i_lt rfl rfl)).mp c2) | skip
      intro x10 ex10
      have rx10 := i_rng x10
      first | (have tx10 : x10.toInt = ((((3) * (v2.toInt + (1))) + v5.toInt) - (1)) := by (rw [ex10]; exact (i_sub (i_add (i_mul (show (3 : Int32).toInt = 3 from rfl) (i_add rfl (show (1 : Int32).toInt = 1 from rfl) (by omega) (by omega)) (by omega) (by omega)) rfl (by omega) (by omega)) (show (1 : Int32).toInt = 1 from rfl) (by omega) (by omega)))) | (have tx10 : x10.toInt = ((((3 : Int32) * (v2 + (1 : Int32))) + v5) - (1 : Int32)).toInt := by rw [ex10])
      intro b11 eb11
      obtain rfl : uC = b11 := Option.some.inj (huC.symm.trans eb11)
      have hm := MVB.at mv (x := x10) rfl (by omega) (by omega)
      have o12 : vp_in x10 75 := vi_of rfl (by omega) (by omega)
      refine ⟨o12, ?_⟩
      refine ⟨fun c13 => ?_, fun c13 => ?_⟩
      · skip
        first | (have t14 : (I uC x10.toNatClampNeg).toInt = (1000000000) := (i_eq rfl (show (1000000000 : Int32).toInt = 1000000000 from rfl)).mp c13) | (have t14 : (I uC x10.toNatClampNeg).toInt = (1000000000 : Int32).toInt := (i_eq rfl rfl).mp c13) | skip
        unfold f_X12_findByCost_b142
        intro x15 ex15
        have rx15 := i_rng x15
        first | (have tx15 : x15.toInt = v5.toInt + (1) := by (rw [ex15]; exact (i_add rfl (show (1 : Int32).toInt = 1 from rfl) (by omega) (by omega)))) | skip
        exact ih v4 x15 I L w_I q_I   (by omega) (by omega) (by omega) (by omega)
      · skip
        first | (have t16 : ¬ ((I uC x10.toNatClampNeg).toInt = (1000000000)) := (not_congr (i_eq rfl (show (1000000000 : Int32).toInt = 1000000000 from rfl))).mp c13) | (have t16 : ¬ ((I uC x10.toNatClampNeg).toInt = (1000000000 : Int32).toInt) := (not_congr (i_eq rfl rfl)).mp c13) | skip
        intro b17 eb17
        obtain rfl : uC = b17 := Option.some.inj (huC.symm.trans eb17)
        have o18 : vp_in x10 75 := vi_of rfl (by omega) (by omega)
        refine ⟨o18, ?_⟩
        refine ⟨fun c19 => ?_, fun c19 => ?_⟩
        · skip
          first | (have t20 : (I uC x10.toNatClampNeg).toInt ≤ v3.toInt := (i_le rfl rfl).mp c19) | (have t20 : (I uC x10.toNatClampNeg).toInt ≤ v3.toInt := (i_le rfl rfl).mp c19) | skip
          intro b21 eb21
          obtain rfl : uB = b21 := Option.some.inj (huB.symm.trans eb21)
          intro b22 eb22
          obtain rfl : uC = b22 := Option.some.inj (huC.symm.trans eb22)
          have o23 : vp_in x10 75 := vi_of rfl (by omega) (by omega)
          refine ⟨o23, ?_⟩
          have o24 : vp_in ((((1000 : Int32) * ((v2 + v5) + (1 : Int32))) + v3) - (I uC x10.toNatClampNeg)) 25000 := vi_of (i_sub (i_add (i_mul (show (1000 : Int32).toInt = 1000 from rfl) (i_add (i_add rfl rfl (by omega) (by omega)) (show (1 : Int32).toInt = 1 from rfl) (by omega) (by omega)) (by omega) (by omega)) rfl (by omega) (by omega)) rfl (by omega) (by omega)) (by omega) (by omega)
          refine ⟨o24, ?_⟩
          intro x25 ex25
          have rx25 := i_rng x25
          first | (have tx25 : x25.toInt = (I uB ((((1000 : Int32) * ((v2 + v5) + (1 : Int32))) + v3) - (I uC x10.toNatClampNeg)).toNatClampNeg).toInt := by (rw [ex25]; exact rfl)) | (have tx25 : x25.toInt = (I uB ((((1000 : Int32) * ((v2 + v5) + (1 : Int32))) + v3) - (I uC x10.toNatClampNeg)).toNatClampNeg).toInt := by rw [ex25])
          refine ⟨fun c26 => ?_, fun c26 => ?_⟩
          · skip
            first | (have t27 : x25.toInt = (1000000000) := (i_eq rfl (show (1000000000 : Int32).toInt = 1000000000 from rfl)).mp c26) | (have t27 : x25.toInt = (1000000000 : Int32).toInt := (i_eq rfl rfl).mp c26) | skip
            unfold f_X12_findByCost_b142
            intro x28 ex28
            have rx28 := i_rng x28
            first | (have tx28 : x28.toInt = v5.toInt + (1) := by (rw [ex28]; exact (i_add rfl (show (1 : Int32).toInt = 1 from rfl) (by omega) (by omega)))) | skip
            exact ih v4 x28 I L w_I q_I   (by omega) (by omega) (by omega) (by omega)
          · skip
            first | (have t29 : ¬ (x25.toInt = (1000000000)) := (not_congr (i_eq rfl (show (1000000000 : Int32).toInt = 1000000000 from rfl))).mp c26) | (have t29 : ¬ (x25.toInt = (1000000000 : Int32).toInt) := (not_congr (i_eq rfl rfl)).mp c26) | skip
            intro b30 eb30
            obtain rfl : uE = b30 := Option.some.inj (huE.symm.trans eb30)
            have o31 : vp_in x10 75 := vi_of rfl (by omega) (by omega)
            refine ⟨o31, ?_⟩
            intro x32 ex32
            have rx32 := i_rng x32
            first | (have tx32 : x32.toInt = (min v4.toInt (x25.toInt + (I uE x10.toNatClampNeg).toInt)) := by (rw [ex32]; exact (i_min rfl (i_add rfl rfl (by omega) (by omega))))) | (have tx32 : x32.toInt = (if (x25 + (I uE x10.toNatClampNeg)) < v4 then (x25 + (I uE x10.toNatClampNeg)) else v4).toInt := by rw [ex32])
            unfold f_X12_findByCost_b142
            intro x33 ex33
            have rx33 := i_rng x33
            first | (have tx33 : x33.toInt = v5.toInt + (1) := by (rw [ex33]; exact (i_add rfl (show (1 : Int32).toInt = 1 from rfl) (by omega) (by omega)))) | skip
            exact ih x32 x33 I L w_I q_I   (by omega) (by omega) (by omega) (by omega)
        · skip
          first | (have t34 : ¬ ((I uC x10.toNatClampNeg).toInt ≤ v3.toInt) := (not_congr (i_le rfl rfl)).mp c19) | (have t34 : ¬ ((I uC x10.toNatClampNeg).toInt ≤ v3.toInt) := (not_congr (i_le rfl rfl)).mp c19) | skip
          unfold f_X12_findByCost_b142
          intro x35 ex35
          have rx35 := i_rng x35
          first | (have tx35 : x35.toInt = v5.toInt + (1) := by (rw [ex35]; exact (i_add rfl (show (1 : Int32).toInt = 1 from rfl) (by omega) (by omega)))) | skip
          exact ih v4 x35 I L w_I q_I   (by omega) (by omega) (by omega) (by omega)
set_option maxHeartbeats 4000000 in
set_option maxRecDepth 100000 in
theorem l_X12_findByCost_L14 {Z : jZ} {I0 : jI} {Q : jI → jL → Prop} (w0 : WD Z I0) (v0 : Nat) (v1 : Int32) (kv0 : jk Z v0 12) (uC : Nat) (huC : jr Z v0 37 = some uC) (uE : Nat) (huE : jr Z v0 38 = some uE) (uB : Nat) (huB : jr Z v0 40 = some uB) (p0 : MVB (3 * ((I0 v0 0).toInt + 1)) (I0 v0 0).toInt (I0 uC) (I0 uE)) (p1 : 0 ≤ v1.toInt ∧ v1.toInt ≤ 999) (v2 : Int32) (hQ : ∀  (I' : jI) (L' : jL), WD Z I' → FR Ws_X12_findByCost Z I0 Z I' → Q I' L') {K7 : Nat → Int32 → Int32 → jI → jL → Prop} {N7 : Int} (hK7 : ∀ (v2 : Int32) (I : jI) (L : jL), WD Z I → FR Ws_X12_findByCost Z I0 Z I →   (-2 ≤ v2.toInt ∧ (I0 v0 0).toInt ≤ 24 ∧ v2.toInt < (I0 v0 0).toInt) → v2.toInt + 2 < N7 → K7 v0 v1 v2 I L) : ∀ (n : Nat) (v3 : Int32) (I : jI) (L : jL), WD Z I → FR Ws_X12_findByCost Z I0 Z I →   (-1 ≤ v2.toInt ∧ (I0 v0 0).toInt ≤ 24 ∧ v2.toInt < (I0 v0 0).toInt ∧ 0 ≤ v3.toInt ∧ v3.toInt ≤ 1000) → v2.toInt + 2 ≤ N7 → 1000 - v3.toInt < (n : Int) → f_X12_findByCost_L14 K7 Z Q n v0 v1 v2 v3 I L := by
  intro n
  induction n with
  | zero =>
    intro v3 I L w_I q_I   li hm7 me
    exfalso
    omega
  | succ n ih =>
    intro v3 I L w_I q_I   li hm7 me
    unfold f_X12_findByCost_L14
    have rv3 := i_rng v3
    have rv2 := i_rng v2
    have rv1 := i_rng v1
    have t36 : 0 ≤ (I v0 0).toInt ∧ (I v0 0).toInt ≤ 24 := w_I.fld 12 0 kv0 (by decide)
    have luC : jlen Z uC = 75 := by obtain ⟨b9, e9, -, l9⟩ := sh_f w_I.1 kv0 (j := 37) (k := 14) (m := 75) rfl; cases huC.symm.trans e9; exact l9
    have kuC : jk Z uC 14 := by obtain ⟨b9, e9, k9, -⟩ := sh_f w_I.1 kv0 (j := 37) (k := 14) (m := 75) rfl; cases huC.symm.trans e9; exact k9
    have luE : jlen Z uE = 75 := by obtain ⟨b9, e9, -, l9⟩ := sh_f w_I.1 kv0 (j := 38) (k := 14) (m := 75) rfl; cases huE.symm.trans e9; exact l9
    have kuE : jk Z uE 14 := by obtain ⟨b9, e9, k9, -⟩ := sh_f w_I.1 kv0 (j := 38) (k := 14) (m := 75) rfl; cases huE.symm.trans e9; exact k9
    have luB : jlen Z uB = 25000 := by obtain ⟨b9, e9, -, l9⟩ := sh_f w_I.1 kv0 (j := 40) (k := 14) (m := 25000) rfl; cases huB.symm.trans e9; exact l9
    have kuB : jk Z uB 14 := by obtain ⟨b9, e9, k9, -⟩ := sh_f w_I.1 kv0 (j := 40) (k := 14) (m := 25000) rfl; cases huB.symm.trans e9; exact k9
    have e0 : (I v0 0).toInt = (I0 v0 0).toInt := by rw [q_I.2.2.1 v0 12 0 kv0 (by decide) (by decide)]
    have ec : I uC = I0 uC := q_I.2.2.2 v0 12 37 uC kv0 huC (by rw [kuC.2]; rfl) rfl (by decide)
    have ee : I uE = I0 uE := q_I.2.2.2 v0 12 38 uE kv0 huE (by rw [kuE.2]; rfl) rfl (by decide)
    have mv : MVB (3 * ((I0 v0 0).toInt + 1)) (I0 v0 0).toInt (I uC) (I uE) := by rw [ec, ee]; exact p0
    refine ⟨fun c37 => ?_, fun c37 => ?_⟩
    · skip
      first | (have t38 : v1.toInt < v3.toInt := (i_lt rfl rfl).mp c37) | (have t38 : v1.toInt < v3.toInt := (i_lt rfl rfl).mp c37) | skip
      intro x39 ex39
      have rx39 := i_rng x39
      first | (have tx39 : x39.toInt = v2.toInt + (-1) := by (rw [ex39]; exact (i_add rfl (show (-1 : Int32).toInt = -1 from rfl) (by omega) (by omega)))) | skip
      exact hK7 x39 I L w_I q_I   (by omega)  (by omega)
    · skip
      first | (have t40 : ¬ (v1.toInt < v3.toInt) := (not_congr (i_lt rfl rfl)).mp c37) | (have t40 : ¬ (v1.toInt < v3.toInt) := (not_congr (i_lt rfl rfl)).mp c37) | skip
      have t42 : 0 ≤ (I v0 0).toInt ∧ (I v0 0).toInt ≤ 24 := w_I.fld 12 0 kv0 (by decide)
      refine ⟨fun c43 => ?_, fun c43 => ?_⟩
      · skip
        first | (have t44 : ¬ (v2.toInt = ((I v0 0).toInt - (1))) := (not_congr (i_eq rfl (i_sub rfl (show (1 : Int32).toInt = 1 from rfl) (by omega) (by omega)))).mp c43) | (have t44 : ¬ (v2.toInt = ((I v0 0) - (1 : Int32)).toInt) := (not_congr (i_eq rfl rfl)).mp c43) | skip
        unfold f_X12_findByCost_b37
        unfold f_X12_findByCost_b40
        have t45 : (1000000000 : Int32).toInt = 1000000000 := rfl
        have t46 : (1 : Int32).toInt = 1 := rfl
        exact ⟨(4 - (1 : Int32).toInt).toNat + 1, l_X12_findByCost_L45 w0 v0 v1 kv0 uC huC uE huE uB huB p0 p1 v2 v3  hQ hK7 ih  _ (1000000000 : Int32) (1 : Int32) I L w_I q_I   (by omega) (by omega) (by omega) (by omega)⟩
      · skip
        first | (have t47 : v2.toInt = ((I v0 0).toInt - (1)) := (i_eq rfl (i_sub rfl (show (1 : Int32).toInt = 1 from rfl) (by omega) (by omega))).mp c43) | (have t47 : v2.toInt = ((I v0 0) - (1 : Int32)).toInt := (i_eq rfl rfl).mp c43) | skip
        refine ⟨fun c48 => ?_, fun c48 => ?_⟩
        · skip
          first | (have t49 : ¬ (v3.toInt = (0)) := (not_congr (i_eq rfl (show (0 : Int32).toInt = 0 from rfl))).mp c48) | (have t49 : ¬ (v3.toInt = (0 : Int32).toInt) := (not_congr (i_eq rfl rfl)).mp c48) | skip
          unfold f_X12_findByCost_b37
          unfold f_X12_findByCost_b40
          have t50 : (1000000000 : Int32).toInt = 1000000000 := rfl
          have t51 : (1 : Int32).toInt = 1 := rfl
          exact ⟨(4 - (1 : Int32).toInt).toNat + 1, l_X12_findByCost_L45 w0 v0 v1 kv0 uC huC uE huE uB huB p0 p1 v2 v3  hQ hK7 ih  _ (1000000000 : Int32) (1 : Int32) I L w_I q_I   (by omega) (by omega) (by omega) (by omega)⟩
        · skip
          first | (have t52 : v3.toInt = (0) := (i_eq rfl (show (0 : Int32).toInt = 0 from rfl)).mp c48) | (have t52 : v3.toInt = (0 : Int32).toInt := (i_eq rfl rfl).mp c48) | skip
          unfold f_X12_findByCost_b40
          have t53 : (0 : Int32).toInt = 0 := rfl
          have t54 : (1 : Int32).toInt = 1 := rfl
          exact ⟨(4 - (1 : Int32).toInt).toNat + 1, l_X12_findByCost_L45 w0 v0 v1 kv0 uC huC uE huE uB huB p0 p1 v2 v3  hQ hK7 ih  _ (0 : Int32) (1 : Int32) I L w_I q_I   (by omega) (by omega) (by omega) (by omega)⟩
set_option maxHeartbeats 4000000 in
set_option maxRecDepth 100000 in
theorem l_X12_findByCost_L7 {Z : jZ} {I0 : jI} {Q : jI → jL → Prop} (w0 : WD Z I0) (v0 : Nat) (v1 : Int32) (kv0 : jk Z v0 12) (uC : Nat) (huC : jr Z v0 37 = some uC) (uE : Nat) (huE : jr Z v0 38 = some uE) (uB : Nat) (huB : jr Z v0 40 = some uB) (p0 : MVB (3 * ((I0 v0 0).toInt + 1)) (I0 v0 0).toInt (I0 uC) (I0 uE)) (p1 : 0 ≤ v1.toInt ∧ v1.toInt ≤ 999) (hQ : ∀  (I' : jI) (L' : jL), WD Z I' → FR Ws_X12_findByCost Z I0 Z I' → Q I' L') : ∀ (n : Nat) (v2 : Int32) (I : jI) (L : jL), WD Z I → FR Ws_X12_findByCost Z I0 Z I →   (-2 ≤ v2.toInt ∧ (I0 v0 0).toInt ≤ 24 ∧ v2.toInt < (I0 v0 0).toInt) → v2.toInt + 2 < (n : Int) → f_X12_findByCost_L7  Z Q n v0 v1 v2 I L := by
  intro n
  induction n with
  | zero =>
    intro v2 I L w_I q_I   li  me
    exfalso
    omega
  | succ n ih =>
    intro v2 I L w_I q_I   li  me
    unfold f_X12_findByCost_L7
    have rv2 := i_rng v2
    have rv1 := i_rng v1
    have t55 : 0 ≤ (I v0 0).toInt ∧ (I v0 0).toInt ≤ 24 := w_I.fld 12 0 kv0 (by decide)
    have luC : jlen Z uC = 75 := by obtain ⟨b9, e9, -, l9⟩ := sh_f w_I.1 kv0 (j := 37) (k := 14) (m := 75) rfl; cases huC.symm.trans e9; exact l9
    have kuC : jk Z uC 14 := by obtain ⟨b9, e9, k9, -⟩ := sh_f w_I.1 kv0 (j := 37) (k := 14) (m := 75) rfl; cases huC.symm.trans e9; exact k9
    have luE : jlen Z uE = 75 := by obtain ⟨b9, e9, -, l9⟩ := sh_f w_I.1 kv0 (j := 38) (k := 14) (m := 75) rfl; cases huE.symm.trans e9; exact l9
    have kuE : jk Z uE 14 := by obtain ⟨b9, e9, k9, -⟩ := sh_f w_I.1 kv0 (j := 38) (k := 14) (m := 75) rfl; cases huE.symm.trans e9; exact k9
    have luB : jlen Z uB = 25000 := by obtain ⟨b9, e9, -, l9⟩ := sh_f w_I.1 kv0 (j := 40) (k := 14) (m := 25000) rfl; cases huB.symm.trans e9; exact l9
    have kuB : jk Z uB 14 := by obtain ⟨b9, e9, k9, -⟩ := sh_f w_I.1 kv0 (j := 40) (k := 14) (m := 25000) rfl; cases huB.symm.trans e9; exact k9
    have e0 : (I v0 0).toInt = (I0 v0 0).toInt := by rw [q_I.2.2.1 v0 12 0 kv0 (by decide) (by decide)]
    have ec : I uC = I0 uC := q_I.2.2.2 v0 12 37 uC kv0 huC (by rw [kuC.2]; rfl) rfl (by decide)
    have ee : I uE = I0 uE := q_I.2.2.2 v0 12 38 uE kv0 huE (by rw [kuE.2]; rfl) rfl (by decide)
    have mv : MVB (3 * ((I0 v0 0).toInt + 1)) (I0 v0 0).toInt (I uC) (I uE) := by rw [ec, ee]; exact p0
    refine ⟨fun c56 => ?_, fun c56 => ?_⟩
    · skip
      first | (have t57 : v2.toInt < (-1) := (i_lt rfl (show (-1 : Int32).toInt = -1 from rfl)).mp c56) | (have t57 : v2.toInt < (-1 : Int32).toInt := (i_lt rfl rfl).mp c56) | skip
      exact hQ  I L w_I q_I 
    · skip
      first | (have t58 : ¬ (v2.toInt < (-1)) := (not_congr (i_lt rfl (show (-1 : Int32).toInt = -1 from rfl))).mp c56) | (have t58 : ¬ (v2.toInt < (-1 : Int32).toInt) := (not_congr (i_lt rfl rfl)).mp c56) | skip
      have t59 : (0 : Int32).toInt = 0 := rfl
      exact ⟨(1000 - (0 : Int32).toInt).toNat + 1, l_X12_findByCost_L14 w0 v0 v1 kv0 uC huC uE huE uB huB p0 p1 v2  hQ ih  _ (0 : Int32) I L w_I q_I   (by omega) (by omega) (by omega)⟩
set_option maxHeartbeats 4000000 in
set_option maxRecDepth 100000 in
theorem s_X12_findByCost {Z : jZ} {I : jI} {L : jL} (w_I : WD Z I) (v0 : Nat) (v1 : Int32) (kv0 : jk Z v0 12) (uC : Nat) (huC : jr Z v0 37 = some uC) (uE : Nat) (huE : jr Z v0 38 = some uE) (uB : Nat) (huB : jr Z v0 40 = some uB) (p0 : MVB (3 * ((I v0 0).toInt + 1)) (I v0 0).toInt (I uC) (I uE)) (p1 : 0 ≤ v1.toInt ∧ v1.toInt ≤ 999) {Q : jI → jL → Prop} (hQ : ∀  (I' : jI) (L' : jL), WD Z I' → FR Ws_X12_findByCost Z I Z I' → Q I' L') : f_X12_findByCost v0 v1 Z I L Q := by
  unfold f_X12_findByCost
  have q_I : FR Ws_X12_findByCost Z I Z I := FR.rf
  have rv1 := i_rng v1
  have t60 : 0 ≤ (I v0 0).toInt ∧ (I v0 0).toInt ≤ 24 := w_I.fld 12 0 kv0 (by decide)
  have luC : jlen Z uC = 75 := by obtain ⟨b9, e9, -, l9⟩ := sh_f w_I.1 kv0 (j := 37) (k := 14) (m := 75) rfl; cases huC.symm.trans e9; exact l9
  have kuC : jk Z uC 14 := by obtain ⟨b9, e9, k9, -⟩ := sh_f w_I.1 kv0 (j := 37) (k := 14) (m := 75) rfl; cases huC.symm.trans e9; exact k9
  have luE : jlen Z uE = 75 := by obtain ⟨b9, e9, -, l9⟩ := sh_f w_I.1 kv0 (j := 38) (k := 14) (m := 75) rfl; cases huE.symm.trans e9; exact l9
  have kuE : jk Z uE 14 := by obtain ⟨b9, e9, k9, -⟩ := sh_f w_I.1 kv0 (j := 38) (k := 14) (m := 75) rfl; cases huE.symm.trans e9; exact k9
  have luB : jlen Z uB = 25000 := by obtain ⟨b9, e9, -, l9⟩ := sh_f w_I.1 kv0 (j := 40) (k := 14) (m := 25000) rfl; cases huB.symm.trans e9; exact l9
  have kuB : jk Z uB 14 := by obtain ⟨b9, e9, k9, -⟩ := sh_f w_I.1 kv0 (j := 40) (k := 14) (m := 25000) rfl; cases huB.symm.trans e9; exact k9
  have t62 : 0 ≤ (I v0 0).toInt ∧ (I v0 0).toInt ≤ 24 := w_I.fld 12 0 kv0 (by decide)
  intro x63 ex63
  have rx63 := i_rng x63
  first | (have tx63 : x63.toInt = ((I v0 0).toInt - (1)) := by (rw [ex63]; exact (i_sub rfl (show (1 : Int32).toInt = 1 from rfl) (by omega) (by omega)))) | (have tx63 : x63.toInt = ((I v0 0) - (1 : Int32)).toInt := by rw [ex63])
  exact ⟨(x63.toInt + 2).toNat + 1, l_X12_findByCost_L7 w_I v0 v1 kv0 uC huC uE huE uB huB p0 p1   hQ   _ x63 I L w_I q_I   (by omega)  (by omega)⟩
def Ws_X12_next : List (Nat × Nat) := [(12, 21), (12, 22), (12, 24), (12, 25), (12, 26), (12, 27), (12, 31), (12, 32), (12, 33), (12, 34), (12, 37), (12, 38), (12, 40)]
set_option maxHeartbeats 4000000 in
set_option maxRecDepth 100000 in
theorem l_X12_next_L52 {B : Nat × Nat} {T : Nat} {Z0 : jZ} {I0 : jI} {Q : Int32 → jZ → jI → jL → Prop} (w0 : WD Z0 I0) (v0 : Nat) (v1 : Int32) (v2 : Int32) (kv0 : jk Z0 v0 12) (uC : Nat) (huC : jr Z0 v0 37 = some uC) (uE : Nat) (huE : jr Z0 v0 38 = some uE) (uB : Nat) (huB : jr Z0 v0 40 = some uB) (hQ : ∀ (r : Int32) (Z' : jZ) (I' : jI) (L' : jL), WD Z' I' → BUD B Z' T → FR Ws_X12_next Z0 I0 Z' I' → CP Z0 Z' → Q r Z' I' L') : ∀ (n : Nat) (v3 : Int32) (Z : jZ) (I : jI) (L : jL), WD Z I → BUD B Z T → FR Ws_X12_next Z0 I0 Z I → CP Z0 Z →   (0 ≤ v3.toInt ∧ v3.toInt ≤ 1000 ∧ 0 ≤ v1.toInt ∧ v1.toInt ≤ 5) → 1000 - v3.toInt < (n : Int) → f_X12_next_L52 B  Q n v0 v1 v3 Z I L := by
  intro n
  induction n with
  | zero =>
    intro v3 Z I L w_I bd_Z q_I cp_Z   li  me
    exfalso
    omega
  | succ n ih =>
    intro v3 Z I L w_I bd_Z q_I cp_Z   li  me
    unfold f_X12_next_L52
    have rv3 := i_rng v3
    have rv1 := i_rng v1
    have rv2 := i_rng v2
    have kv0_0 := kv0
    have kv0 := (q_I.1 _ _ kv0).1
    have huC_1 : jr Z v0 37 = some uC := (q_I.2.1 v0 12 37 kv0_0 (by decide) (by decide)).trans huC
    have luC : jlen Z uC = 75 := by obtain ⟨b9, e9, -, l9⟩ := sh_f w_I.1 kv0 (j := 37) (k := 14) (m := 75) rfl; cases huC_1.symm.trans e9; exact l9
    have kuC : jk Z uC 14 := by obtain ⟨b9, e9, k9, -⟩ := sh_f w_I.1 kv0 (j := 37) (k := 14) (m := 75) rfl; cases huC_1.symm.trans e9; exact k9
    have huE_1 : jr Z v0 38 = some uE := (q_I.2.1 v0 12 38 kv0_0 (by decide) (by decide)).trans huE
    have luE : jlen Z uE = 75 := by obtain ⟨b9, e9, -, l9⟩ := sh_f w_I.1 kv0 (j := 38) (k := 14) (m := 75) rfl; cases huE_1.symm.trans e9; exact l9
    have kuE : jk Z uE 14 := by obtain ⟨b9, e9, k9, -⟩ := sh_f w_I.1 kv0 (j := 38) (k := 14) (m := 75) rfl; cases huE_1.symm.trans e9; exact k9
    have huB_1 : jr Z v0 40 = some uB := (q_I.2.1 v0 12 40 kv0_0 (by decide) (by decide)).trans huB
    have luB : jlen Z uB = 25000 := by obtain ⟨b9, e9, -, l9⟩ := sh_f w_I.1 kv0 (j := 40) (k := 14) (m := 25000) rfl; cases huB_1.symm.trans e9; exact l9
    have kuB : jk Z uB 14 := by obtain ⟨b9, e9, k9, -⟩ := sh_f w_I.1 kv0 (j := 40) (k := 14) (m := 25000) rfl; cases huB_1.symm.trans e9; exact k9
    have xq_I := q_I.1
    intro b1 eb1
    obtain ⟨x2, ex2, kb1, lb1⟩ := sh_f w_I.1 kv0 (j := 10) (k := 14) (m := 6) rfl
    cases eb1.symm.trans ex2
    have o3 : vp_in v1 6 := vi_of rfl (by omega) (by omega)
    refine ⟨o3, ?_⟩
    have t4 : 0 ≤ (I b1 v1.toNatClampNeg).toInt ∧ (I b1 v1.toNatClampNeg).toInt ≤ 999 := w_I.arr 12 10 kv0 eb1 kb1 rfl rfl _
    refine ⟨fun c5 => ?_, fun c5 => ?_⟩
    · skip
      first | (have t6 : (I b1 v1.toNatClampNeg).toInt < v3.toInt := (i_lt rfl rfl).mp c5) | (have t6 : (I b1 v1.toNatClampNeg).toInt < v3.toInt := (i_lt rfl rfl).mp c5) | skip
      have t7 : (-2 : Int32).toInt = -2 := rfl
      exact hQ (-2 : Int32) Z I L w_I bd_Z q_I cp_Z 
    · skip
      first | (have t8 : ¬ ((I b1 v1.toNatClampNeg).toInt < v3.toInt) := (not_congr (i_lt rfl rfl)).mp c5) | (have t8 : ¬ ((I b1 v1.toNatClampNeg).toInt < v3.toInt) := (not_congr (i_lt rfl rfl)).mp c5) | skip
      intro b9 eb9
      obtain rfl : uB = b9 := Option.some.inj (huB_1.symm.trans eb9)
      have o10 : vp_in v3 25000 := vi_of rfl (by omega) (by omega)
      refine ⟨o10, ?_⟩
      intro b11 eb11
      obtain ⟨x12, ex12, kb11, lb11⟩ := sh_f w_I.1 kv0 (j := 9) (k := 14) (m := 6) rfl
      cases eb11.symm.trans ex12
      have o13 : vp_in v1 6 := vi_of rfl (by omega) (by omega)
      refine ⟨o13, ?_⟩
      have t14 : 0 ≤ (I b11 v1.toNatClampNeg).toInt ∧ (I b11 v1.toNatClampNeg).toInt ≤ 120 := w_I.arr 12 9 kv0 eb11 kb11 rfl rfl _
      refine ⟨fun c15 => ?_, fun c15 => ?_⟩
      · skip
        first | (have t16 : (I uB v3.toNatClampNeg).toInt ≤ (I b11 v1.toNatClampNeg).toInt := (i_le rfl rfl).mp c15) | (have t16 : (I uB v3.toNatClampNeg).toInt ≤ (I b11 v1.toNatClampNeg).toInt := (i_le rfl rfl).mp c15) | skip
        intro I17 eI17
        have t18 : (0 : Int32).toInt = 0 := rfl
        have w_I17 : WD Z I17 := by rw [eI17]; exact WD_putF w_I 12 21 kv0 (by decide) (by decide) (by constructor <;> omega)
        have f_I17 : FR [(12, 21)] Z I Z I17 := by rw [eI17]; exact FR_putF kv0 (by decide) List.mem_cons_self
        have q_I17 : FR Ws_X12_next Z0 I0 Z I17 := q_I.trans w0.1 w0.2.1 (f_I17.mono (by decide))
        first | (have u19 : (I17 v0 21).toInt = (0) := by (rw [eI17, show jpI I v0 21 (0 : Int32) v0 21 = (0 : Int32) from jpI_at] <;> exact (show (0 : Int32).toInt = 0 from rfl))) | skip
        intro b20 eb20
        obtain rfl : uB = b20 := Option.some.inj (huB_1.symm.trans eb20)
        have o21 : vp_in v3 25000 := vi_of rfl (by omega) (by omega)
        refine ⟨o21, ?_⟩
        refine s_X12_tell w_I17 v0 ((I17 uB v3.toNatClampNeg).toInt64) kv0  (by omega) (fun  I23 L24 w_I23 f_I23 p22 => ?_)
        have q_I23 : FR Ws_X12_next Z0 I0 Z I23 := q_I17.trans w0.1 w0.2.1 (f_I23.mono (by decide))
        exact hQ v3 Z I23 L24 w_I23 bd_Z q_I23 cp_Z 
      · skip
        first | (have t25 : ¬ ((I uB v3.toNatClampNeg).toInt ≤ (I b11 v1.toNatClampNeg).toInt) := (not_congr (i_le rfl rfl)).mp c15) | (have t25 : ¬ ((I uB v3.toNatClampNeg).toInt ≤ (I b11 v1.toNatClampNeg).toInt) := (not_congr (i_le rfl rfl)).mp c15) | skip
        intro x26 ex26
        have rx26 := i_rng x26
        first | (have tx26 : x26.toInt = v3.toInt + (1) := by (rw [ex26]; exact (i_add rfl (show (1 : Int32).toInt = 1 from rfl) (by omega) (by omega)))) | skip
        exact ih x26 Z I L w_I bd_Z q_I cp_Z   (by omega)  (by omega)
set_option maxHeartbeats 4000000 in
set_option maxRecDepth 100000 in
theorem s_X12_next {B : Nat × Nat} {T : Nat} {Z : jZ} {I : jI} {L : jL} (w_I : WD Z I) (bd_Z : BUD B Z T) (v0 : Nat) (v1 : Int32) (v2 : Int32) (kv0 : jk Z v0 12) (uC : Nat) (huC : jr Z v0 37 = some uC) (uE : Nat) (huE : jr Z v0 38 = some uE) (uB : Nat) (huB : jr Z v0 40 = some uB) {Q : Int32 → jZ → jI → jL → Prop} (hQ : ∀ (r : Int32) (Z' : jZ) (I' : jI) (L' : jL), WD Z' I' → BUD B Z' T → FR Ws_X12_next Z I Z' I' → CP Z Z' → Q r Z' I' L') : f_X12_next B v0 v1 v2 Z I L Q := by
  unfold f_X12_next
  have q_I : FR Ws_X12_next Z I Z I := FR.rf
  have cp_Z : CP Z Z := CP.rf
  have rv1 := i_rng v1
  have rv2 := i_rng v2
  have luC : jlen Z uC = 75 := by obtain ⟨b9, e9, -, l9⟩ := sh_f w_I.1 kv0 (j := 37) (k := 14) (m := 75) rfl; cases huC.symm.trans e9; exact l9
  have kuC : jk Z uC 14 := by obtain ⟨b9, e9, k9, -⟩ := sh_f w_I.1 kv0 (j := 37) (k := 14) (m := 75) rfl; cases huC.symm.trans e9; exact k9
  have luE : jlen Z uE = 75 := by obtain ⟨b9, e9, -, l9⟩ := sh_f w_I.1 kv0 (j := 38) (k := 14) (m := 75) rfl; cases huE.symm.trans e9; exact l9
  have kuE : jk Z uE 14 := by obtain ⟨b9, e9, k9, -⟩ := sh_f w_I.1 kv0 (j := 38) (k := 14) (m := 75) rfl; cases huE.symm.trans e9; exact k9
  have luB : jlen Z uB = 25000 := by obtain ⟨b9, e9, -, l9⟩ := sh_f w_I.1 kv0 (j := 40) (k := 14) (m := 25000) rfl; cases huB.symm.trans e9; exact l9
  have kuB : jk Z uB 14 := by obtain ⟨b9, e9, k9, -⟩ := sh_f w_I.1 kv0 (j := 40) (k := 14) (m := 25000) rfl; cases huB.symm.trans e9; exact k9
  intro I27 eI27
  have t28 : (0 : Int32).toInt = 0 := rfl
  have w_I27 : WD Z I27 := by rw [eI27]; exact WD_putF w_I 12 22 kv0 (by decide) (by decide) trivial
  have f_I27 : FR [(12, 22)] Z I Z I27 := by rw [eI27]; exact FR_putF kv0 (by decide) List.mem_cons_self
  have q_I27 : FR Ws_X12_next Z I Z I27 := q_I.trans w_I.1 w_I.2.1 (f_I27.mono (by decide))
  first | (have u29 : (I27 v0 22).toInt = (0) := by (rw [eI27, show jpI I v0 22 (0 : Int32) v0 22 = (0 : Int32) from jpI_at] <;> exact (show (0 : Int32).toInt = 0 from rfl))) | skip
  refine s_X12_isOne w_I27 v0 v1 kv0   (fun r30 p31 => ?_)
  have rr30 := i_rng r30
  refine ⟨fun c32 => ?_, fun c32 => ?_⟩
  · skip
    first | (have t33 : r30.toInt = (0) := (i_eq rfl (show (0 : Int32).toInt = 0 from rfl)).mp c32) | (have t33 : r30.toInt = (0 : Int32).toInt := (i_eq rfl rfl).mp c32) | skip
    have t34 : (-1 : Int32).toInt = -1 := rfl
    exact hQ (-1 : Int32) Z I27 L w_I27 bd_Z q_I27 cp_Z 
  · skip
    first | (have t35 : ¬ (r30.toInt = (0)) := (not_congr (i_eq rfl (show (0 : Int32).toInt = 0 from rfl))).mp c32) | (have t35 : ¬ (r30.toInt = (0 : Int32).toInt) := (not_congr (i_eq rfl rfl)).mp c32) | skip
    have t37 : 0 ≤ (I27 v0 0).toInt ∧ (I27 v0 0).toInt ≤ 24 := w_I27.fld 12 0 kv0 (by decide)
    refine ⟨fun c38 => ?_, fun c38 => ?_⟩
    · skip
      first | (have t39 : (I27 v0 0).toInt = (0) := (i_eq rfl (show (0 : Int32).toInt = 0 from rfl)).mp c38) | (have t39 : (I27 v0 0).toInt = (0 : Int32).toInt := (i_eq rfl rfl).mp c38) | skip
      have t40 : (-1 : Int32).toInt = -1 := rfl
      exact hQ (-1 : Int32) Z I27 L w_I27 bd_Z q_I27 cp_Z 
    · skip
      first | (have t41 : ¬ ((I27 v0 0).toInt = (0)) := (not_congr (i_eq rfl (show (0 : Int32).toInt = 0 from rfl))).mp c38) | (have t41 : ¬ ((I27 v0 0).toInt = (0 : Int32).toInt) := (not_congr (i_eq rfl rfl)).mp c38) | skip
      have t42 : (-1 : Int32).toInt = -1 := rfl
      have t43 : (998 : Int32).toInt = 998 := rfl
      refine s_X12_in w_I27 v2 (-1 : Int32) (998 : Int32)    (fun r44 p45 => ?_)
      have rr44 := i_rng r44
      refine ⟨fun c46 => ?_, fun c46 => ?_⟩
      · skip
        first | (have t47 : ¬ (r44.toInt = (0)) := (not_congr (i_eq rfl (show (0 : Int32).toInt = 0 from rfl))).mp c46) | (have t47 : ¬ (r44.toInt = (0 : Int32).toInt) := (not_congr (i_eq rfl rfl)).mp c46) | skip
        refine s_X12_layMoves w_I27 bd_Z v0 v1 kv0 uC huC uE huE (by omega) (fun  Z51 I49 L50 w_I49 bd_Z51 f_I49 c_Z51 p48 => ?_)
        have q_I49 : FR Ws_X12_next Z I Z51 I49 := q_I27.trans w_I.1 w_I.2.1 (f_I49.mono (by decide))
        have cp_Z51 : CP Z Z51 := cp_Z.trans q_I27.1 c_Z51
        have x_Z51 := f_I49.1
        have k52 := (f_I49.1 _ _ kv0).1
        have k53 := (f_I49.1 _ _ kuC).1
        have l54 := (f_I49.1 _ _ kuC).2.trans luC
        have k55 := (f_I49.1 _ _ kv0).1
        have e56 := (f_I49.2.1 v0 12 37 kv0 (by decide) (by decide)).trans huC
        have k57 := (f_I49.1 _ _ kuE).1
        have l58 := (f_I49.1 _ _ kuE).2.trans luE
        have k59 := (f_I49.1 _ _ kv0).1
        have e60 := (f_I49.2.1 v0 12 38 kv0 (by decide) (by decide)).trans huE
        have k61 := (f_I49.1 _ _ kuB).1
        have l62 := (f_I49.1 _ _ kuB).2.trans luB
        have k63 := (f_I49.1 _ _ kv0).1
        have e64 := (f_I49.2.1 v0 12 40 kv0 (by decide) (by decide)).trans huB
        have u65 : (I49 v0 22).toInt = (I27 v0 22).toInt := by rw [f_I49.2.2.1 v0 12 22 kv0 (by decide) (by decide)]
        have u66 : (I49 v0 0).toInt = (I27 v0 0).toInt := by rw [f_I49.2.2.1 v0 12 0 kv0 (by decide) (by decide)]
        intro b67 eb67
        obtain ⟨x68, ex68, kb67, lb67⟩ := sh_f w_I49.1 k52 (j := 10) (k := 14) (m := 6) rfl
        cases eb67.symm.trans ex68
        have o69 : vp_in v1 6 := vi_of rfl (by omega) (by omega)
        refine ⟨o69, ?_⟩
        have t70 : 0 ≤ (I49 b67 v1.toNatClampNeg).toInt ∧ (I49 b67 v1.toNatClampNeg).toInt ≤ 999 := w_I49.arr 12 10 k52 eb67 kb67 rfl rfl _
        refine s_X12_findByCost w_I49 v0 (I49 b67 v1.toNatClampNeg) k52 uC e56 uE e60 uB e64 (by assumption) (by omega) (fun  I71 L72 w_I71 f_I71  => ?_)
        have q_I71 : FR Ws_X12_next Z I Z51 I71 := q_I49.trans w_I.1 w_I.2.1 (f_I71.mono (by decide))
        have u73 : (I71 v0 22).toInt = (I49 v0 22).toInt := by rw [f_I71.2.2.1 v0 12 22 k52 (by decide) (by decide)]
        have u74 : (I71 v0 0).toInt = (I49 v0 0).toInt := by rw [f_I71.2.2.1 v0 12 0 k52 (by decide) (by decide)]
        intro x75 ex75
        have rx75 := i_rng x75
        first | (have tx75 : x75.toInt = (v2.toInt + (1)) := by (rw [ex75]; exact (i_add rfl (show (1 : Int32).toInt = 1 from rfl) (by omega) (by omega)))) | (have tx75 : x75.toInt = (v2 + (1 : Int32)).toInt := by rw [ex75])
        exact ⟨(1000 - x75.toInt).toNat + 1, l_X12_next_L52 w_I v0 v1 v2 kv0 uC huC uE huE uB huB   hQ   _ x75 Z51 I71 L72 w_I71 bd_Z51 q_I71 cp_Z51   (by omega)  (by omega)⟩
      · skip
        first | (have t76 : r44.toInt = (0) := (i_eq rfl (show (0 : Int32).toInt = 0 from rfl)).mp c46) | (have t76 : r44.toInt = (0 : Int32).toInt := (i_eq rfl rfl).mp c46) | skip
        have t77 : (-1 : Int32).toInt = -1 := rfl
        exact hQ (-1 : Int32) Z I27 L w_I27 bd_Z q_I27 cp_Z 
