def Ws_X12_layMoves : List (Nat × Nat) := [(12, 24), (12, 25), (12, 26), (12, 27), (12, 31), (12, 32), (12, 33), (12, 34), (12, 37), (12, 38)]
set_option maxHeartbeats 4000000 in
set_option maxRecDepth 100000 in
theorem l_X12_layMoves_L12 {B : Nat × Nat} {T : Nat} {Z0 : jZ} {I0 : jI} {Q : jZ → jI → jL → Prop} (w0 : WD Z0 I0) (v0 : Nat) (v1 : Int32) (kv0 : jk Z0 v0 12) (uC : Nat) (huC : jr Z0 v0 37 = some uC) (uE : Nat) (huE : jr Z0 v0 38 = some uE) (p0 : 0 ≤ v1.toInt ∧ v1.toInt ≤ 5) (v2 : Int32) (hQ : ∀  (Z' : jZ) (I' : jI) (L' : jL), WD Z' I' → BUD B Z' T → FR Ws_X12_layMoves Z0 I0 Z' I' → CP Z0 Z' → MVB (3 * ((I0 v0 0).toInt + 1)) (I0 v0 0).toInt (I' uC) (I' uE) → Q Z' I' L') {K2 : Nat → Int32 → Int32 → jZ → jI → jL → Prop} {N2 : Int} (hK2 : ∀ (v2 : Int32) (Z : jZ) (I : jI) (L : jL), WD Z I → BUD B Z T → FR Ws_X12_layMoves Z0 I0 Z I → CP Z0 Z →   ((-1 ≤ v2.toInt ∧ v2.toInt ≤ (I0 v0 0).toInt ∧ (I0 v0 0).toInt ≤ 24) ∧ (I v0 0).toInt = (I0 v0 0).toInt ∧ MVB (3 * (v2.toInt + 1)) (I0 v0 0).toInt (I uC) (I uE)) → 24 - v2.toInt < N2 → K2 v0 v1 v2 Z I L) : ∀ (n : Nat) (v3 : Int32) (Z : jZ) (I : jI) (L : jL), WD Z I → BUD B Z T → FR Ws_X12_layMoves Z0 I0 Z I → CP Z0 Z →   ((-1 ≤ v2.toInt ∧ v2.toInt < (I0 v0 0).toInt ∧ (I0 v0 0).toInt ≤ 24 ∧ 1 ≤ v3.toInt ∧ v3.toInt ≤ 4) ∧ (I v0 0).toInt = (I0 v0 0).toInt ∧ MVB (3 * (v2.toInt + 1) + v3.toInt - 1) (I0 v0 0).toInt (I uC) (I uE)) → 24 - v2.toInt ≤ N2 → 4 - v3.toInt < (n : Int) → f_X12_layMoves_L12 B K2 Q n v0 v1 v2 v3 Z I L := by
  intro n
  induction n with
  | zero =>
    intro v3 Z I L w_I bd_Z q_I cp_Z   li hm2 me
    exfalso
    omega
  | succ n ih =>
    intro v3 Z I L w_I bd_Z q_I cp_Z   li hm2 me
    unfold f_X12_layMoves_L12
    have rv3 := i_rng v3
    have rv2 := i_rng v2
    have rv1 := i_rng v1
    obtain ⟨li0, li1, li2⟩ := li
    have kv0_0 := kv0
    have kv0 := (q_I.1 _ _ kv0).1
    have t1 : 0 ≤ (I v0 0).toInt ∧ (I v0 0).toInt ≤ 24 := w_I.fld 12 0 kv0 (by decide)
    have huC_1 : jr Z v0 37 = some uC := (q_I.2.1 v0 12 37 kv0_0 (by decide) (by decide)).trans huC
    have luC : jlen Z uC = 75 := by obtain ⟨b9, e9, -, l9⟩ := sh_f w_I.1 kv0 (j := 37) (k := 14) (m := 75) rfl; cases huC_1.symm.trans e9; exact l9
    have kuC : jk Z uC 14 := by obtain ⟨b9, e9, k9, -⟩ := sh_f w_I.1 kv0 (j := 37) (k := 14) (m := 75) rfl; cases huC_1.symm.trans e9; exact k9
    have huE_1 : jr Z v0 38 = some uE := (q_I.2.1 v0 12 38 kv0_0 (by decide) (by decide)).trans huE
    have luE : jlen Z uE = 75 := by obtain ⟨b9, e9, -, l9⟩ := sh_f w_I.1 kv0 (j := 38) (k := 14) (m := 75) rfl; cases huE_1.symm.trans e9; exact l9
    have kuE : jk Z uE 14 := by obtain ⟨b9, e9, k9, -⟩ := sh_f w_I.1 kv0 (j := 38) (k := 14) (m := 75) rfl; cases huE_1.symm.trans e9; exact k9
    have xq_I := q_I.1
    refine ⟨fun c2 => ?_, fun c2 => ?_⟩
    · skip
      first | (have t3 : (3) < v3.toInt := (i_lt (show (3 : Int32).toInt = 3 from rfl) rfl).mp c2) | (have t3 : (3 : Int32).toInt < v3.toInt := (i_lt rfl rfl).mp c2) | skip
      intro x4 ex4
      have rx4 := i_rng x4
      first | (have tx4 : x4.toInt = v2.toInt + (1) := by (rw [ex4]; exact (i_add rfl (show (1 : Int32).toInt = 1 from rfl) (by omega) (by omega)))) | skip
      exact hK2 x4 Z I L w_I bd_Z q_I cp_Z   (by refine ⟨?_, ?_, ?_⟩; (omega); (omega); first | exact MVB.zero (by omega) | (rw [show 3 * (x4.toInt + 1) = 3 * (v2.toInt + 1) + v3.toInt - 1 by omega]; exact li2))  (by omega)
    · skip
      first | (have t5 : ¬ ((3) < v3.toInt) := (not_congr (i_lt (show (3 : Int32).toInt = 3 from rfl) rfl)).mp c2) | (have t5 : ¬ ((3 : Int32).toInt < v3.toInt) := (not_congr (i_lt rfl rfl)).mp c2) | skip
      intro x6 ex6
      have rx6 := i_rng x6
      first | (have tx6 : x6.toInt = ((((3) * (v2.toInt + (1))) + v3.toInt) - (1)) := by (rw [ex6]; exact (i_sub (i_add (i_mul (show (3 : Int32).toInt = 3 from rfl) (i_add rfl (show (1 : Int32).toInt = 1 from rfl) (by omega) (by omega)) (by omega) (by omega)) rfl (by omega) (by omega)) (show (1 : Int32).toInt = 1 from rfl) (by omega) (by omega)))) | (have tx6 : x6.toInt = ((((3 : Int32) * (v2 + (1 : Int32))) + v3) - (1 : Int32)).toInt := by rw [ex6])
      intro x7 ex7
      have rx7 := i_rng x7
      first | (have tx7 : x7.toInt = (v2.toInt + v3.toInt) := by (rw [ex7]; exact (i_add rfl rfl (by omega) (by omega)))) | (have tx7 : x7.toInt = (v2 + v3).toInt := by rw [ex7])
      intro b8 eb8
      obtain rfl : uC = b8 := Option.some.inj (huC_1.symm.trans eb8)
      have o9 : vp_in x6 75 := vi_of rfl (by omega) (by omega)
      refine ⟨o9, ?_⟩
      intro I10 eI10
      have t11 : (1000000000 : Int32).toInt = 1000000000 := rfl
      have w_I10 : WD Z I10 := by rw [eI10]; exact WD_putA w_I 12 37 kv0 huC_1 kuC rfl rfl (by decide) trivial
      have ao_I10_uC : ∀ q, q ≠ x6.toNatClampNeg → I10 uC q = I uC q := fun q hq => by rw [eI10]; exact jpI_off hq
      first | (have u12 : (I10 uC (x6.toNatClampNeg)).toInt = (1000000000) := by (rw [eI10, show jpI I uC x6.toNatClampNeg (1000000000 : Int32) uC x6.toNatClampNeg = (1000000000 : Int32) from jpI_at] <;> exact (show (1000000000 : Int32).toInt = 1000000000 from rfl))) | skip
      have f_I10 : FR [(12, 37)] Z I Z I10 := by rw [eI10]; exact FR_upA w_I.2.1 kv0 huC_1 kuC rfl rfl List.mem_cons_self
      have q_I10 : FR Ws_X12_layMoves Z0 I0 Z I10 := q_I.trans w0.1 w0.2.1 (f_I10.mono (by decide))
      have ao_I10_uE : I10 uE = I uE := f_I10.2.2.2 v0 12 38 uE kv0 huE_1 (by rw [kuE.2]; rfl) rfl (by decide)
      have u13 : (I10 v0 0).toInt = (I v0 0).toInt := by rw [f_I10.2.2.1 v0 12 0 kv0 (by decide) (by decide)]
      intro b14 eb14
      obtain ⟨x15, ex15, kb14, lb14⟩ := sh_f w_I10.1 kv0 (j := 11) (k := 14) (m := 6) rfl
      cases eb14.symm.trans ex15
      have o16 : vp_in v1 6 := vi_of rfl (by omega) (by omega)
      refine ⟨o16, ?_⟩
      have t17 : 0 ≤ (I10 b14 v1.toNatClampNeg).toInt ∧ (I10 b14 v1.toNatClampNeg).toInt ≤ 3 := w_I10.arr 12 11 kv0 eb14 kb14 rfl rfl _
      refine ⟨fun c18 => ?_, fun c18 => ?_⟩
      · skip
        first | (have t19 : (I10 b14 v1.toNatClampNeg).toInt < v3.toInt := (i_lt rfl rfl).mp c18) | (have t19 : (I10 b14 v1.toNatClampNeg).toInt < v3.toInt := (i_lt rfl rfl).mp c18) | skip
        unfold f_X12_layMoves_b122
        intro x20 ex20
        have rx20 := i_rng x20
        first | (have tx20 : x20.toInt = v3.toInt + (1) := by (rw [ex20]; exact (i_add rfl (show (1 : Int32).toInt = 1 from rfl) (by omega) (by omega)))) | skip
        exact ih x20 Z I10 L w_I10 bd_Z q_I10 cp_Z   (by refine ⟨?_, ?_, ?_⟩; (omega); (omega); first | (rw [show 3 * (v2.toInt + 1) + (1 : Int32).toInt - 1 = 3 * (v2.toInt + 1) by omega]; exact li2) | (have hn := i_nat (x := x6) rfl (by omega); exact MVB.step li2 x6.toNatClampNeg (by omega) ao_I10_uC (fun q _ => congrFun ao_I10_uE q) (by omega) (by omega))) (by omega) (by omega)
      · skip
        first | (have t21 : ¬ ((I10 b14 v1.toNatClampNeg).toInt < v3.toInt) := (not_congr (i_lt rfl rfl)).mp c18) | (have t21 : ¬ ((I10 b14 v1.toNatClampNeg).toInt < v3.toInt) := (not_congr (i_lt rfl rfl)).mp c18) | skip
        have t23 : 0 ≤ (I10 v0 0).toInt ∧ (I10 v0 0).toInt ≤ 24 := w_I10.fld 12 0 kv0 (by decide)
        refine ⟨fun c24 => ?_, fun c24 => ?_⟩
        · skip
          first | (have t25 : (I10 v0 0).toInt ≤ x7.toInt := (i_le rfl rfl).mp c24) | (have t25 : (I10 v0 0).toInt ≤ x7.toInt := (i_le rfl rfl).mp c24) | skip
          unfold f_X12_layMoves_b122
          intro x26 ex26
          have rx26 := i_rng x26
          first | (have tx26 : x26.toInt = v3.toInt + (1) := by (rw [ex26]; exact (i_add rfl (show (1 : Int32).toInt = 1 from rfl) (by omega) (by omega)))) | skip
          exact ih x26 Z I10 L w_I10 bd_Z q_I10 cp_Z   (by refine ⟨?_, ?_, ?_⟩; (omega); (omega); first | (rw [show 3 * (v2.toInt + 1) + (1 : Int32).toInt - 1 = 3 * (v2.toInt + 1) by omega]; exact li2) | (have hn := i_nat (x := x6) rfl (by omega); exact MVB.step li2 x6.toNatClampNeg (by omega) ao_I10_uC (fun q _ => congrFun ao_I10_uE q) (by omega) (by omega))) (by omega) (by omega)
        · skip
          first | (have t27 : ¬ ((I10 v0 0).toInt ≤ x7.toInt) := (not_congr (i_le rfl rfl)).mp c24) | (have t27 : ¬ ((I10 v0 0).toInt ≤ x7.toInt) := (not_congr (i_le rfl rfl)).mp c24) | skip
          have t29 : -1 ≤ (I10 v0 39).toInt ∧ (I10 v0 39).toInt ≤ 23 := w_I10.fld 12 39 kv0 (by decide)
          refine ⟨fun c30 => ?_, fun c30 => ?_⟩
          · skip
            first | (have t31 : x7.toInt = (I10 v0 39).toInt := (i_eq rfl rfl).mp c30) | (have t31 : x7.toInt = (I10 v0 39).toInt := (i_eq rfl rfl).mp c30) | skip
            unfold f_X12_layMoves_b122
            intro x32 ex32
            have rx32 := i_rng x32
            first | (have tx32 : x32.toInt = v3.toInt + (1) := by (rw [ex32]; exact (i_add rfl (show (1 : Int32).toInt = 1 from rfl) (by omega) (by omega)))) | skip
            exact ih x32 Z I10 L w_I10 bd_Z q_I10 cp_Z   (by refine ⟨?_, ?_, ?_⟩; (omega); (omega); first | (rw [show 3 * (v2.toInt + 1) + (1 : Int32).toInt - 1 = 3 * (v2.toInt + 1) by omega]; exact li2) | (have hn := i_nat (x := x6) rfl (by omega); exact MVB.step li2 x6.toNatClampNeg (by omega) ao_I10_uC (fun q _ => congrFun ao_I10_uE q) (by omega) (by omega))) (by omega) (by omega)
          · skip
            first | (have t33 : ¬ (x7.toInt = (I10 v0 39).toInt) := (not_congr (i_eq rfl rfl)).mp c30) | (have t33 : ¬ (x7.toInt = (I10 v0 39).toInt) := (not_congr (i_eq rfl rfl)).mp c30) | skip
            intro b34 eb34
            obtain ⟨x35, ex35, kb34, lb34⟩ := sh_f w_I10.1 kv0 (j := 13) (k := 14) (m := 6) rfl
            cases eb34.symm.trans ex35
            have o36 : vp_in v1 6 := vi_of rfl (by omega) (by omega)
            refine ⟨o36, ?_⟩
            refine s_X12_mainOf w_I10 v0 x7 kv0  (by omega) (fun r37 p38 => ?_)
            have rr37 := i_rng r37
            refine s_X12_has w_I10 (I10 b34 v1.toNatClampNeg) r37    (fun r39  => ?_)
            have rr39 := i_rng r39
            refine ⟨fun c40 => ?_, fun c40 => ?_⟩
            · skip
              first | (have t41 : r39.toInt = (0) := (i_eq rfl (show (0 : Int32).toInt = 0 from rfl)).mp c40) | (have t41 : r39.toInt = (0 : Int32).toInt := (i_eq rfl rfl).mp c40) | skip
              intro b42 eb42
              obtain rfl : uC = b42 := Option.some.inj (huC_1.symm.trans eb42)
              refine s_X12_costOf w_I10 bd_Z v0 v1 v2 x7 kv0  (by omega) (fun r43 Z47 I45 L46 w_I45 bd_Z47 f_I45 c_Z47 p44 => ?_)
              have q_I45 : FR Ws_X12_layMoves Z0 I0 Z47 I45 := q_I10.trans w0.1 w0.2.1 (f_I45.mono (by decide))
              have cp_Z47 : CP Z0 Z47 := cp_Z.trans q_I10.1 c_Z47
              have x_Z47 := f_I45.1
              have k48 := (f_I45.1 _ _ kv0).1
              have k49 := (f_I45.1 _ _ kuC).1
              have l50 := (f_I45.1 _ _ kuC).2.trans luC
              have k51 := (f_I45.1 _ _ kv0).1
              have e52 := (f_I45.2.1 v0 12 37 kv0 (by decide) (by decide)).trans huC_1
              have k53 := (f_I45.1 _ _ kuE).1
              have l54 := (f_I45.1 _ _ kuE).2.trans luE
              have k55 := (f_I45.1 _ _ kv0).1
              have e56 := (f_I45.2.1 v0 12 38 kv0 (by decide) (by decide)).trans huE_1
              have k57 := (f_I45.1 _ _ kb14).1
              have l58 := (f_I45.1 _ _ kb14).2.trans lb14
              have k59 := (f_I45.1 _ _ kv0).1
              have e60 := (f_I45.2.1 v0 12 11 kv0 (by decide) (by decide)).trans eb14
              have k61 := (f_I45.1 _ _ kb34).1
              have l62 := (f_I45.1 _ _ kb34).2.trans lb34
              have k63 := (f_I45.1 _ _ kv0).1
              have e64 := (f_I45.2.1 v0 12 13 kv0 (by decide) (by decide)).trans eb34
              have ao_I45_uC : ∀ q, q ≠ x6.toNatClampNeg → I45 uC q = I uC q := fun q hq => by rw [f_I45.2.2.2 v0 12 37 uC kv0 huC_1 (by rw [kuC.2]; rfl) rfl (by decide)]; exact ao_I10_uC q hq
              have ao_I45_uE : I45 uE = I uE := (f_I45.2.2.2 v0 12 38 uE kv0 huE_1 (by rw [kuE.2]; rfl) rfl (by decide)).trans ao_I10_uE
              have u65 : (I45 uC (x6.toNatClampNeg)).toInt = (I10 uC (x6.toNatClampNeg)).toInt := by rw [f_I45.2.2.2 v0 12 37 uC kv0 huC_1 (by rw [kuC.2]; rfl) rfl (by decide)]
              have u66 : (I45 v0 0).toInt = (I10 v0 0).toInt := by rw [f_I45.2.2.1 v0 12 0 kv0 (by decide) (by decide)]
              have u67 : (I45 v0 39).toInt = (I10 v0 39).toInt := by rw [f_I45.2.2.1 v0 12 39 kv0 (by decide) (by decide)]
              have rr43 := i_rng r43
              have o68 : vp_in x6 75 := vi_of rfl (by omega) (by omega)
              refine ⟨o68, ?_⟩
              intro I69 eI69
              have w_I69 : WD Z47 I69 := by rw [eI69]; exact WD_putA w_I45 12 37 k51 e52 k49 rfl rfl (by decide) trivial
              have ao_I69_uC : ∀ q, q ≠ x6.toNatClampNeg → I69 uC q = I uC q := fun q hq => by rw [eI69, jpI_off hq]; exact ao_I45_uC q hq
              first | (have u70 : (I69 uC (x6.toNatClampNeg)).toInt = r43.toInt := by (rw [eI69, show jpI I45 uC x6.toNatClampNeg r43 uC x6.toNatClampNeg = r43 from jpI_at] <;> exact rfl)) | skip
              have f_I69 : FR [(12, 37)] Z47 I45 Z47 I69 := by rw [eI69]; exact FR_upA w_I45.2.1 k51 e52 k49 rfl rfl List.mem_cons_self
              have q_I69 : FR Ws_X12_layMoves Z0 I0 Z47 I69 := q_I45.trans w0.1 w0.2.1 (f_I69.mono (by decide))
              have ao_I69_uE : I69 uE = I uE := (f_I69.2.2.2 v0 12 38 uE k55 e56 (by rw [k53.2]; rfl) rfl (by decide)).trans ao_I45_uE
              have u71 : (I69 v0 0).toInt = (I45 v0 0).toInt := by rw [f_I69.2.2.1 v0 12 0 k48 (by decide) (by decide)]
              have u72 : (I69 v0 39).toInt = (I45 v0 39).toInt := by rw [f_I69.2.2.1 v0 12 39 k48 (by decide) (by decide)]
              intro b73 eb73
              obtain rfl : uE = b73 := Option.some.inj (e56.symm.trans eb73)
              refine s_X12_effortOf w_I69 v0 v1 v2 x7 k48  (by omega) (fun r74 p75 => ?_)
              have rr74 := i_rng r74
              have o76 : vp_in x6 75 := vi_of rfl (by omega) (by omega)
              refine ⟨o76, ?_⟩
              intro I77 eI77
              have w_I77 : WD Z47 I77 := by rw [eI77]; exact WD_putA w_I69 12 38 k55 e56 k53 rfl rfl (by decide) trivial
              have ao_I77_uE : ∀ q, q ≠ x6.toNatClampNeg → I77 uE q = I uE q := fun q hq => by rw [eI77, jpI_off hq, ao_I69_uE]
              first | (have u78 : (I77 uE (x6.toNatClampNeg)).toInt = r74.toInt := by (rw [eI77, show jpI I69 uE x6.toNatClampNeg r74 uE x6.toNatClampNeg = r74 from jpI_at] <;> exact rfl)) | skip
              have f_I77 : FR [(12, 38)] Z47 I69 Z47 I77 := by rw [eI77]; exact FR_upA w_I69.2.1 k55 e56 k53 rfl rfl List.mem_cons_self
              have q_I77 : FR Ws_X12_layMoves Z0 I0 Z47 I77 := q_I69.trans w0.1 w0.2.1 (f_I77.mono (by decide))
              have ao_I77_uC : ∀ q, q ≠ x6.toNatClampNeg → I77 uC q = I uC q := fun q hq => by rw [f_I77.2.2.2 v0 12 37 uC k51 e52 (by rw [k49.2]; rfl) rfl (by decide)]; exact ao_I69_uC q hq
              have u79 : (I77 uC (x6.toNatClampNeg)).toInt = (I69 uC (x6.toNatClampNeg)).toInt := by rw [f_I77.2.2.2 v0 12 37 uC k51 e52 (by rw [k49.2]; rfl) rfl (by decide)]
              have u80 : (I77 v0 0).toInt = (I69 v0 0).toInt := by rw [f_I77.2.2.1 v0 12 0 k48 (by decide) (by decide)]
              have u81 : (I77 v0 39).toInt = (I69 v0 39).toInt := by rw [f_I77.2.2.1 v0 12 39 k48 (by decide) (by decide)]
              unfold f_X12_layMoves_b122
              intro x82 ex82
              have rx82 := i_rng x82
              first | (have tx82 : x82.toInt = v3.toInt + (1) := by (rw [ex82]; exact (i_add rfl (show (1 : Int32).toInt = 1 from rfl) (by omega) (by omega)))) | skip
              exact ih x82 Z47 I77 L46 w_I77 bd_Z47 q_I77 cp_Z47   (by refine ⟨?_, ?_, ?_⟩; (omega); (omega); first | (rw [show 3 * (v2.toInt + 1) + (1 : Int32).toInt - 1 = 3 * (v2.toInt + 1) by omega]; exact li2) | (have hn := i_nat (x := x6) rfl (by omega); exact MVB.step li2 x6.toNatClampNeg (by omega) ao_I77_uC ao_I77_uE (by omega) (by omega))) (by omega) (by omega)
            · skip
              first | (have t83 : ¬ (r39.toInt = (0)) := (not_congr (i_eq rfl (show (0 : Int32).toInt = 0 from rfl))).mp c40) | (have t83 : ¬ (r39.toInt = (0 : Int32).toInt) := (not_congr (i_eq rfl rfl)).mp c40) | skip
              unfold f_X12_layMoves_b122
              intro x84 ex84
              have rx84 := i_rng x84
              first | (have tx84 : x84.toInt = v3.toInt + (1) := by (rw [ex84]; exact (i_add rfl (show (1 : Int32).toInt = 1 from rfl) (by omega) (by omega)))) | skip
              exact ih x84 Z I10 L w_I10 bd_Z q_I10 cp_Z   (by refine ⟨?_, ?_, ?_⟩; (omega); (omega); first | (rw [show 3 * (v2.toInt + 1) + (1 : Int32).toInt - 1 = 3 * (v2.toInt + 1) by omega]; exact li2) | (have hn := i_nat (x := x6) rfl (by omega); exact MVB.step li2 x6.toNatClampNeg (by omega) ao_I10_uC (fun q _ => congrFun ao_I10_uE q) (by omega) (by omega))) (by omega) (by omega)
set_option maxHeartbeats 4000000 in
set_option maxRecDepth 100000 in
theorem l_X12_layMoves_L2 {B : Nat × Nat} {T : Nat} {Z0 : jZ} {I0 : jI} {Q : jZ → jI → jL → Prop} (w0 : WD Z0 I0) (v0 : Nat) (v1 : Int32) (kv0 : jk Z0 v0 12) (uC : Nat) (huC : jr Z0 v0 37 = some uC) (uE : Nat) (huE : jr Z0 v0 38 = some uE) (p0 : 0 ≤ v1.toInt ∧ v1.toInt ≤ 5) (hQ : ∀  (Z' : jZ) (I' : jI) (L' : jL), WD Z' I' → BUD B Z' T → FR Ws_X12_layMoves Z0 I0 Z' I' → CP Z0 Z' → MVB (3 * ((I0 v0 0).toInt + 1)) (I0 v0 0).toInt (I' uC) (I' uE) → Q Z' I' L') : ∀ (n : Nat) (v2 : Int32) (Z : jZ) (I : jI) (L : jL), WD Z I → BUD B Z T → FR Ws_X12_layMoves Z0 I0 Z I → CP Z0 Z →   ((-1 ≤ v2.toInt ∧ v2.toInt ≤ (I0 v0 0).toInt ∧ (I0 v0 0).toInt ≤ 24) ∧ (I v0 0).toInt = (I0 v0 0).toInt ∧ MVB (3 * (v2.toInt + 1)) (I0 v0 0).toInt (I uC) (I uE)) → 24 - v2.toInt < (n : Int) → f_X12_layMoves_L2 B  Q n v0 v1 v2 Z I L := by
  intro n
  induction n with
  | zero =>
    intro v2 Z I L w_I bd_Z q_I cp_Z   li  me
    exfalso
    omega
  | succ n ih =>
    intro v2 Z I L w_I bd_Z q_I cp_Z   li  me
    unfold f_X12_layMoves_L2
    have rv2 := i_rng v2
    have rv1 := i_rng v1
    obtain ⟨li0, li1, li2⟩ := li
    have kv0_0 := kv0
    have kv0 := (q_I.1 _ _ kv0).1
    have t85 : 0 ≤ (I v0 0).toInt ∧ (I v0 0).toInt ≤ 24 := w_I.fld 12 0 kv0 (by decide)
    have huC_1 : jr Z v0 37 = some uC := (q_I.2.1 v0 12 37 kv0_0 (by decide) (by decide)).trans huC
    have luC : jlen Z uC = 75 := by obtain ⟨b9, e9, -, l9⟩ := sh_f w_I.1 kv0 (j := 37) (k := 14) (m := 75) rfl; cases huC_1.symm.trans e9; exact l9
    have kuC : jk Z uC 14 := by obtain ⟨b9, e9, k9, -⟩ := sh_f w_I.1 kv0 (j := 37) (k := 14) (m := 75) rfl; cases huC_1.symm.trans e9; exact k9
    have huE_1 : jr Z v0 38 = some uE := (q_I.2.1 v0 12 38 kv0_0 (by decide) (by decide)).trans huE
    have luE : jlen Z uE = 75 := by obtain ⟨b9, e9, -, l9⟩ := sh_f w_I.1 kv0 (j := 38) (k := 14) (m := 75) rfl; cases huE_1.symm.trans e9; exact l9
    have kuE : jk Z uE 14 := by obtain ⟨b9, e9, k9, -⟩ := sh_f w_I.1 kv0 (j := 38) (k := 14) (m := 75) rfl; cases huE_1.symm.trans e9; exact k9
    have xq_I := q_I.1
    have t87 : 0 ≤ (I v0 0).toInt ∧ (I v0 0).toInt ≤ 24 := w_I.fld 12 0 kv0 (by decide)
    refine ⟨fun c88 => ?_, fun c88 => ?_⟩
    · skip
      first | (have t89 : (I v0 0).toInt ≤ v2.toInt := (i_le rfl rfl).mp c88) | (have t89 : (I v0 0).toInt ≤ v2.toInt := (i_le rfl rfl).mp c88) | skip
      exact hQ  Z I L w_I bd_Z q_I cp_Z (by have e9 : v2.toInt = (I0 v0 0).toInt := (by omega); rw [← e9]; rw [← e9] at li2; exact li2)
    · skip
      first | (have t90 : ¬ ((I v0 0).toInt ≤ v2.toInt) := (not_congr (i_le rfl rfl)).mp c88) | (have t90 : ¬ ((I v0 0).toInt ≤ v2.toInt) := (not_congr (i_le rfl rfl)).mp c88) | skip
      have t91 : (1 : Int32).toInt = 1 := rfl
      exact ⟨(4 - (1 : Int32).toInt).toNat + 1, l_X12_layMoves_L12 w0 v0 v1 kv0_0 uC huC uE huE p0 v2  hQ ih  _ (1 : Int32) Z I L w_I bd_Z q_I cp_Z   (by refine ⟨?_, ?_, ?_⟩; (omega); (omega); first | (rw [show 3 * (v2.toInt + 1) + (1 : Int32).toInt - 1 = 3 * (v2.toInt + 1) by omega]; exact li2) | (have hn := i_nat (x := 0) rfl (by omega); exact MVB.step li2 0 (by omega) (fun _ _ => rfl) (fun _ _ => rfl) (by omega) (by omega))) (by omega) (by omega)⟩
set_option maxHeartbeats 4000000 in
set_option maxRecDepth 100000 in
theorem s_X12_layMoves {B : Nat × Nat} {T : Nat} {Z : jZ} {I : jI} {L : jL} (w_I : WD Z I) (bd_Z : BUD B Z T) (v0 : Nat) (v1 : Int32) (kv0 : jk Z v0 12) (uC : Nat) (huC : jr Z v0 37 = some uC) (uE : Nat) (huE : jr Z v0 38 = some uE) (p0 : 0 ≤ v1.toInt ∧ v1.toInt ≤ 5) {Q : jZ → jI → jL → Prop} (hQ : ∀  (Z' : jZ) (I' : jI) (L' : jL), WD Z' I' → BUD B Z' T → FR Ws_X12_layMoves Z I Z' I' → CP Z Z' → MVB (3 * ((I v0 0).toInt + 1)) (I v0 0).toInt (I' uC) (I' uE) → Q Z' I' L') : f_X12_layMoves B v0 v1 Z I L Q := by
  unfold f_X12_layMoves
  have q_I : FR Ws_X12_layMoves Z I Z I := FR.rf
  have cp_Z : CP Z Z := CP.rf
  have rv1 := i_rng v1
  have t92 : 0 ≤ (I v0 0).toInt ∧ (I v0 0).toInt ≤ 24 := w_I.fld 12 0 kv0 (by decide)
  have luC : jlen Z uC = 75 := by obtain ⟨b9, e9, -, l9⟩ := sh_f w_I.1 kv0 (j := 37) (k := 14) (m := 75) rfl; cases huC.symm.trans e9; exact l9
  have kuC : jk Z uC 14 := by obtain ⟨b9, e9, k9, -⟩ := sh_f w_I.1 kv0 (j := 37) (k := 14) (m := 75) rfl; cases huC.symm.trans e9; exact k9
  have luE : jlen Z uE = 75 := by obtain ⟨b9, e9, -, l9⟩ := sh_f w_I.1 kv0 (j := 38) (k := 14) (m := 75) rfl; cases huE.symm.trans e9; exact l9
  have kuE : jk Z uE 14 := by obtain ⟨b9, e9, k9, -⟩ := sh_f w_I.1 kv0 (j := 38) (k := 14) (m := 75) rfl; cases huE.symm.trans e9; exact k9
  have t93 : (-1 : Int32).toInt = -1 := rfl
  exact ⟨(24 - (-1 : Int32).toInt).toNat + 1, l_X12_layMoves_L2 w_I v0 v1 kv0 uC huC uE huE p0   hQ   _ (-1 : Int32) Z I L w_I bd_Z q_I cp_Z   (by refine ⟨?_, ?_, ?_⟩; (omega); (omega); first | exact MVB.zero (by omega) | (rw [show 3 * ((-1 : Int32).toInt + 1) = 3 * (v2.toInt + 1) + v3.toInt - 1 by omega]; exact li2))  (by omega)⟩
