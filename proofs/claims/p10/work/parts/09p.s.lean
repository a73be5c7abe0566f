def Ws_X12_findByEffort : List (Nat × Nat) := [(12, 40)]
set_option maxHeartbeats 4000000 in
set_option maxRecDepth 100000 in
theorem l_X12_findByEffort_L45 {Z : jZ} {I0 : jI} {Q : jI → jL → Prop} (w0 : WD Z I0) (v0 : Nat) (v1 : Int32) (kv0 : jk Z v0 12) (uC : Nat) (huC : jr Z v0 37 = some uC) (uE : Nat) (huE : jr Z v0 38 = some uE) (uB : Nat) (huB : jr Z v0 40 = some uB) (p0 : MVB (3 * ((I0 v0 0).toInt + 1)) (I0 v0 0).toInt (I0 uC) (I0 uE)) (p1 : 0 ≤ v1.toInt ∧ v1.toInt ≤ 999) (v2 : Int32) (v3 : Int32) (hQ : ∀  (I' : jI) (L' : jL), WD Z I' → FR Ws_X12_findByEffort Z I0 Z I' → DPR (I0 v0 0).toInt v1.toInt (I0 uC) (I0 uE) (I' uB) (-1) 0 → Q I' L') {K7 : Nat → Int32 → Int32 → jI → jL → Prop} {N7 : Int} (hK7 : ∀ (v2 : Int32) (I : jI) (L : jL), WD Z I → FR Ws_X12_findByEffort Z I0 Z I →   ((-2 ≤ v2.toInt ∧ (I0 v0 0).toInt ≤ 24 ∧ v2.toInt < (I0 v0 0).toInt) ∧ DPR (I0 v0 0).toInt v1.toInt (I0 uC) (I0 uE) (I uB) (v2.toInt + 1) 0) → v2.toInt + 2 < N7 → K7 v0 v1 v2 I L) {K14 : Nat → Int32 → Int32 → Int32 → jI → jL → Prop} {N14 : Int} (hK14 : ∀ (v3 : Int32) (I : jI) (L : jL), WD Z I → FR Ws_X12_findByEffort Z I0 Z I →   ((-1 ≤ v2.toInt ∧ (I0 v0 0).toInt ≤ 24 ∧ v2.toInt < (I0 v0 0).toInt ∧ 0 ≤ v3.toInt ∧ v3.toInt ≤ v1.toInt + 1) ∧ DPR (I0 v0 0).toInt v1.toInt (I0 uC) (I0 uE) (I uB) (v2.toInt + 1) v3.toInt) → v2.toInt + 2 ≤ N7 → 1000 - v3.toInt < N14 → K14 v0 v1 v2 v3 I L) : ∀ (n : Nat) (v4 : Int32) (v5 : Int32) (I : jI) (L : jL), WD Z I → FR Ws_X12_findByEffort Z I0 Z I →   ((-1 ≤ v2.toInt ∧ (I0 v0 0).toInt ≤ 24 ∧ v2.toInt < (I0 v0 0).toInt ∧ 0 ≤ v3.toInt ∧ v3.toInt ≤ v1.toInt ∧ 1 ≤ v5.toInt ∧ v5.toInt ≤ 4) ∧ DPR (I0 v0 0).toInt v1.toInt (I0 uC) (I0 uE) (I uB) (v2.toInt + 1) v3.toInt ∧ DP1 (I0 v0 0).toInt (I0 uC) (I0 uE) (I uB) (v2.toInt + 1).toNat v3.toNatClampNeg v4.toInt) → v2.toInt + 2 ≤ N7 → 1000 - v3.toInt ≤ N14 → 4 - v5.toInt < (n : Int) → f_X12_findByEffort_L45 K7 K14 Z Q n v0 v1 v2 v3 v4 v5 I L := by
  intro n
  induction n with
  | zero =>
    intro v4 v5 I L w_I q_I   li hm7 hm14 me
    exfalso
    omega
  | succ n ih =>
    intro v4 v5 I L w_I q_I   li hm7 hm14 me
    unfold f_X12_findByEffort_L45
    have rv4 := i_rng v4
    have rv5 := i_rng v5
    have rv2 := i_rng v2
    have rv3 := i_rng v3
    have rv1 := i_rng v1
    obtain ⟨li0, li1, li2⟩ := li
    have t1 : 0 ≤ (I v0 0).toInt ∧ (I v0 0).toInt ≤ 24 := w_I.fld 12 0 kv0 (by decide)
    have luC : jlen Z uC = 75 := by obtain ⟨b9, e9, -, l9⟩ := sh_f w_I.1 kv0 (j := 37) (k := 14) (m := 75) rfl; cases huC.symm.trans e9; exact l9
    have kuC : jk Z uC 14 := by obtain ⟨b9, e9, k9, -⟩ := sh_f w_I.1 kv0 (j := 37) (k := 14) (m := 75) rfl; cases huC.symm.trans e9; exact k9
    have luE : jlen Z uE = 75 := by obtain ⟨b9, e9, -, l9⟩ := sh_f w_I.1 kv0 (j := 38) (k := 14) (m := 75) rfl; cases huE.symm.trans e9; exact l9
    have kuE : jk Z uE 14 := by obtain ⟨b9, e9, k9, -⟩ := sh_f w_I.1 kv0 (j := 38) (k := 14) (m := 75) rfl; cases huE.symm.trans e9; exact k9
    have luB : jlen Z uB = 25000 := by obtain ⟨b9, e9, -, l9⟩ := sh_f w_I.1 kv0 (j := 40) (k := 14) (m := 25000) rfl; cases huB.symm.trans e9; exact l9
    have kuB : jk Z uB 14 := by obtain ⟨b9, e9, k9, -⟩ := sh_f w_I.1 kv0 (j := 40) (k := 14) (m := 25000) rfl; cases huB.symm.trans e9; exact k9
    have e0 : (I v0 0).toInt = (I0 v0 0).toInt := by rw [q_I.2.2.1 v0 12 0 kv0 (by decide) (by decide)]
    have ec : I uC = I0 uC := q_I.2.2.2 v0 12 37 uC kv0 huC (by rw [kuC.2]; rfl) rfl (by decide)
    have ee : I uE = I0 uE := q_I.2.2.2 v0 12 38 uE kv0 huE (by rw [kuE.2]; rfl) rfl (by decide)
    have mv : MVB (3 * ((I0 v0 0).toInt + 1)) (I0 v0 0).toInt (I uC) (I uE) := by rw [ec, ee]; exact p0
    refine ⟨fun c2 => ?_, fun c2 => ?_⟩
    · skip
      first | (have t3 : (3) < v5.toInt := (i_lt (show (3 : Int32).toInt = 3 from rfl) rfl).mp c2) | (have t3 : (3 : Int32).toInt < v5.toInt := (i_lt rfl rfl).mp c2) | skip
      intro b4 eb4
      obtain rfl : uB = b4 := Option.some.inj (huB.symm.trans eb4)
      have o5 : vp_in (((1000 : Int32) * (v2 + (1 : Int32))) + v3) 25000 := vi_of (i_add (i_mul (show (1000 : Int32).toInt = 1000 from rfl) (i_add rfl (show (1 : Int32).toInt = 1 from rfl) (by omega) (by omega)) (by omega) (by omega)) rfl (by omega) (by omega)) (by omega) (by omega)
      refine ⟨o5, ?_⟩
      intro I6 eI6
      have w_I6 : WD Z I6 := by rw [eI6]; exact WD_putA w_I 12 40 kv0 huB kuB rfl rfl (by decide) trivial
      have ao_I6_uB : ∀ q, q ≠ (((1000 : Int32) * (v2 + (1 : Int32))) + v3).toNatClampNeg → I6 uB q = I uB q := fun q hq => by rw [eI6]; exact jpI_off hq
      first | (have u7 : (I6 uB ((((1000 : Int32) * (v2 + (1 : Int32))) + v3).toNatClampNeg)).toInt = v4.toInt := by (rw [eI6, show jpI I uB (((1000 : Int32) * (v2 + (1 : Int32))) + v3).toNatClampNeg v4 uB (((1000 : Int32) * (v2 + (1 : Int32))) + v3).toNatClampNeg = v4 from jpI_at] <;> exact rfl)) | skip
      have f_I6 : FR [(12, 40)] Z I Z I6 := by rw [eI6]; exact FR_upA w_I.2.1 kv0 huB kuB rfl rfl List.mem_cons_self
      have q_I6 : FR Ws_X12_findByEffort Z I0 Z I6 := q_I.trans w0.1 w0.2.1 (f_I6.mono (by decide))
      have u8 : (I6 v0 0).toInt = (I v0 0).toInt := by rw [f_I6.2.2.1 v0 12 0 kv0 (by decide) (by decide)]
      intro x9 ex9
      have rx9 := i_rng x9
      first | (have tx9 : x9.toInt = v3.toInt + (1) := by (rw [ex9]; exact (i_add rfl (show (1 : Int32).toInt = 1 from rfl) (by omega) (by omega)))) | skip
      exact hK14 x9 I6 L w_I6 q_I6   (by refine ⟨?_, ?_⟩; (omega); first | exact li1 | (have h3 := i_nat (x := v3) rfl (by omega); have h4 := i_nat (x := (((1000 : Int32) * (v2 + (1 : Int32))) + v3)) (i_add (i_mul (show (1000 : Int32).toInt = 1000 from rfl) (i_add rfl (show (1 : Int32).toInt = 1 from rfl) (by omega) (by omega)) (by omega) (by omega)) rfl (by omega) (by omega)) (by omega); exact DPR.step li1 li2 (by omega) (by omega) (by omega) (by omega) (by omega) ao_I6_uB (by assumption) (by omega))) (by omega) (by omega)
    · skip
      first | (have t10 : ¬ ((3) < v5.toInt) := (not_congr (i_lt (show (3 : Int32).toInt = 3 from rfl) rfl)).mp c2) | (have t10 : ¬ ((3 : Int32).toInt < v5.toInt) := (not_congr (i_lt rfl rfl)).mp c2) | skip
      intro x11 ex11
      have rx11 := i_rng x11
      first | (have tx11 : x11.toInt = ((((3) * (v2.toInt + (1))) + v5.toInt) - (1)) := by (rw [ex11]; exact (i_sub (i_add (i_mul (show (3 : Int32).toInt = 3 from rfl) (i_add rfl (show (1 : Int32).toInt = 1 from rfl) (by omega) (by omega)) (by omega) (by omega)) rfl (by omega) (by omega)) (show (1 : Int32).toInt = 1 from rfl) (by omega) (by omega)))) | (have tx11 : x11.toInt = ((((3 : Int32) * (v2 + (1 : Int32))) + v5) - (1 : Int32)).toInt := by rw [ex11])
      intro b12 eb12
      obtain rfl : uC = b12 := Option.some.inj (huC.symm.trans eb12)
      have hm := MVB.at mv (x := x11) rfl (by omega) (by omega)
      have o13 : vp_in x11 75 := vi_of rfl (by omega) (by omega)
      refine ⟨o13, ?_⟩
      refine ⟨fun c14 => ?_, fun c14 => ?_⟩
      · skip
        first | (have t15 : (I uC x11.toNatClampNeg).toInt = (1000000000) := (i_eq rfl (show (1000000000 : Int32).toInt = 1000000000 from rfl)).mp c14) | (have t15 : (I uC x11.toNatClampNeg).toInt = (1000000000 : Int32).toInt := (i_eq rfl rfl).mp c14) | skip
        unfold f_X12_findByEffort_b147
        intro x16 ex16
        have rx16 := i_rng x16
        first | (have tx16 : x16.toInt = v5.toInt + (1) := by (rw [ex16]; exact (i_add rfl (show (1 : Int32).toInt = 1 from rfl) (by omega) (by omega)))) | skip
        exact ih v4 x16 I L w_I q_I   (by refine ⟨?_, ?_, ?_⟩; (omega); (exact li1); first | exact li2 | (have h3 := i_nat (x := v3) rfl (by omega); first | exact Or.inl (by omega) | exact Or.inr ⟨by omega, by omega, Or.inl ⟨by omega, by omega⟩⟩ | (rw [← ec, ← ee] at li2 ⊢; exact DP1.cand li2 (k := x11) (far := v5.toInt) (by omega) (by omega) (by omega) (by omega) (by omega) hsp (by omega) (by omega) (by omega) (by omega)))) (by omega) (by omega) (by omega)
      · skip
        first | (have t17 : ¬ ((I uC x11.toNatClampNeg).toInt = (1000000000)) := (not_congr (i_eq rfl (show (1000000000 : Int32).toInt = 1000000000 from rfl))).mp c14) | (have t17 : ¬ ((I uC x11.toNatClampNeg).toInt = (1000000000 : Int32).toInt) := (not_congr (i_eq rfl rfl)).mp c14) | skip
        intro b18 eb18
        obtain rfl : uE = b18 := Option.some.inj (huE.symm.trans eb18)
        have o19 : vp_in x11 75 := vi_of rfl (by omega) (by omega)
        refine ⟨o19, ?_⟩
        refine ⟨fun c20 => ?_, fun c20 => ?_⟩
        · skip
          first | (have t21 : (I uE x11.toNatClampNeg).toInt ≤ v3.toInt := (i_le rfl rfl).mp c20) | (have t21 : (I uE x11.toNatClampNeg).toInt ≤ v3.toInt := (i_le rfl rfl).mp c20) | skip
          intro b22 eb22
          obtain rfl : uB = b22 := Option.some.inj (huB.symm.trans eb22)
          intro b23 eb23
          obtain rfl : uE = b23 := Option.some.inj (huE.symm.trans eb23)
          have o24 : vp_in x11 75 := vi_of rfl (by omega) (by omega)
          refine ⟨o24, ?_⟩
          have hd := DPR.at li1 (x := ((((1000 : Int32) * ((v2 + v5) + (1 : Int32))) + v3) - (I uE x11.toNatClampNeg))) (i_sub (i_add (i_mul (show (1000 : Int32).toInt = 1000 from rfl) (i_add (i_add rfl rfl (by omega) (by omega)) (show (1 : Int32).toInt = 1 from rfl) (by omega) (by omega)) (by omega) (by omega)) rfl (by omega) (by omega)) rfl (by omega) (by omega)) (v2.toInt + v5.toInt + 1) (v3.toInt - (I uE x11.toNatClampNeg).toInt) (by omega) (by omega) (by omega)
          have hsp : ((((1000 : Int32) * ((v2 + v5) + (1 : Int32))) + v3) - (I uE x11.toNatClampNeg)).toInt = ((((1000) * ((v2.toInt + v5.toInt) + (1))) + v3.toInt) - (I uE x11.toNatClampNeg).toInt) := (i_sub (i_add (i_mul (show (1000 : Int32).toInt = 1000 from rfl) (i_add (i_add rfl rfl (by omega) (by omega)) (show (1 : Int32).toInt = 1 from rfl) (by omega) (by omega)) (by omega) (by omega)) rfl (by omega) (by omega)) rfl (by omega) (by omega))
          have o25 : vp_in ((((1000 : Int32) * ((v2 + v5) + (1 : Int32))) + v3) - (I uE x11.toNatClampNeg)) 25000 := vi_of (i_sub (i_add (i_mul (show (1000 : Int32).toInt = 1000 from rfl) (i_add (i_add rfl rfl (by omega) (by omega)) (show (1 : Int32).toInt = 1 from rfl) (by omega) (by omega)) (by omega) (by omega)) rfl (by omega) (by omega)) rfl (by omega) (by omega)) (by omega) (by omega)
          refine ⟨o25, ?_⟩
          intro x26 ex26
          have rx26 := i_rng x26
          first | (have tx26 : x26.toInt = (I uB ((((1000 : Int32) * ((v2 + v5) + (1 : Int32))) + v3) - (I uE x11.toNatClampNeg)).toNatClampNeg).toInt := by (rw [ex26]; exact rfl)) | (have tx26 : x26.toInt = (I uB ((((1000 : Int32) * ((v2 + v5) + (1 : Int32))) + v3) - (I uE x11.toNatClampNeg)).toNatClampNeg).toInt := by rw [ex26])
          refine ⟨fun c27 => ?_, fun c27 => ?_⟩
          · skip
            first | (have t28 : x26.toInt = (1000000000) := (i_eq rfl (show (1000000000 : Int32).toInt = 1000000000 from rfl)).mp c27) | (have t28 : x26.toInt = (1000000000 : Int32).toInt := (i_eq rfl rfl).mp c27) | skip
            unfold f_X12_findByEffort_b147
            intro x29 ex29
            have rx29 := i_rng x29
            first | (have tx29 : x29.toInt = v5.toInt + (1) := by (rw [ex29]; exact (i_add rfl (show (1 : Int32).toInt = 1 from rfl) (by omega) (by omega)))) | skip
            exact ih v4 x29 I L w_I q_I   (by refine ⟨?_, ?_, ?_⟩; (omega); (exact li1); first | exact li2 | (have h3 := i_nat (x := v3) rfl (by omega); first | exact Or.inl (by omega) | exact Or.inr ⟨by omega, by omega, Or.inl ⟨by omega, by omega⟩⟩ | (rw [← ec, ← ee] at li2 ⊢; exact DP1.cand li2 (k := x11) (far := v5.toInt) (by omega) (by omega) (by omega) (by omega) (by omega) hsp (by omega) (by omega) (by omega) (by omega)))) (by omega) (by omega) (by omega)
          · skip
            first | (have t30 : ¬ (x26.toInt = (1000000000)) := (not_congr (i_eq rfl (show (1000000000 : Int32).toInt = 1000000000 from rfl))).mp c27) | (have t30 : ¬ (x26.toInt = (1000000000 : Int32).toInt) := (not_congr (i_eq rfl rfl)).mp c27) | skip
            intro b31 eb31
            obtain rfl : uC = b31 := Option.some.inj (huC.symm.trans eb31)
            have o32 : vp_in x11 75 := vi_of rfl (by omega) (by omega)
            refine ⟨o32, ?_⟩
            intro x33 ex33
            have rx33 := i_rng x33
            first | (have tx33 : x33.toInt = (min v4.toInt ((x26.toInt + ((100) * (I uC x11.toNatClampNeg).toInt)) + (1))) := by (rw [ex33]; exact (i_min rfl (i_add (i_add rfl (i_mul (show (100 : Int32).toInt = 100 from rfl) rfl (by omega) (by omega)) (by omega) (by omega)) (show (1 : Int32).toInt = 1 from rfl) (by omega) (by omega))))) | (have tx33 : x33.toInt = (if ((x26 + ((100 : Int32) * (I uC x11.toNatClampNeg))) + (1 : Int32)) < v4 then ((x26 + ((100 : Int32) * (I uC x11.toNatClampNeg))) + (1 : Int32)) else v4).toInt := by rw [ex33])
            unfold f_X12_findByEffort_b147
            intro x34 ex34
            have rx34 := i_rng x34
            first | (have tx34 : x34.toInt = v5.toInt + (1) := by (rw [ex34]; exact (i_add rfl (show (1 : Int32).toInt = 1 from rfl) (by omega) (by omega)))) | skip
            exact ih x33 x34 I L w_I q_I   (by refine ⟨?_, ?_, ?_⟩; (omega); (exact li1); first | exact li2 | (have h3 := i_nat (x := v3) rfl (by omega); first | exact Or.inl (by omega) | exact Or.inr ⟨by omega, by omega, Or.inl ⟨by omega, by omega⟩⟩ | (rw [← ec, ← ee] at li2 ⊢; exact DP1.cand li2 (k := x11) (far := v5.toInt) (by omega) (by omega) (by omega) (by omega) (by omega) hsp (by omega) (by omega) (by omega) (by omega)))) (by omega) (by omega) (by omega)
        · skip
          first | (have t35 : ¬ ((I uE x11.toNatClampNeg).toInt ≤ v3.toInt) := (not_congr (i_le rfl rfl)).mp c20) | (have t35 : ¬ ((I uE x11.toNatClampNeg).toInt ≤ v3.toInt) := (not_congr (i_le rfl rfl)).mp c20) | skip
          unfold f_X12_findByEffort_b147
          intro x36 ex36
          have rx36 := i_rng x36
          first | (have tx36 : x36.toInt = v5.toInt + (1) := by (rw [ex36]; exact (i_add rfl (show (1 : Int32).toInt = 1 from rfl) (by omega) (by omega)))) | skip
          exact ih v4 x36 I L w_I q_I   (by refine ⟨?_, ?_, ?_⟩; (omega); (exact li1); first | exact li2 | (have h3 := i_nat (x := v3) rfl (by omega); first | exact Or.inl (by omega) | exact Or.inr ⟨by omega, by omega, Or.inl ⟨by omega, by omega⟩⟩ | (rw [← ec, ← ee] at li2 ⊢; exact DP1.cand li2 (k := x11) (far := v5.toInt) (by omega) (by omega) (by omega) (by omega) (by omega) hsp (by omega) (by omega) (by omega) (by omega)))) (by omega) (by omega) (by omega)
set_option maxHeartbeats 4000000 in
set_option maxRecDepth 100000 in
theorem l_X12_findByEffort_L14 {Z : jZ} {I0 : jI} {Q : jI → jL → Prop} (w0 : WD Z I0) (v0 : Nat) (v1 : Int32) (kv0 : jk Z v0 12) (uC : Nat) (huC : jr Z v0 37 = some uC) (uE : Nat) (huE : jr Z v0 38 = some uE) (uB : Nat) (huB : jr Z v0 40 = some uB) (p0 : MVB (3 * ((I0 v0 0).toInt + 1)) (I0 v0 0).toInt (I0 uC) (I0 uE)) (p1 : 0 ≤ v1.toInt ∧ v1.toInt ≤ 999) (v2 : Int32) (hQ : ∀  (I' : jI) (L' : jL), WD Z I' → FR Ws_X12_findByEffort Z I0 Z I' → DPR (I0 v0 0).toInt v1.toInt (I0 uC) (I0 uE) (I' uB) (-1) 0 → Q I' L') {K7 : Nat → Int32 → Int32 → jI → jL → Prop} {N7 : Int} (hK7 : ∀ (v2 : Int32) (I : jI) (L : jL), WD Z I → FR Ws_X12_findByEffort Z I0 Z I →   ((-2 ≤ v2.toInt ∧ (I0 v0 0).toInt ≤ 24 ∧ v2.toInt < (I0 v0 0).toInt) ∧ DPR (I0 v0 0).toInt v1.toInt (I0 uC) (I0 uE) (I uB) (v2.toInt + 1) 0) → v2.toInt + 2 < N7 → K7 v0 v1 v2 I L) : ∀ (n : Nat) (v3 : Int32) (I : jI) (L : jL), WD Z I → FR Ws_X12_findByEffort Z I0 Z I →   ((-1 ≤ v2.toInt ∧ (I0 v0 0).toInt ≤ 24 ∧ v2.toInt < (I0 v0 0).toInt ∧ 0 ≤ v3.toInt ∧ v3.toInt ≤ v1.toInt + 1) ∧ DPR (I0 v0 0).toInt v1.toInt (I0 uC) (I0 uE) (I uB) (v2.toInt + 1) v3.toInt) → v2.toInt + 2 ≤ N7 → 1000 - v3.toInt < (n : Int) → f_X12_findByEffort_L14 K7 Z Q n v0 v1 v2 v3 I L := by
  intro n
  induction n with
  | zero =>
    intro v3 I L w_I q_I   li hm7 me
    exfalso
    omega
  | succ n ih =>
    intro v3 I L w_I q_I   li hm7 me
    unfold f_X12_findByEffort_L14
    have rv3 := i_rng v3
    have rv2 := i_rng v2
    have rv1 := i_rng v1
    obtain ⟨li0, li1⟩ := li
    have t37 : 0 ≤ (I v0 0).toInt ∧ (I v0 0).toInt ≤ 24 := w_I.fld 12 0 kv0 (by decide)
    have luC : jlen Z uC = 75 := by obtain ⟨b9, e9, -, l9⟩ := sh_f w_I.1 kv0 (j := 37) (k := 14) (m := 75) rfl; cases huC.symm.trans e9; exact l9
    have kuC : jk Z uC 14 := by obtain ⟨b9, e9, k9, -⟩ := sh_f w_I.1 kv0 (j := 37) (k := 14) (m := 75) rfl; cases huC.symm.trans e9; exact k9
    have luE : jlen Z uE = 75 := by obtain ⟨b9, e9, -, l9⟩ := sh_f w_I.1 kv0 (j := 38) (k := 14) (m := 75) rfl; cases huE.symm.trans e9; exact l9
    have kuE : jk Z uE 14 := by obtain ⟨b9, e9, k9, -⟩ := sh_f w_I.1 kv0 (j := 38) (k := 14) (m := 75) rfl; cases huE.symm.trans e9; exact k9
    have luB : jlen Z uB = 25000 := by obtain ⟨b9, e9, -, l9⟩ := sh_f w_I.1 kv0 (j := 40) (k := 14) (m := 25000) rfl; cases huB.symm.trans e9; exact l9
    have kuB : jk Z uB 14 := by obtain ⟨b9, e9, k9, -⟩ := sh_f w_I.1 kv0 (j := 40) (k := 14) (m := 25000) rfl; cases huB.symm.trans e9; exact k9
    have e0 : (I v0 0).toInt = (I0 v0 0).toInt := by rw [q_I.2.2.1 v0 12 0 kv0 (by decide) (by decide)]
    have ec : I uC = I0 uC := q_I.2.2.2 v0 12 37 uC kv0 huC (by rw [kuC.2]; rfl) rfl (by decide)
    have ee : I uE = I0 uE := q_I.2.2.2 v0 12 38 uE kv0 huE (by rw [kuE.2]; rfl) rfl (by decide)
    have mv : MVB (3 * ((I0 v0 0).toInt + 1)) (I0 v0 0).toInt (I uC) (I uE) := by rw [ec, ee]; exact p0
    refine ⟨fun c38 => ?_, fun c38 => ?_⟩
    · skip
      first | (have t39 : v1.toInt < v3.toInt := (i_lt rfl rfl).mp c38) | (have t39 : v1.toInt < v3.toInt := (i_lt rfl rfl).mp c38) | skip
      intro x40 ex40
      have rx40 := i_rng x40
      first | (have tx40 : x40.toInt = v2.toInt + (-1) := by (rw [ex40]; exact (i_add rfl (show (-1 : Int32).toInt = -1 from rfl) (by omega) (by omega)))) | skip
      exact hK7 x40 I L w_I q_I   (by refine ⟨?_, ?_⟩; (omega); first | exact DPR.zero (by omega) | exact DPR.next li1 (by omega) (by omega))  (by omega)
    · skip
      first | (have t41 : ¬ (v1.toInt < v3.toInt) := (not_congr (i_lt rfl rfl)).mp c38) | (have t41 : ¬ (v1.toInt < v3.toInt) := (not_congr (i_lt rfl rfl)).mp c38) | skip
      have t43 : 0 ≤ (I v0 0).toInt ∧ (I v0 0).toInt ≤ 24 := w_I.fld 12 0 kv0 (by decide)
      refine ⟨fun c44 => ?_, fun c44 => ?_⟩
      · skip
        first | (have t45 : ¬ (v2.toInt = ((I v0 0).toInt - (1))) := (not_congr (i_eq rfl (i_sub rfl (show (1 : Int32).toInt = 1 from rfl) (by omega) (by omega)))).mp c44) | (have t45 : ¬ (v2.toInt = ((I v0 0) - (1 : Int32)).toInt) := (not_congr (i_eq rfl rfl)).mp c44) | skip
        unfold f_X12_findByEffort_b37
        unfold f_X12_findByEffort_b40
        have t46 : (1000000000 : Int32).toInt = 1000000000 := rfl
        have t47 : (1 : Int32).toInt = 1 := rfl
        exact ⟨(4 - (1 : Int32).toInt).toNat + 1, l_X12_findByEffort_L45 w0 v0 v1 kv0 uC huC uE huE uB huB p0 p1 v2 v3  hQ hK7 ih  _ (1000000000 : Int32) (1 : Int32) I L w_I q_I   (by refine ⟨?_, ?_, ?_⟩; (omega); (exact li1); first | exact li2 | (have h3 := i_nat (x := v3) rfl (by omega); first | exact Or.inl (by omega) | exact Or.inr ⟨by omega, by omega, Or.inl ⟨by omega, by omega⟩⟩ | (rw [← ec, ← ee] at li2 ⊢; exact DP1.cand li2 (k := x11) (far := v5.toInt) (by omega) (by omega) (by omega) (by omega) (by omega) hsp (by omega) (by omega) (by omega) (by omega)))) (by omega) (by omega) (by omega)⟩
      · skip
        first | (have t48 : v2.toInt = ((I v0 0).toInt - (1)) := (i_eq rfl (i_sub rfl (show (1 : Int32).toInt = 1 from rfl) (by omega) (by omega))).mp c44) | (have t48 : v2.toInt = ((I v0 0) - (1 : Int32)).toInt := (i_eq rfl rfl).mp c44) | skip
        refine ⟨fun c49 => ?_, fun c49 => ?_⟩
        · skip
          first | (have t50 : ¬ (v3.toInt = (0)) := (not_congr (i_eq rfl (show (0 : Int32).toInt = 0 from rfl))).mp c49) | (have t50 : ¬ (v3.toInt = (0 : Int32).toInt) := (not_congr (i_eq rfl rfl)).mp c49) | skip
          unfold f_X12_findByEffort_b37
          unfold f_X12_findByEffort_b40
          have t51 : (1000000000 : Int32).toInt = 1000000000 := rfl
          have t52 : (1 : Int32).toInt = 1 := rfl
          exact ⟨(4 - (1 : Int32).toInt).toNat + 1, l_X12_findByEffort_L45 w0 v0 v1 kv0 uC huC uE huE uB huB p0 p1 v2 v3  hQ hK7 ih  _ (1000000000 : Int32) (1 : Int32) I L w_I q_I   (by refine ⟨?_, ?_, ?_⟩; (omega); (exact li1); first | exact li2 | (have h3 := i_nat (x := v3) rfl (by omega); first | exact Or.inl (by omega) | exact Or.inr ⟨by omega, by omega, Or.inl ⟨by omega, by omega⟩⟩ | (rw [← ec, ← ee] at li2 ⊢; exact DP1.cand li2 (k := x11) (far := v5.toInt) (by omega) (by omega) (by omega) (by omega) (by omega) hsp (by omega) (by omega) (by omega) (by omega)))) (by omega) (by omega) (by omega)⟩
        · skip
          first | (have t53 : v3.toInt = (0) := (i_eq rfl (show (0 : Int32).toInt = 0 from rfl)).mp c49) | (have t53 : v3.toInt = (0 : Int32).toInt := (i_eq rfl rfl).mp c49) | skip
          unfold f_X12_findByEffort_b40
          have t54 : (0 : Int32).toInt = 0 := rfl
          have t55 : (1 : Int32).toInt = 1 := rfl
          exact ⟨(4 - (1 : Int32).toInt).toNat + 1, l_X12_findByEffort_L45 w0 v0 v1 kv0 uC huC uE huE uB huB p0 p1 v2 v3  hQ hK7 ih  _ (0 : Int32) (1 : Int32) I L w_I q_I   (by refine ⟨?_, ?_, ?_⟩; (omega); (exact li1); first | exact li2 | (have h3 := i_nat (x := v3) rfl (by omega); first | exact Or.inl (by omega) | exact Or.inr ⟨by omega, by omega, Or.inl ⟨by omega, by omega⟩⟩ | (rw [← ec, ← ee] at li2 ⊢; exact DP1.cand li2 (k := x11) (far := v5.toInt) (by omega) (by omega) (by omega) (by omega) (by omega) hsp (by omega) (by omega) (by omega) (by omega)))) (by omega) (by omega) (by omega)⟩
set_option maxHeartbeats 4000000 in
set_option maxRecDepth 100000 in
theorem l_X12_findByEffort_L7 {Z : jZ} {I0 : jI} {Q : jI → jL → Prop} (w0 : WD Z I0) (v0 : Nat) (v1 : Int32) (kv0 : jk Z v0 12) (uC : Nat) (huC : jr Z v0 37 = some uC) (uE : Nat) (huE : jr Z v0 38 = some uE) (uB : Nat) (huB : jr Z v0 40 = some uB) (p0 : MVB (3 * ((I0 v0 0).toInt + 1)) (I0 v0 0).toInt (I0 uC) (I0 uE)) (p1 : 0 ≤ v1.toInt ∧ v1.toInt ≤ 999) (hQ : ∀  (I' : jI) (L' : jL), WD Z I' → FR Ws_X12_findByEffort Z I0 Z I' → DPR (I0 v0 0).toInt v1.toInt (I0 uC) (I0 uE) (I' uB) (-1) 0 → Q I' L') : ∀ (n : Nat) (v2 : Int32) (I : jI) (L : jL), WD Z I → FR Ws_X12_findByEffort Z I0 Z I →   ((-2 ≤ v2.toInt ∧ (I0 v0 0).toInt ≤ 24 ∧ v2.toInt < (I0 v0 0).toInt) ∧ DPR (I0 v0 0).toInt v1.toInt (I0 uC) (I0 uE) (I uB) (v2.toInt + 1) 0) → v2.toInt + 2 < (n : Int) → f_X12_findByEffort_L7  Z Q n v0 v1 v2 I L := by
  intro n
  induction n with
  | zero =>
    intro v2 I L w_I q_I   li  me
    exfalso
    omega
  | succ n ih =>
    intro v2 I L w_I q_I   li  me
    unfold f_X12_findByEffort_L7
    have rv2 := i_rng v2
    have rv1 := i_rng v1
    obtain ⟨li0, li1⟩ := li
    have t56 : 0 ≤ (I v0 0).toInt ∧ (I v0 0).toInt ≤ 24 := w_I.fld 12 0 kv0 (by decide)
    have luC : jlen Z uC = 75 := by obtain ⟨b9, e9, -, l9⟩ := sh_f w_I.1 kv0 (j := 37) (k := 14) (m := 75) rfl; cases huC.symm.trans e9; exact l9
    have kuC : jk Z uC 14 := by obtain ⟨b9, e9, k9, -⟩ := sh_f w_I.1 kv0 (j := 37) (k := 14) (m := 75) rfl; cases huC.symm.trans e9; exact k9
    have luE : jlen Z uE = 75 := by obtain ⟨b9, e9, -, l9⟩ := sh_f w_I.1 kv0 (j := 38) (k := 14) (m := 75) rfl; cases huE.symm.trans e9; exact l9
    have kuE : jk Z uE 14 := by obtain ⟨b9, e9, k9, -⟩ := sh_f w_I.1 kv0 (j := 38) (k := 14) (m := 75) rfl; cases huE.symm.trans e9; exact k9
    have luB : jlen Z uB = 25000 := by obtain ⟨b9, e9, -, l9⟩ := sh_f w_I.1 kv0 (j := 40) (k := 14) (m := 25000) rfl; cases huB.symm.trans e9; exact l9
    have kuB : jk Z uB 14 := by obtain ⟨b9, e9, k9, -⟩ := sh_f w_I.1 kv0 (j := 40) (k := 14) (m := 25000) rfl; cases huB.symm.trans e9; exact k9
    have e0 : (I v0 0).toInt = (I0 v0 0).toInt := by rw [q_I.2.2.1 v0 12 0 kv0 (by decide) (by decide)]
    have ec : I uC = I0 uC := q_I.2.2.2 v0 12 37 uC kv0 huC (by rw [kuC.2]; rfl) rfl (by decide)
    have ee : I uE = I0 uE := q_I.2.2.2 v0 12 38 uE kv0 huE (by rw [kuE.2]; rfl) rfl (by decide)
    have mv : MVB (3 * ((I0 v0 0).toInt + 1)) (I0 v0 0).toInt (I uC) (I uE) := by rw [ec, ee]; exact p0
    refine ⟨fun c57 => ?_, fun c57 => ?_⟩
    · skip
      first | (have t58 : v2.toInt < (-1) := (i_lt rfl (show (-1 : Int32).toInt = -1 from rfl)).mp c57) | (have t58 : v2.toInt < (-1 : Int32).toInt := (i_lt rfl rfl).mp c57) | skip
      exact hQ  I L w_I q_I (by have e9 : v2.toInt + 1 = -1 := (by omega); rw [e9] at li1; exact li1)
    · skip
      first | (have t59 : ¬ (v2.toInt < (-1)) := (not_congr (i_lt rfl (show (-1 : Int32).toInt = -1 from rfl))).mp c57) | (have t59 : ¬ (v2.toInt < (-1 : Int32).toInt) := (not_congr (i_lt rfl rfl)).mp c57) | skip
      have t60 : (0 : Int32).toInt = 0 := rfl
      exact ⟨(1000 - (0 : Int32).toInt).toNat + 1, l_X12_findByEffort_L14 w0 v0 v1 kv0 uC huC uE huE uB huB p0 p1 v2  hQ ih  _ (0 : Int32) I L w_I q_I   (by refine ⟨?_, ?_⟩; (omega); first | exact li1 | (have h3 := i_nat (x := v3) rfl (by omega); have h4 := i_nat (x := 0) rfl (by omega); exact DPR.step li1 li2 (by omega) (by omega) (by omega) (by omega) (by omega) (fun _ _ => rfl) (by assumption) (by omega))) (by omega) (by omega)⟩
set_option maxHeartbeats 4000000 in
set_option maxRecDepth 100000 in
theorem s_X12_findByEffort {Z : jZ} {I : jI} {L : jL} (w_I : WD Z I) (v0 : Nat) (v1 : Int32) (kv0 : jk Z v0 12) (uC : Nat) (huC : jr Z v0 37 = some uC) (uE : Nat) (huE : jr Z v0 38 = some uE) (uB : Nat) (huB : jr Z v0 40 = some uB) (p0 : MVB (3 * ((I v0 0).toInt + 1)) (I v0 0).toInt (I uC) (I uE)) (p1 : 0 ≤ v1.toInt ∧ v1.toInt ≤ 999) {Q : jI → jL → Prop} (hQ : ∀  (I' : jI) (L' : jL), WD Z I' → FR Ws_X12_findByEffort Z I Z I' → DPR (I v0 0).toInt v1.toInt (I uC) (I uE) (I' uB) (-1) 0 → Q I' L') : f_X12_findByEffort v0 v1 Z I L Q := by
  unfold f_X12_findByEffort
  have q_I : FR Ws_X12_findByEffort Z I Z I := FR.rf
  have rv1 := i_rng v1
  have t61 : 0 ≤ (I v0 0).toInt ∧ (I v0 0).toInt ≤ 24 := w_I.fld 12 0 kv0 (by decide)
  have luC : jlen Z uC = 75 := by obtain ⟨b9, e9, -, l9⟩ := sh_f w_I.1 kv0 (j := 37) (k := 14) (m := 75) rfl; cases huC.symm.trans e9; exact l9
  have kuC : jk Z uC 14 := by obtain ⟨b9, e9, k9, -⟩ := sh_f w_I.1 kv0 (j := 37) (k := 14) (m := 75) rfl; cases huC.symm.trans e9; exact k9
  have luE : jlen Z uE = 75 := by obtain ⟨b9, e9, -, l9⟩ := sh_f w_I.1 kv0 (j := 38) (k := 14) (m := 75) rfl; cases huE.symm.trans e9; exact l9
  have kuE : jk Z uE 14 := by obtain ⟨b9, e9, k9, -⟩ := sh_f w_I.1 kv0 (j := 38) (k := 14) (m := 75) rfl; cases huE.symm.trans e9; exact k9
  have luB : jlen Z uB = 25000 := by obtain ⟨b9, e9, -, l9⟩ := sh_f w_I.1 kv0 (j := 40) (k := 14) (m := 25000) rfl; cases huB.symm.trans e9; exact l9
  have kuB : jk Z uB 14 := by obtain ⟨b9, e9, k9, -⟩ := sh_f w_I.1 kv0 (j := 40) (k := 14) (m := 25000) rfl; cases huB.symm.trans e9; exact k9
  have t63 : 0 ≤ (I v0 0).toInt ∧ (I v0 0).toInt ≤ 24 := w_I.fld 12 0 kv0 (by decide)
  intro x64 ex64
  have rx64 := i_rng x64
  first | (have tx64 : x64.toInt = ((I v0 0).toInt - (1)) := by (rw [ex64]; exact (i_sub rfl (show (1 : Int32).toInt = 1 from rfl) (by omega) (by omega)))) | (have tx64 : x64.toInt = ((I v0 0) - (1 : Int32)).toInt := by rw [ex64])
  exact ⟨(x64.toInt + 2).toNat + 1, l_X12_findByEffort_L7 w_I v0 v1 kv0 uC huC uE huE uB huB p0 p1   hQ   _ x64 I L w_I q_I   (by refine ⟨?_, ?_⟩; (omega); first | exact DPR.zero (by omega) | exact DPR.next li1 (by omega) (by omega))  (by omega)⟩
