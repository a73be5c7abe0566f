set_option maxHeartbeats 4000000 in
set_option maxRecDepth 100000 in
theorem s9_X12_placeOf {Z : jZ} {I : jI} {L : jL} (w_I : WD Z I) (v0 : Nat) (v1 : Int32) (kv0 : jk Z v0 12) (uO : Nat) (huO : jr Z v0 55 = some uO) (uG : Nat) (huG : jr Z v0 57 = some uG) (p0 : 0 ≤ v1.toInt ∧ v1.toInt ≤ 5) {Q : Int32 → jI → jL → Prop} (hQ : ∀ (r : Int32), (r.toInt = PLC (I uO) (I uG) v1.toNatClampNeg ∧ -1 ≤ r.toInt ∧ r.toInt ≤ 23) → Q r I L) : f_X12_placeOf v0 v1 Z I L Q := by
  unfold f_X12_placeOf
  have rv1 := i_rng v1
  have luO : jlen Z uO = 144 := by obtain ⟨b9, e9, -, l9⟩ := sh_f w_I.1 kv0 (j := 55) (k := 14) (m := 144) rfl; cases huO.symm.trans e9; exact l9
  have kuO : jk Z uO 14 := by obtain ⟨b9, e9, k9, -⟩ := sh_f w_I.1 kv0 (j := 55) (k := 14) (m := 144) rfl; cases huO.symm.trans e9; exact k9
  have luG : jlen Z uG = 6 := by obtain ⟨b9, e9, -, l9⟩ := sh_f w_I.1 kv0 (j := 57) (k := 14) (m := 6) rfl; cases huG.symm.trans e9; exact l9
  have kuG : jk Z uG 14 := by obtain ⟨b9, e9, k9, -⟩ := sh_f w_I.1 kv0 (j := 57) (k := 14) (m := 6) rfl; cases huG.symm.trans e9; exact k9
  intro b1 eb1
  obtain rfl : uG = b1 := Option.some.inj (huG.symm.trans eb1)
  have o2 : vp_in v1 6 := vi_of rfl (by omega) (by omega)
  refine ⟨o2, ?_⟩
  have t3 : 0 ≤ (I uG v1.toNatClampNeg).toInt ∧ (I uG v1.toNatClampNeg).toInt ≤ 24 := w_I.arr 12 57 kv0 huG kuG rfl rfl _
  refine ⟨fun c4 => ?_, fun c4 => ?_⟩
  · skip
    first | (have t5 : ¬ ((I uG v1.toNatClampNeg).toInt = (0)) := (not_congr (i_eq rfl (show (0 : Int32).toInt = 0 from rfl))).mp c4) | (have t5 : ¬ ((I uG v1.toNatClampNeg).toInt = (0 : Int32).toInt) := (not_congr (i_eq rfl rfl)).mp c4) | skip
    intro b6 eb6
    obtain rfl : uO = b6 := Option.some.inj (huO.symm.trans eb6)
    intro b7 eb7
    obtain rfl : uG = b7 := Option.some.inj (huG.symm.trans eb7)
    have o8 : vp_in v1 6 := vi_of rfl (by omega) (by omega)
    refine ⟨o8, ?_⟩
    have t9 : 0 ≤ (I uG v1.toNatClampNeg).toInt ∧ (I uG v1.toNatClampNeg).toInt ≤ 24 := w_I.arr 12 57 kv0 huG kuG rfl rfl _
    have o10 : vp_in ((((24 : Int32) * v1) + (I uG v1.toNatClampNeg)) - (1 : Int32)) 144 := vi_of (i_sub (i_add (i_mul (show (24 : Int32).toInt = 24 from rfl) rfl (by omega) (by omega)) rfl (by omega) (by omega)) (show (1 : Int32).toInt = 1 from rfl) (by omega) (by omega)) (by omega) (by omega)
    refine ⟨o10, ?_⟩
    have t11 : 0 ≤ (I uO ((((24 : Int32) * v1) + (I uG v1.toNatClampNeg)) - (1 : Int32)).toNatClampNeg).toInt ∧ (I uO ((((24 : Int32) * v1) + (I uG v1.toNatClampNeg)) - (1 : Int32)).toNatClampNeg).toInt ≤ 23 := w_I.arr 12 55 kv0 huO kuO rfl rfl _
    exact hQ (I uO ((((24 : Int32) * v1) + (I uG v1.toNatClampNeg)) - (1 : Int32)).toNatClampNeg) (by first | (unfold PLC; rw [if_pos (by omega)]; exact ⟨rfl, by omega, by omega⟩) | (have n1 := i_nat (x := v1) rfl (by omega); have n2 := i_nat (x := ((((24 : Int32) * v1) + (I uG v1.toNatClampNeg)) - (1 : Int32))) (i_sub (i_add (i_mul (show (24 : Int32).toInt = 24 from rfl) rfl (by omega) (by omega)) rfl (by omega) (by omega)) (show (1 : Int32).toInt = 1 from rfl) (by omega) (by omega)) (by omega); have e9 : ((((24 : Int32) * v1) + (I uG v1.toNatClampNeg)) - (1 : Int32)).toNatClampNeg = 24 * v1.toNatClampNeg + ((I uG v1.toNatClampNeg).toInt - 1).toNat := (by omega); unfold PLC; rw [if_neg (by omega), ← e9]; exact ⟨rfl, by omega, by omega⟩))
  · skip
    first | (have t12 : (I uG v1.toNatClampNeg).toInt = (0) := (i_eq rfl (show (0 : Int32).toInt = 0 from rfl)).mp c4) | (have t12 : (I uG v1.toNatClampNeg).toInt = (0 : Int32).toInt := (i_eq rfl rfl).mp c4) | skip
    have t13 : (-1 : Int32).toInt = -1 := rfl
    exact hQ (-1 : Int32) (by first | (unfold PLC; rw [if_pos (by omega)]; exact ⟨rfl, by omega, by omega⟩) | (have n1 := i_nat (x := v1) rfl (by omega); have n2 := i_nat (x := ((((24 : Int32) * v1) + (I uG v1.toNatClampNeg)) - (1 : Int32))) (i_sub (i_add (i_mul (show (24 : Int32).toInt = 24 from rfl) rfl (by omega) (by omega)) rfl (by omega) (by omega)) (show (1 : Int32).toInt = 1 from rfl) (by omega) (by omega)) (by omega); have e9 : ((((24 : Int32) * v1) + (I uG v1.toNatClampNeg)) - (1 : Int32)).toNatClampNeg = 24 * v1.toNatClampNeg + ((I uG v1.toNatClampNeg).toInt - 1).toNat := (by omega); unfold PLC; rw [if_neg (by omega), ← e9]; exact ⟨rfl, by omega, by omega⟩))
set_option maxHeartbeats 4000000 in
set_option maxRecDepth 100000 in
theorem l9_X12_onStep_L4 {Z : jZ} {I : jI} {L : jL} {Q : Int32 → jI → jL → Prop} (w_I : WD Z I) (v0 : Nat) (v1 : Int32) (kv0 : jk Z v0 12) (uO : Nat) (huO : jr Z v0 55 = some uO) (uM : Nat) (huM : jr Z v0 56 = some uM) (uG : Nat) (huG : jr Z v0 57 = some uG) (hQ : ∀ (r : Int32), (r.toInt = 0 ∨ ∃ p : Nat, (p : Int) < (I v0 8).toInt ∧ 0 < (I uM p).toInt ∧ PLC (I uO) (I uG) p = v1.toInt) → Q r I L) : ∀ (n : Nat) (v2 : Int32) (v3 : Int32) ,   ((0 ≤ v3.toInt ∧ v3.toInt ≤ 6 ∧ 0 ≤ v2.toInt ∧ v2.toInt ≤ v3.toInt) ∧ (v2.toInt = 0 ∨ ∃ p : Nat, (p : Int) < v3.toInt ∧ (p : Int) < (I v0 8).toInt ∧ 0 < (I uM p).toInt ∧ PLC (I uO) (I uG) p = v1.toInt)) → 6 - v3.toInt < (n : Int) → f_X12_onStep_L4  Z Q n v0 v1 v2 v3 I L := by
  intro n
  induction n with
  | zero =>
    intro v2 v3   li  me
    exfalso
    omega
  | succ n ih =>
    intro v2 v3   li  me
    unfold f_X12_onStep_L4
    have rv2 := i_rng v2
    have rv3 := i_rng v3
    have rv1 := i_rng v1
    obtain ⟨li0, li1⟩ := li
    have luO : jlen Z uO = 144 := by obtain ⟨b9, e9, -, l9⟩ := sh_f w_I.1 kv0 (j := 55) (k := 14) (m := 144) rfl; cases huO.symm.trans e9; exact l9
    have kuO : jk Z uO 14 := by obtain ⟨b9, e9, k9, -⟩ := sh_f w_I.1 kv0 (j := 55) (k := 14) (m := 144) rfl; cases huO.symm.trans e9; exact k9
    have luM : jlen Z uM = 6 := by obtain ⟨b9, e9, -, l9⟩ := sh_f w_I.1 kv0 (j := 56) (k := 14) (m := 6) rfl; cases huM.symm.trans e9; exact l9
    have kuM : jk Z uM 14 := by obtain ⟨b9, e9, k9, -⟩ := sh_f w_I.1 kv0 (j := 56) (k := 14) (m := 6) rfl; cases huM.symm.trans e9; exact k9
    have luG : jlen Z uG = 6 := by obtain ⟨b9, e9, -, l9⟩ := sh_f w_I.1 kv0 (j := 57) (k := 14) (m := 6) rfl; cases huG.symm.trans e9; exact l9
    have kuG : jk Z uG 14 := by obtain ⟨b9, e9, k9, -⟩ := sh_f w_I.1 kv0 (j := 57) (k := 14) (m := 6) rfl; cases huG.symm.trans e9; exact k9
    have t2 : 0 ≤ (I v0 8).toInt ∧ (I v0 8).toInt ≤ 6 := w_I.fld 12 8 kv0 (by decide)
    refine ⟨fun c3 => ?_, fun c3 => ?_⟩
    · skip
      first | (have t4 : (I v0 8).toInt ≤ v3.toInt := (i_le rfl rfl).mp c3) | (have t4 : (I v0 8).toInt ≤ v3.toInt := (i_le rfl rfl).mp c3) | skip
      exact hQ v2 (by rcases li1 with h | ⟨p9, h1, h2, h3, h4⟩; exact Or.inl h; exact Or.inr ⟨p9, h2, h3, h4⟩)
    · skip
      first | (have t5 : ¬ ((I v0 8).toInt ≤ v3.toInt) := (not_congr (i_le rfl rfl)).mp c3) | (have t5 : ¬ ((I v0 8).toInt ≤ v3.toInt) := (not_congr (i_le rfl rfl)).mp c3) | skip
      intro b6 eb6
      obtain rfl : uM = b6 := Option.some.inj (huM.symm.trans eb6)
      have o7 : vp_in v3 6 := vi_of rfl (by omega) (by omega)
      refine ⟨o7, ?_⟩
      have t8 : 0 ≤ (I uM v3.toNatClampNeg).toInt ∧ (I uM v3.toNatClampNeg).toInt ≤ 24 := w_I.arr 12 56 kv0 huM kuM rfl rfl _
      refine ⟨fun c9 => ?_, fun c9 => ?_⟩
      · skip
        first | (have t10 : (I uM v3.toNatClampNeg).toInt ≤ (0) := (i_le rfl (show (0 : Int32).toInt = 0 from rfl)).mp c9) | (have t10 : (I uM v3.toNatClampNeg).toInt ≤ (0 : Int32).toInt := (i_le rfl rfl).mp c9) | skip
        unfold f_X12_onStep_b35
        unfold f_X12_onStep_b36
        intro x11 ex11
        have rx11 := i_rng x11
        first | (have tx11 : x11.toInt = (v2.toInt + (0)) := by (rw [ex11]; exact (i_add rfl (show (0 : Int32).toInt = 0 from rfl) (by omega) (by omega)))) | (have tx11 : x11.toInt = (v2 + (0 : Int32)).toInt := by rw [ex11])
        intro x12 ex12
        have rx12 := i_rng x12
        first | (have tx12 : x12.toInt = v3.toInt + (1) := by (rw [ex12]; exact (i_add rfl (show (1 : Int32).toInt = 1 from rfl) (by omega) (by omega)))) | skip
        exact ih x11 x12   (by first | exact ⟨by omega, Or.inl (by omega)⟩ | (have nv3 := i_nat (x := v3) rfl (by omega); exact ⟨by omega, Or.inr ⟨v3.toNatClampNeg, by omega, by omega, by omega, by omega⟩⟩) | (refine ⟨by omega, ?_⟩; rcases li1 with h | ⟨p9, h1, h2, h3, h4⟩; exact Or.inl (by omega); exact Or.inr ⟨p9, by omega, h2, h3, h4⟩))  (by omega)
      · skip
        first | (have t13 : ¬ ((I uM v3.toNatClampNeg).toInt ≤ (0)) := (not_congr (i_le rfl (show (0 : Int32).toInt = 0 from rfl))).mp c9) | (have t13 : ¬ ((I uM v3.toNatClampNeg).toInt ≤ (0 : Int32).toInt) := (not_congr (i_le rfl rfl)).mp c9) | skip
        refine s9_X12_placeOf w_I v0 v3 kv0 uO huO uG huG (by omega) (fun r14 p15 => ?_)
        have rr14 := i_rng r14
        refine ⟨fun c16 => ?_, fun c16 => ?_⟩
        · skip
          first | (have t17 : ¬ (r14.toInt = v1.toInt) := (not_congr (i_eq rfl rfl)).mp c16) | (have t17 : ¬ (r14.toInt = v1.toInt) := (not_congr (i_eq rfl rfl)).mp c16) | skip
          unfold f_X12_onStep_b35
          unfold f_X12_onStep_b36
          intro x18 ex18
          have rx18 := i_rng x18
          first | (have tx18 : x18.toInt = (v2.toInt + (0)) := by (rw [ex18]; exact (i_add rfl (show (0 : Int32).toInt = 0 from rfl) (by omega) (by omega)))) | (have tx18 : x18.toInt = (v2 + (0 : Int32)).toInt := by rw [ex18])
          intro x19 ex19
          have rx19 := i_rng x19
          first | (have tx19 : x19.toInt = v3.toInt + (1) := by (rw [ex19]; exact (i_add rfl (show (1 : Int32).toInt = 1 from rfl) (by omega) (by omega)))) | skip
          exact ih x18 x19   (by first | exact ⟨by omega, Or.inl (by omega)⟩ | (have nv3 := i_nat (x := v3) rfl (by omega); exact ⟨by omega, Or.inr ⟨v3.toNatClampNeg, by omega, by omega, by omega, by omega⟩⟩) | (refine ⟨by omega, ?_⟩; rcases li1 with h | ⟨p9, h1, h2, h3, h4⟩; exact Or.inl (by omega); exact Or.inr ⟨p9, by omega, h2, h3, h4⟩))  (by omega)
        · skip
          first | (have t20 : r14.toInt = v1.toInt := (i_eq rfl rfl).mp c16) | (have t20 : r14.toInt = v1.toInt := (i_eq rfl rfl).mp c16) | skip
          unfold f_X12_onStep_b36
          intro x21 ex21
          have rx21 := i_rng x21
          first | (have tx21 : x21.toInt = (v2.toInt + (1)) := by (rw [ex21]; exact (i_add rfl (show (1 : Int32).toInt = 1 from rfl) (by omega) (by omega)))) | (have tx21 : x21.toInt = (v2 + (1 : Int32)).toInt := by rw [ex21])
          intro x22 ex22
          have rx22 := i_rng x22
          first | (have tx22 : x22.toInt = v3.toInt + (1) := by (rw [ex22]; exact (i_add rfl (show (1 : Int32).toInt = 1 from rfl) (by omega) (by omega)))) | skip
          exact ih x21 x22   (by first | exact ⟨by omega, Or.inl (by omega)⟩ | (have nv3 := i_nat (x := v3) rfl (by omega); exact ⟨by omega, Or.inr ⟨v3.toNatClampNeg, by omega, by omega, by omega, by omega⟩⟩) | (refine ⟨by omega, ?_⟩; rcases li1 with h | ⟨p9, h1, h2, h3, h4⟩; exact Or.inl (by omega); exact Or.inr ⟨p9, by omega, h2, h3, h4⟩))  (by omega)
set_option maxHeartbeats 4000000 in
set_option maxRecDepth 100000 in
theorem s9_X12_onStep {Z : jZ} {I : jI} {L : jL} (w_I : WD Z I) (v0 : Nat) (v1 : Int32) (kv0 : jk Z v0 12) (uO : Nat) (huO : jr Z v0 55 = some uO) (uM : Nat) (huM : jr Z v0 56 = some uM) (uG : Nat) (huG : jr Z v0 57 = some uG) {Q : Int32 → jI → jL → Prop} (hQ : ∀ (r : Int32), (r.toInt = 0 ∨ ∃ p : Nat, (p : Int) < (I v0 8).toInt ∧ 0 < (I uM p).toInt ∧ PLC (I uO) (I uG) p = v1.toInt) → Q r I L) : f_X12_onStep v0 v1 Z I L Q := by
  unfold f_X12_onStep
  have rv1 := i_rng v1
  have luO : jlen Z uO = 144 := by obtain ⟨b9, e9, -, l9⟩ := sh_f w_I.1 kv0 (j := 55) (k := 14) (m := 144) rfl; cases huO.symm.trans e9; exact l9
  have kuO : jk Z uO 14 := by obtain ⟨b9, e9, k9, -⟩ := sh_f w_I.1 kv0 (j := 55) (k := 14) (m := 144) rfl; cases huO.symm.trans e9; exact k9
  have luM : jlen Z uM = 6 := by obtain ⟨b9, e9, -, l9⟩ := sh_f w_I.1 kv0 (j := 56) (k := 14) (m := 6) rfl; cases huM.symm.trans e9; exact l9
  have kuM : jk Z uM 14 := by obtain ⟨b9, e9, k9, -⟩ := sh_f w_I.1 kv0 (j := 56) (k := 14) (m := 6) rfl; cases huM.symm.trans e9; exact k9
  have luG : jlen Z uG = 6 := by obtain ⟨b9, e9, -, l9⟩ := sh_f w_I.1 kv0 (j := 57) (k := 14) (m := 6) rfl; cases huG.symm.trans e9; exact l9
  have kuG : jk Z uG 14 := by obtain ⟨b9, e9, k9, -⟩ := sh_f w_I.1 kv0 (j := 57) (k := 14) (m := 6) rfl; cases huG.symm.trans e9; exact k9
  have t23 : (0 : Int32).toInt = 0 := rfl
  have t24 : (0 : Int32).toInt = 0 := rfl
  exact ⟨(6 - (0 : Int32).toInt).toNat + 1, l9_X12_onStep_L4 w_I v0 v1 kv0 uO huO uM huM uG huG   hQ   _ (0 : Int32) (0 : Int32)   (by first | exact ⟨by omega, Or.inl (by omega)⟩ | (have nv3 := i_nat (x := v3) rfl (by omega); exact ⟨by omega, Or.inr ⟨v3.toNatClampNeg, by omega, by omega, by omega, by omega⟩⟩) | (refine ⟨by omega, ?_⟩; rcases li1 with h | ⟨p9, h1, h2, h3, h4⟩; exact Or.inl (by omega); exact Or.inr ⟨p9, by omega, h2, h3, h4⟩))  (by omega)⟩
