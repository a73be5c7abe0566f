def Ws_X11_market : List (Nat × Nat) := [(3, 2), (6, 4), (6, 5), (6, 6), (6, 7), (6, 8), (6, 12), (6, 13), (6, 14), (6, 15), (7, 1), (7, 2), (7, 3), (7, 4), (7, 5), (7, 8), (7, 9), (8, 2), (8, 8), (11, 13), (11, 14), (11, 16)]
set_option maxHeartbeats 4000000 in
set_option maxRecDepth 100000 in
theorem l_X11_market_L29 {B : Nat × Nat} {T : Nat} {Z0 : jZ} {I0 : jI} {Q : Int32 → jZ → jI → jL → Prop} (w0 : WD Z0 I0) (v0 : Nat) (v1 : Int32) (kv0 : jk Z0 v0 11) (hQ : ∀ (r : Int32) (Z' : jZ) (I' : jI) (L' : jL), WD Z' I' → BUD B Z' T → FR Ws_X11_market Z0 I0 Z' I' → CP Z0 Z' → Q r Z' I' L') : ∀ (n : Nat) (v2 : Int32) (v3 : Int32) (v4 : Int32) (Z : jZ) (I : jI) (L : jL), WD Z I → BUD B Z T → FR Ws_X11_market Z0 I0 Z I → CP Z0 Z →   (0 ≤ v4.toInt ∧ v4.toInt ≤ 3 ∧ v1.toInt ≤ 3) → 3 - v4.toInt < (n : Int) → f_X11_market_L29 B  Q n v0 v1 v2 v3 v4 Z I L := by
  intro n
  induction n with
  | zero =>
    intro v2 v3 v4 Z I L w_I bd_Z q_I cp_Z   li  me
    exfalso
    omega
  | succ n ih =>
    intro v2 v3 v4 Z I L w_I bd_Z q_I cp_Z   li  me
    unfold f_X11_market_L29
    have rv2 := i_rng v2
    have rv3 := i_rng v3
    have rv4 := i_rng v4
    have rv1 := i_rng v1
    have kv0_0 := kv0
    have kv0 := (q_I.1 _ _ kv0).1
    have xq_I := q_I.1
    refine ⟨fun c1 => ?_, fun c1 => ?_⟩
    · skip
      first | (have t2 : v1.toInt ≤ v4.toInt := (i_le rfl rfl).mp c1) | (have t2 : v1.toInt ≤ v4.toInt := (i_le rfl rfl).mp c1) | skip
      unfold f_X11_market_b70
      refine ⟨fun c3 => ?_, fun c3 => ?_⟩
      · skip
        first | (have t4 : v3.toInt = (0) := (i_eq rfl (show (0 : Int32).toInt = 0 from rfl)).mp c3) | (have t4 : v3.toInt = (0 : Int32).toInt := (i_eq rfl rfl).mp c3) | skip
        unfold f_X11_market_b80
        intro b5 eb5
        obtain ⟨x6, ex6, kb5⟩ := sh_o w_I.1 kv0 (j := 2) (k := 8) rfl
        cases eb5.symm.trans ex6
        refine s_X8_sumOfAsks w_I b5 kb5   (fun r7  => ?_)
        have rr7 := i_rng r7
        refine s_X11_tellTwo w_I v0 (0 : Int64) (r7.toInt64) kv0   (fun  I8 L9 w_I8 f_I8  => ?_)
        have q_I8 : FR Ws_X11_market Z0 I0 Z I8 := q_I.trans w0.1 w0.2.1 (f_I8.mono (by decide))
        exact hQ v2 Z I8 L9 w_I8 bd_Z q_I8 cp_Z 
      · skip
        first | (have t10 : ¬ (v3.toInt = (0)) := (not_congr (i_eq rfl (show (0 : Int32).toInt = 0 from rfl))).mp c3) | (have t10 : ¬ (v3.toInt = (0 : Int32).toInt) := (not_congr (i_eq rfl rfl)).mp c3) | skip
        unfold f_X11_market_b80
        intro b11 eb11
        obtain ⟨x12, ex12, kb11⟩ := sh_o w_I.1 kv0 (j := 2) (k := 8) rfl
        cases eb11.symm.trans ex12
        refine s_X8_sumOfAsks w_I b11 kb11   (fun r13  => ?_)
        have rr13 := i_rng r13
        refine s_X11_tellTwo w_I v0 (1 : Int64) (r13.toInt64) kv0   (fun  I14 L15 w_I14 f_I14  => ?_)
        have q_I14 : FR Ws_X11_market Z0 I0 Z I14 := q_I.trans w0.1 w0.2.1 (f_I14.mono (by decide))
        exact hQ v2 Z I14 L15 w_I14 bd_Z q_I14 cp_Z 
    · skip
      first | (have t16 : ¬ (v1.toInt ≤ v4.toInt) := (not_congr (i_le rfl rfl)).mp c1) | (have t16 : ¬ (v1.toInt ≤ v4.toInt) := (not_congr (i_le rfl rfl)).mp c1) | skip
      refine ⟨fun c17 => ?_, fun c17 => ?_⟩
      · skip
        first | (have t18 : ¬ (v3.toInt = (0)) := (not_congr (i_eq rfl (show (0 : Int32).toInt = 0 from rfl))).mp c17) | (have t18 : ¬ (v3.toInt = (0 : Int32).toInt) := (not_congr (i_eq rfl rfl)).mp c17) | skip
        unfold f_X11_market_b70
        refine ⟨fun c19 => ?_, fun c19 => ?_⟩
        · skip
          first | (have t20 : v3.toInt = (0) := (i_eq rfl (show (0 : Int32).toInt = 0 from rfl)).mp c19) | (have t20 : v3.toInt = (0 : Int32).toInt := (i_eq rfl rfl).mp c19) | skip
          unfold f_X11_market_b80
          intro b21 eb21
          obtain ⟨x22, ex22, kb21⟩ := sh_o w_I.1 kv0 (j := 2) (k := 8) rfl
          cases eb21.symm.trans ex22
          refine s_X8_sumOfAsks w_I b21 kb21   (fun r23  => ?_)
          have rr23 := i_rng r23
          refine s_X11_tellTwo w_I v0 (0 : Int64) (r23.toInt64) kv0   (fun  I24 L25 w_I24 f_I24  => ?_)
          have q_I24 : FR Ws_X11_market Z0 I0 Z I24 := q_I.trans w0.1 w0.2.1 (f_I24.mono (by decide))
          exact hQ v2 Z I24 L25 w_I24 bd_Z q_I24 cp_Z 
        · skip
          first | (have t26 : ¬ (v3.toInt = (0)) := (not_congr (i_eq rfl (show (0 : Int32).toInt = 0 from rfl))).mp c19) | (have t26 : ¬ (v3.toInt = (0 : Int32).toInt) := (not_congr (i_eq rfl rfl)).mp c19) | skip
          unfold f_X11_market_b80
          intro b27 eb27
          obtain ⟨x28, ex28, kb27⟩ := sh_o w_I.1 kv0 (j := 2) (k := 8) rfl
          cases eb27.symm.trans ex28
          refine s_X8_sumOfAsks w_I b27 kb27   (fun r29  => ?_)
          have rr29 := i_rng r29
          refine s_X11_tellTwo w_I v0 (1 : Int64) (r29.toInt64) kv0   (fun  I30 L31 w_I30 f_I30  => ?_)
          have q_I30 : FR Ws_X11_market Z0 I0 Z I30 := q_I.trans w0.1 w0.2.1 (f_I30.mono (by decide))
          exact hQ v2 Z I30 L31 w_I30 bd_Z q_I30 cp_Z 
      · skip
        first | (have t32 : v3.toInt = (0) := (i_eq rfl (show (0 : Int32).toInt = 0 from rfl)).mp c17) | (have t32 : v3.toInt = (0 : Int32).toInt := (i_eq rfl rfl).mp c17) | skip
        obtain ⟨b33, eb33, kb33, lb33⟩ := sh_f w_I.1 kv0 (j := 3) (k := 18) (m := 6) rfl
        refine s_X11_haggle w_I bd_Z v0 kv0 b33 eb33  (fun r34 Z37 I35 L36 w_I35 bd_Z37 f_I35 c_Z37  => ?_)
        have q_I35 : FR Ws_X11_market Z0 I0 Z37 I35 := q_I.trans w0.1 w0.2.1 (f_I35.mono (by decide))
        have cp_Z37 : CP Z0 Z37 := cp_Z.trans q_I.1 c_Z37
        have x_Z37 := f_I35.1
        have k38 := (f_I35.1 _ _ kv0).1
        have k39 := (f_I35.1 _ _ kb33).1
        have l40 := (f_I35.1 _ _ kb33).2.trans lb33
        have k41 := (f_I35.1 _ _ kv0).1
        have e42 := (f_I35.2.1 v0 11 3 kv0 (by decide) (by decide)).trans eb33
        have rr34 := i_rng r34
        refine ⟨fun c43 => ?_, fun c43 => ?_⟩
        · skip
          first | (have t44 : ¬ (r34.toInt = (0)) := (not_congr (i_eq rfl (show (0 : Int32).toInt = 0 from rfl))).mp c43) | (have t44 : ¬ (r34.toInt = (0 : Int32).toInt) := (not_congr (i_eq rfl rfl)).mp c43) | skip
          unfold f_X11_market_b51
          refine ⟨fun c45 => ?_, fun c45 => ?_⟩
          · skip
            first | (have t46 : (0) = (0) := (i_eq (show (0 : Int32).toInt = 0 from rfl) (show (0 : Int32).toInt = 0 from rfl)).mp c45) | (have t46 : (0 : Int32).toInt = (0 : Int32).toInt := (i_eq rfl rfl).mp c45) | skip
            unfold f_X11_market_b62
            intro x47 ex47
            have rx47 := i_rng x47
            first | (have tx47 : x47.toInt = (v2.toInt + (1)) := by (rw [ex47]; exact (i_add rfl (show (1 : Int32).toInt = 1 from rfl) (by omega) (by omega)))) | (have tx47 : x47.toInt = (v2 + (1 : Int32)).toInt := by rw [ex47])
            intro x48 ex48
            have rx48 := i_rng x48
            first | (have tx48 : x48.toInt = v4.toInt + (1) := by (rw [ex48]; exact (i_add rfl (show (1 : Int32).toInt = 1 from rfl) (by omega) (by omega)))) | skip
            have t49 : (0 : Int32).toInt = 0 := rfl
            exact ih x47 (0 : Int32) x48 Z37 I35 L36 w_I35 bd_Z37 q_I35 cp_Z37   (by omega)  (by omega)
          · skip
            first | (have t50 : ¬ ((0) = (0)) := (not_congr (i_eq (show (0 : Int32).toInt = 0 from rfl) (show (0 : Int32).toInt = 0 from rfl))).mp c45) | (have t50 : ¬ ((0 : Int32).toInt = (0 : Int32).toInt) := (not_congr (i_eq rfl rfl)).mp c45) | skip
            unfold f_X11_market_b62
            intro x51 ex51
            have rx51 := i_rng x51
            first | (have tx51 : x51.toInt = (v2.toInt + (0)) := by (rw [ex51]; exact (i_add rfl (show (0 : Int32).toInt = 0 from rfl) (by omega) (by omega)))) | (have tx51 : x51.toInt = (v2 + (0 : Int32)).toInt := by rw [ex51])
            intro x52 ex52
            have rx52 := i_rng x52
            first | (have tx52 : x52.toInt = v4.toInt + (1) := by (rw [ex52]; exact (i_add rfl (show (1 : Int32).toInt = 1 from rfl) (by omega) (by omega)))) | skip
            have t53 : (0 : Int32).toInt = 0 := rfl
            exact ih x51 (0 : Int32) x52 Z37 I35 L36 w_I35 bd_Z37 q_I35 cp_Z37   (by omega)  (by omega)
        · skip
          first | (have t54 : r34.toInt = (0) := (i_eq rfl (show (0 : Int32).toInt = 0 from rfl)).mp c43) | (have t54 : r34.toInt = (0 : Int32).toInt := (i_eq rfl rfl).mp c43) | skip
          unfold f_X11_market_b51
          refine ⟨fun c55 => ?_, fun c55 => ?_⟩
          · skip
            first | (have t56 : (1) = (0) := (i_eq (show (1 : Int32).toInt = 1 from rfl) (show (0 : Int32).toInt = 0 from rfl)).mp c55) | (have t56 : (1 : Int32).toInt = (0 : Int32).toInt := (i_eq rfl rfl).mp c55) | skip
            unfold f_X11_market_b62
            intro x57 ex57
            have rx57 := i_rng x57
            first | (have tx57 : x57.toInt = (v2.toInt + (1)) := by (rw [ex57]; exact (i_add rfl (show (1 : Int32).toInt = 1 from rfl) (by omega) (by omega)))) | (have tx57 : x57.toInt = (v2 + (1 : Int32)).toInt := by rw [ex57])
            intro x58 ex58
            have rx58 := i_rng x58
            first | (have tx58 : x58.toInt = v4.toInt + (1) := by (rw [ex58]; exact (i_add rfl (show (1 : Int32).toInt = 1 from rfl) (by omega) (by omega)))) | skip
            have t59 : (1 : Int32).toInt = 1 := rfl
            exact ih x57 (1 : Int32) x58 Z37 I35 L36 w_I35 bd_Z37 q_I35 cp_Z37   (by omega)  (by omega)
          · skip
            first | (have t60 : ¬ ((1) = (0)) := (not_congr (i_eq (show (1 : Int32).toInt = 1 from rfl) (show (0 : Int32).toInt = 0 from rfl))).mp c55) | (have t60 : ¬ ((1 : Int32).toInt = (0 : Int32).toInt) := (not_congr (i_eq rfl rfl)).mp c55) | skip
            unfold f_X11_market_b62
            intro x61 ex61
            have rx61 := i_rng x61
            first | (have tx61 : x61.toInt = (v2.toInt + (0)) := by (rw [ex61]; exact (i_add rfl (show (0 : Int32).toInt = 0 from rfl) (by omega) (by omega)))) | (have tx61 : x61.toInt = (v2 + (0 : Int32)).toInt := by rw [ex61])
            intro x62 ex62
            have rx62 := i_rng x62
            first | (have tx62 : x62.toInt = v4.toInt + (1) := by (rw [ex62]; exact (i_add rfl (show (1 : Int32).toInt = 1 from rfl) (by omega) (by omega)))) | skip
            have t63 : (1 : Int32).toInt = 1 := rfl
            exact ih x61 (1 : Int32) x62 Z37 I35 L36 w_I35 bd_Z37 q_I35 cp_Z37   (by omega)  (by omega)
set_option maxHeartbeats 4000000 in
set_option maxRecDepth 100000 in
theorem s_X11_market {B : Nat × Nat} {T : Nat} {Z : jZ} {I : jI} {L : jL} (w_I : WD Z I) (bd_Z : BUD B Z T) (v0 : Nat) (v1 : Int32) (kv0 : jk Z v0 11) {Q : Int32 → jZ → jI → jL → Prop} (hQ : ∀ (r : Int32) (Z' : jZ) (I' : jI) (L' : jL), WD Z' I' → BUD B Z' T → FR Ws_X11_market Z I Z' I' → CP Z Z' → Q r Z' I' L') : f_X11_market B v0 v1 Z I L Q := by
  unfold f_X11_market
  have q_I : FR Ws_X11_market Z I Z I := FR.rf
  have cp_Z : CP Z Z := CP.rf
  have rv1 := i_rng v1
  refine ⟨fun c64 => ?_, fun c64 => ?_⟩
  · skip
    first | (have t65 : v1.toInt < (1) := (i_lt rfl (show (1 : Int32).toInt = 1 from rfl)).mp c64) | (have t65 : v1.toInt < (1 : Int32).toInt := (i_lt rfl rfl).mp c64) | skip
    have t66 : (-1 : Int32).toInt = -1 := rfl
    exact hQ (-1 : Int32) Z I L w_I bd_Z q_I cp_Z 
  · skip
    first | (have t67 : ¬ (v1.toInt < (1)) := (not_congr (i_lt rfl (show (1 : Int32).toInt = 1 from rfl))).mp c64) | (have t67 : ¬ (v1.toInt < (1 : Int32).toInt) := (not_congr (i_lt rfl rfl)).mp c64) | skip
    refine ⟨fun c68 => ?_, fun c68 => ?_⟩
    · skip
      first | (have t69 : (3) < v1.toInt := (i_lt (show (3 : Int32).toInt = 3 from rfl) rfl).mp c68) | (have t69 : (3 : Int32).toInt < v1.toInt := (i_lt rfl rfl).mp c68) | skip
      have t70 : (-1 : Int32).toInt = -1 := rfl
      exact hQ (-1 : Int32) Z I L w_I bd_Z q_I cp_Z 
    · skip
      first | (have t71 : ¬ ((3) < v1.toInt) := (not_congr (i_lt (show (3 : Int32).toInt = 3 from rfl) rfl)).mp c68) | (have t71 : ¬ ((3 : Int32).toInt < v1.toInt) := (not_congr (i_lt rfl rfl)).mp c68) | skip
      intro b72 eb72
      obtain ⟨x73, ex73, kb72⟩ := sh_o w_I.1 kv0 (j := 2) (k := 8) rfl
      cases eb72.symm.trans ex73
      have t75 : 0 ≤ (I b72 9).toInt ∧ (I b72 9).toInt ≤ 24 := w_I.fld 8 9 kb72 (by decide)
      refine ⟨fun c76 => ?_, fun c76 => ?_⟩
      · skip
        first | (have t77 : ¬ ((I b72 9).toInt = (0)) := (not_congr (i_eq rfl (show (0 : Int32).toInt = 0 from rfl))).mp c76) | (have t77 : ¬ ((I b72 9).toInt = (0 : Int32).toInt) := (not_congr (i_eq rfl rfl)).mp c76) | skip
        have t78 : (0 : Int32).toInt = 0 := rfl
        have t79 : (0 : Int32).toInt = 0 := rfl
        have t80 : (0 : Int32).toInt = 0 := rfl
        exact ⟨(3 - (0 : Int32).toInt).toNat + 1, l_X11_market_L29 w_I v0 v1 kv0   hQ   _ (0 : Int32) (0 : Int32) (0 : Int32) Z I L w_I bd_Z q_I cp_Z   (by omega)  (by omega)⟩
      · skip
        first | (have t81 : (I b72 9).toInt = (0) := (i_eq rfl (show (0 : Int32).toInt = 0 from rfl)).mp c76) | (have t81 : (I b72 9).toInt = (0 : Int32).toInt := (i_eq rfl rfl).mp c76) | skip
        have t82 : (-1 : Int32).toInt = -1 := rfl
        exact hQ (-1 : Int32) Z I L w_I bd_Z q_I cp_Z 
