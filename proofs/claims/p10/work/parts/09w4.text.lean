
set_option maxHeartbeats 4000000 in
set_option maxRecDepth 100000 in
theorem s9_X11_law {Z : jZ} {I : jI} {L : jL} (w_I : WD Z I) (v0 : Nat) (v1 : Int32) (kv0 : jk Z v0 11) (uT : Nat) (huT : jr Z v0 0 = some uT) {Q : Int32 → jI → jL → Prop} (hQ : ∀ (r : Int32) (I' : jI) (L' : jL), WD Z I' → FR Ws_X11_law Z I Z I' → (I' uT 1).toInt = 0 → Q r I' L') : fs_X11_law v0 v1 Z I L Q := by
  unfold fs_X11_law
  have q_I : FR Ws_X11_law Z I Z I := FR.rf
  have rv1 := i_rng v1
  have kuT : jk Z uT 10 := by obtain ⟨b9, e9, k9⟩ := sh_o w_I.1 kv0 (j := 0) (k := 10) rfl; cases huT.symm.trans e9; exact k9
  have t1 : 0 ≤ (I uT 1).toInt ∧ (I uT 1).toInt ≤ 80 := w_I.fld 10 1 kuT (by decide)
  refine ⟨fun c2 => ?_, fun c2 => ?_⟩
  · skip
    first | (have t3 : ¬ (v1.toInt = (0)) := (not_congr (i_eq rfl (show (0 : Int32).toInt = 0 from rfl))).mp c2) | (have t3 : ¬ (v1.toInt = (0 : Int32).toInt) := (not_congr (i_eq rfl rfl)).mp c2) | skip
    refine ⟨fun c4 => ?_, fun c4 => ?_⟩
    · skip
      first | (have t5 : ¬ (v1.toInt = (1)) := (not_congr (i_eq rfl (show (1 : Int32).toInt = 1 from rfl))).mp c4) | (have t5 : ¬ (v1.toInt = (1 : Int32).toInt) := (not_congr (i_eq rfl rfl)).mp c4) | skip
      unfold fs_X11_law_b45
      intro b6 eb6
      obtain rfl : uT = b6 := Option.some.inj (huT.symm.trans eb6)
      refine s9_X10_clear w_I uT kuT   (fun  I8 L9 w_I8 f_I8 p7 => ?_)
      have q_I8 : FR Ws_X11_law Z I Z I8 := q_I.trans w_I.1 w_I.2.1 (f_I8.mono (by decide))
      have t10 : (-100 : Int32).toInt = -100 := rfl
      exact hQ (-100 : Int32) I8 L9 w_I8 q_I8 (by omega)
    · skip
      first | (have t11 : v1.toInt = (1) := (i_eq rfl (show (1 : Int32).toInt = 1 from rfl)).mp c4) | (have t11 : v1.toInt = (1 : Int32).toInt := (i_eq rfl rfl).mp c4) | skip
      intro b12 eb12
      obtain ⟨x13, ex13, kb12⟩ := sh_o w_I.1 kv0 (j := 2) (k := 8) rfl
      cases eb12.symm.trans ex13
      intro b14 eb14
      obtain ⟨x15, ex15, kb14⟩ := sh_o w_I.1 kb12 (j := 7) (k := 3) rfl
      cases eb14.symm.trans ex15
      intro b16 eb16
      obtain rfl : uT = b16 := Option.some.inj (huT.symm.trans eb16)
      refine s_X3_read w_I b14 uT kb14 kuT   (fun r17 I18 L19 w_I18 f_I18  => ?_)
      have q_I18 : FR Ws_X11_law Z I Z I18 := q_I.trans w_I.1 w_I.2.1 (f_I18.mono (by decide))
      have u20 : (I18 uT 1).toInt = (I uT 1).toInt := by rw [f_I18.2.2.1 uT 10 1 kuT (by decide) (by decide)]
      have rr17 := i_rng r17
      unfold fs_X11_law_b45
      intro b21 eb21
      obtain rfl : uT = b21 := Option.some.inj (huT.symm.trans eb21)
      refine s9_X10_clear w_I18 uT kuT   (fun  I23 L24 w_I23 f_I23 p22 => ?_)
      have q_I23 : FR Ws_X11_law Z I Z I23 := q_I18.trans w_I.1 w_I.2.1 (f_I23.mono (by decide))
      exact hQ r17 I23 L24 w_I23 q_I23 (by omega)
  · skip
    first | (have t25 : v1.toInt = (0) := (i_eq rfl (show (0 : Int32).toInt = 0 from rfl)).mp c2) | (have t25 : v1.toInt = (0 : Int32).toInt := (i_eq rfl rfl).mp c2) | skip
    intro b26 eb26
    obtain ⟨x27, ex27, kb26⟩ := sh_o w_I.1 kv0 (j := 2) (k := 8) rfl
    cases eb26.symm.trans ex27
    intro b28 eb28
    obtain ⟨x29, ex29, kb28⟩ := sh_o w_I.1 kb26 (j := 6) (k := 3) rfl
    cases eb28.symm.trans ex29
    intro b30 eb30
    obtain rfl : uT = b30 := Option.some.inj (huT.symm.trans eb30)
    refine s_X3_read w_I b28 uT kb28 kuT   (fun r31 I32 L33 w_I32 f_I32  => ?_)
    have q_I32 : FR Ws_X11_law Z I Z I32 := q_I.trans w_I.1 w_I.2.1 (f_I32.mono (by decide))
    have u34 : (I32 uT 1).toInt = (I uT 1).toInt := by rw [f_I32.2.2.1 uT 10 1 kuT (by decide) (by decide)]
    have rr31 := i_rng r31
    unfold fs_X11_law_b45
    intro b35 eb35
    obtain rfl : uT = b35 := Option.some.inj (huT.symm.trans eb35)
    refine s9_X10_clear w_I32 uT kuT   (fun  I37 L38 w_I37 f_I37 p36 => ?_)
    have q_I37 : FR Ws_X11_law Z I Z I37 := q_I32.trans w_I.1 w_I.2.1 (f_I37.mono (by decide))
    exact hQ r31 I37 L38 w_I37 q_I37 (by omega)
