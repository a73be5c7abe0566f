/-! ===== stairs on both sides: what becomes of each STEP ===== -/
theorem s13_X9_read {Z : jZ} {I : jI} {L : jL} (w : WD Z I) (v0 v1 : Nat) (kv0 : jk Z v0 9) (kv1 : jk Z v1 10) (uB : Nat) (huB : jr Z v1 0 = some uB) (p0 : BY (I uB)) {Q : Int32 → jI → jL → Prop} (hQ : ∀ (r : Int32) (I' : jI) (L' : jL), WD Z I' → FR Ws_X9_read Z I Z I' → (r.toInt = stA (I uB) (I v1 1).toInt ∧ (0 ≤ r.toInt → (I' v0 5).toInt = r.toInt) ∧ (0 ≤ r.toInt → CNt (cT (I uB) (I v1 1).toInt) Z I' v0 r.toInt)) → Q r I' L') : f_X9_read v0 v1 Z I L Q := by
  obtain ⟨b9, e9, kuB, l9⟩ := sh_f w.1 kv1 (j := 0) (k := 13) (m := 80) rfl
  cases huB.symm.trans e9
  exact rc_read w kv0 kv1 huB kuB p0 (fun r I' L' w' f' e e2 e3 => hQ r I' L' w' f' ⟨e, e2, e3⟩)
theorem cpy_all {g f : Nat → Int32} {m s : Nat} (h : s < m) : va_cpy g f (0 : Int32).toNatClampNeg (0 : Int32).toNatClampNeg m s = g s := by
  unfold va_cpy
  rw [show (0 : Int32).toNatClampNeg = 0 from rfl, if_pos (by omega)]
  congr 1
  omega
theorem z24 : (24 : Int32).toNatClampNeg = 24 := rfl
theorem z192 : (192 : Int32).toNatClampNeg = 192 := rfl
theorem z8 : (8 : Int32).toNatClampNeg = 8 := rfl
set_option maxHeartbeats 1000000 in
theorem s13_X8_build {Z : jZ} {I : jI} {L : jL} (w : WD Z I) (v0 v1 : Nat) (kv0 : jk Z v0 8) (kv1 : jk Z v1 9) {Q : jI → jL → Prop} (hQ : ∀ (I' : jI) (L' : jL), WD Z I' → FR Ws_X8_build Z I Z I' → (I' v0 9).toInt = (I v1 5).toInt → (∀ j u u', j < 4 → jr Z v1 j = some u → jr Z v0 j = some u' → ∀ s : Nat, s < 24 → I' u' s = I u s) → Q I' L') : f_X8_build v0 v1 Z I L Q := by
  obtain ⟨r0, hr0, kr0, -⟩ := sh_f w.1 kv1 (j := 0) (k := 14) (m := 24) rfl
  obtain ⟨r1, hr1, kr1, -⟩ := sh_f w.1 kv1 (j := 1) (k := 14) (m := 24) rfl
  obtain ⟨r2, hr2, kr2, -⟩ := sh_f w.1 kv1 (j := 2) (k := 14) (m := 24) rfl
  obtain ⟨r3, hr3, kr3, -⟩ := sh_f w.1 kv1 (j := 3) (k := 14) (m := 24) rfl
  obtain ⟨r4, hr4, kr4, lr4⟩ := sh_f w.1 kv1 (j := 4) (k := 14) (m := 24) rfl
  obtain ⟨a0, ha0, ka0, -⟩ := sh_f w.1 kv0 (j := 0) (k := 14) (m := 24) rfl
  obtain ⟨a1, ha1, ka1, -⟩ := sh_f w.1 kv0 (j := 1) (k := 14) (m := 24) rfl
  obtain ⟨a2, ha2, ka2, -⟩ := sh_f w.1 kv0 (j := 2) (k := 14) (m := 24) rfl
  obtain ⟨a3, ha3, ka3, -⟩ := sh_f w.1 kv0 (j := 3) (k := 14) (m := 24) rfl
  obtain ⟨a4, ha4, ka4⟩ := sh_o w.1 kv0 (j := 4) (k := 4) rfl
  have x89 : ∀ {j j' a r}, jr Z v0 j = some a → jr Z v1 j' = some r → jsr 8 j = false → jsr 9 j' = false → r ≠ a := fun ha hr s s' e => by
    subst e
    have := (w.2.1.2.2 _ _ _ _ _ _ _ kv0 kv1 ha hr s s').1
    exact ks_ne kv0 kv1 (by decide) this
  have t5 : 0 ≤ (I v1 5).toInt ∧ (I v1 5).toInt ≤ 24 := w.fld 9 5 kv1 (by decide)
  unfold f_X8_build
  intro I1 e1
  have w1 : WD Z I1 := by rw [e1]; exact WD_putF w 8 9 kv0 (by decide) (by decide) ⟨by omega, by omega⟩
  have f1 : FR Ws_X8_build Z I Z I1 := by rw [e1]; exact FR_putF kv0 (by decide) (by decide)
  have o1 : ∀ a, a ≠ v0 → I1 a = I a := fun a ha => by rw [e1]; exact jpI_ne ha
  intro b2 e2
  cases hr0.symm.trans e2
  intro b3 e3
  cases ha0.symm.trans e3
  refine ⟨by decide, ?_⟩
  intro I5 e5
  have w5 : WD Z I5 := by rw [e5]; exact WD_cpy w1 8 0 kv0 ha0 ka0 rfl rfl (by decide) (fun _ _ _ => trivial)
  have f5 : FR Ws_X8_build Z I Z I5 := f1.trans w.1 w.2.1 (by rw [e5]; exact FR_upA w1.2.1 kv0 ha0 ka0 rfl rfl (by decide))
  have o5 : ∀ a, a ≠ a0 → I5 a = I1 a := fun a ha => by rw [e5]; exact va_up_ne _ _ ha
  intro b6 e6
  cases hr1.symm.trans e6
  intro b7 e7
  cases ha1.symm.trans e7
  refine ⟨by decide, ?_⟩
  intro I9 e9
  have w9 : WD Z I9 := by rw [e9]; exact WD_cpy w5 8 1 kv0 ha1 ka1 rfl rfl (by decide) (fun _ _ _ => trivial)
  have f9 : FR Ws_X8_build Z I Z I9 := f5.trans w.1 w.2.1 (by rw [e9]; exact FR_upA w5.2.1 kv0 ha1 ka1 rfl rfl (by decide))
  have o9 : ∀ a, a ≠ a1 → I9 a = I5 a := fun a ha => by rw [e9]; exact va_up_ne _ _ ha
  intro b10 e10
  cases hr2.symm.trans e10
  intro b11 e11
  cases ha2.symm.trans e11
  refine ⟨by decide, ?_⟩
  intro I13 e13
  have g2 : ∀ q, rg 0 20 (I9 r2 q) := fun q => w9.arr 9 2 kv1 hr2 kr2 rfl rfl q
  have w13 : WD Z I13 := by rw [e13]; exact WD_cpy w9 8 2 kv0 ha2 ka2 rfl rfl (by decide) (fun q _ _ => g2 _)
  have f13 : FR Ws_X8_build Z I Z I13 := f9.trans w.1 w.2.1 (by rw [e13]; exact FR_upA w9.2.1 kv0 ha2 ka2 rfl rfl (by decide))
  have o13 : ∀ a, a ≠ a2 → I13 a = I9 a := fun a ha => by rw [e13]; exact va_up_ne _ _ ha
  intro b14 e14
  cases hr3.symm.trans e14
  intro b15 e15
  cases ha3.symm.trans e15
  refine ⟨by decide, ?_⟩
  intro I17 e17
  have w17 : WD Z I17 := by rw [e17]; exact WD_cpy w13 8 3 kv0 ha3 ka3 rfl rfl (by decide) (fun _ _ _ => trivial)
  have f17 : FR Ws_X8_build Z I Z I17 := f13.trans w.1 w.2.1 (by rw [e17]; exact FR_upA w13.2.1 kv0 ha3 ka3 rfl rfl (by decide))
  have o17 : ∀ a, a ≠ a3 → I17 a = I13 a := fun a ha => by rw [e17]; exact va_up_ne _ _ ha
  intro b18 e18
  cases ha4.symm.trans e18
  intro b19 e19
  cases hr4.symm.trans e19
  have d : ∀ {j j' b b'}, jr Z v0 j = some b → jr Z v0 j' = some b' → jsr 8 j = false → jsr 8 j' = false → j ≠ j' → b ≠ b' := fun h h' s s' n => ds_ne w.2.1 kv0 h h' s s' n
  have y0 : ∀ s : Nat, s < 24 → I17 a0 s = I r0 s := fun s hs => by
    rw [o17 a0 (d ha0 ha3 rfl rfl (by decide)), o13 a0 (d ha0 ha2 rfl rfl (by decide)), o9 a0 (d ha0 ha1 rfl rfl (by decide)), e5, va_up_self, z24, cpy_all hs, o1 r0 (ks_ne kr0 kv0 (by decide))]
  have y1 : ∀ s : Nat, s < 24 → I17 a1 s = I r1 s := fun s hs => by
    rw [o17 a1 (d ha1 ha3 rfl rfl (by decide)), o13 a1 (d ha1 ha2 rfl rfl (by decide)), e9, va_up_self, z24, cpy_all hs, o5 r1 (x89 ha0 hr1 rfl rfl), o1 r1 (ks_ne kr1 kv0 (by decide))]
  have y2 : ∀ s : Nat, s < 24 → I17 a2 s = I r2 s := fun s hs => by
    rw [o17 a2 (d ha2 ha3 rfl rfl (by decide)), e13, va_up_self, z24, cpy_all hs, o9 r2 (x89 ha1 hr2 rfl rfl), o5 r2 (x89 ha0 hr2 rfl rfl), o1 r2 (ks_ne kr2 kv0 (by decide))]
  have y3 : ∀ s : Nat, s < 24 → I17 a3 s = I r3 s := fun s hs => by
    rw [e17, va_up_self, z24, cpy_all hs, o13 r3 (x89 ha2 hr3 rfl rfl), o9 r3 (x89 ha1 hr3 rfl rfl), o5 r3 (x89 ha0 hr3 rfl rfl), o1 r3 (ks_ne kr3 kv0 (by decide))]
  refine s_X4_deal w17 a4 r4 _ ka4 kr4 v1 9 4 kv1 hr4 lr4 (fun I22 L22 w22 f22 => ?_)
  refine hQ I22 L22 w22 (f17.trans w.1 w.2.1 (f22.mono (by decide))) ?_ (fun j u u' hj hu hu' s hs => ?_)
  · rw [f22.2.2.1 v0 8 9 kv0 (by decide) (by decide), o17 v0 (ks_ne kv0 ka3 (by decide)), o13 v0 (ks_ne kv0 ka2 (by decide)), o9 v0 (ks_ne kv0 ka1 (by decide)), o5 v0 (ks_ne kv0 ka0 (by decide)), e1, jpI_at]
  · have hj : j = 0 ∨ j = 1 ∨ j = 2 ∨ j = 3 := by omega
    rcases hj with rfl | rfl | rfl | rfl
    · cases hr0.symm.trans hu; cases ha0.symm.trans hu'
      rw [f22.2.2.2 v0 8 0 a0 kv0 ha0 (by rw [ka0.2]; rfl) rfl (by decide)]; exact y0 s hs
    · cases hr1.symm.trans hu; cases ha1.symm.trans hu'
      rw [f22.2.2.2 v0 8 1 a1 kv0 ha1 (by rw [ka1.2]; rfl) rfl (by decide)]; exact y1 s hs
    · cases hr2.symm.trans hu; cases ha2.symm.trans hu'
      rw [f22.2.2.2 v0 8 2 a2 kv0 ha2 (by rw [ka2.2]; rfl) rfl (by decide)]; exact y2 s hs
    · cases hr3.symm.trans hu; cases ha3.symm.trans hu'
      rw [f22.2.2.2 v0 8 3 a3 kv0 ha3 (by rw [ka3.2]; rfl) rfl (by decide)]; exact y3 s hs
/-- the STEPS of the class as a text tells them -/
def CF (cc : Nat → Nat → Int) (Z : jZ) (I : jI) (uF : Nat) (n : Int) : Prop := ∀ j u, j < 4 → jr Z uF j = some u → ∀ s : Nat, (s : Int) < n → (I u s).toInt = cc j s
theorem s13_X11_stairs {Z : jZ} {I : jI} {L : jL} (w : WD Z I) (v0 : Nat) (kv0 : jk Z v0 11) (uT : Nat) (huT : jr Z v0 0 = some uT) (uB : Nat) (huB : jr Z uT 0 = some uB) (uF : Nat) (huF : jr Z v0 2 = some uF) (uN : Nat) (huN : jr Z v0 1 = some uN) (p0 : BY (I uB)) (uS : Nat) (huS : jr Z v0 8 = some uS) {Q : Int32 → jI → jL → Prop}
    (hQ : ∀ (r : Int32) (I' : jI) (L' : jL), WD Z I' → FR Ws_X11_stairs Z I Z I' → ((I' uT 1).toInt = 0 ∧ r.toInt = stA (I uB) (I uT 1).toInt ∧ (0 ≤ r.toInt → (I' uF 9).toInt = r.toInt) ∧ (r.toInt < 0 → (I' uF 9).toInt = (I uF 9).toInt) ∧ (r.toInt < 0 → ∀ b, jk Z b 2 → I' b 8 = I b 8) ∧ (0 ≤ r.toInt → ∀ i b, i < 2 → jr Z uS i = some b → I' b 8 = 0)) → ((0 ≤ r.toInt → CF (cT (I uB) (I uT 1).toInt) Z I' uF r.toInt) ∧ (r.toInt < 0 → ∀ j u, j < 4 → jr Z uF j = some u → I' u = I u)) → Q r I' L') : f_X11_stairs v0 Z I L Q := by
  have kT : jk Z uT 10 := by obtain ⟨b9, e9, k9⟩ := sh_o w.1 kv0 (j := 0) (k := 10) rfl; cases huT.symm.trans e9; exact k9
  have kF : jk Z uF 8 := by obtain ⟨b9, e9, k9⟩ := sh_o w.1 kv0 (j := 2) (k := 8) rfl; cases huF.symm.trans e9; exact k9
  have kN : jk Z uN 9 := by obtain ⟨b9, e9, k9⟩ := sh_o w.1 kv0 (j := 1) (k := 9) rfl; cases huN.symm.trans e9; exact k9
  obtain ⟨x, ex, kS, lS⟩ := sh_f w.1 kv0 (j := 8) (k := 17) (m := 2) rfl
  cases huS.symm.trans ex
  obtain ⟨uE, hE, kE, lE⟩ := sh_f w.1 kv0 (j := 5) (k := 14) (m := 8) rfl
  have kj : ∀ j u, j < 4 → jr Z uF j = some u → jk Z u 14 := fun j u hj hu => by
    have hj : j = 0 ∨ j = 1 ∨ j = 2 ∨ j = 3 := by omega
    rcases hj with rfl | rfl | rfl | rfl
    · obtain ⟨b, e, kb, -⟩ := sh_f w.1 kF (j := 0) (k := 14) (m := 24) rfl; cases hu.symm.trans e; exact kb
    · obtain ⟨b, e, kb, -⟩ := sh_f w.1 kF (j := 1) (k := 14) (m := 24) rfl; cases hu.symm.trans e; exact kb
    · obtain ⟨b, e, kb, -⟩ := sh_f w.1 kF (j := 2) (k := 14) (m := 24) rfl; cases hu.symm.trans e; exact kb
    · obtain ⟨b, e, kb, -⟩ := sh_f w.1 kF (j := 3) (k := 14) (m := 24) rfl; cases hu.symm.trans e; exact kb
  have fk : ∀ {W : List (Nat × Nat)} {A C : jI}, FR W Z A Z C → ((8, 0) ∉ W ∧ (8, 1) ∉ W ∧ (8, 2) ∉ W ∧ (8, 3) ∉ W) → ∀ j u, j < 4 → jr Z uF j = some u → C u = A u := fun f hn j u hj hu => by
    refine f.2.2.2 uF 8 j u kF hu (by rw [(kj j u hj hu).2]; rfl) ?_ ?_
    · have hj : j = 0 ∨ j = 1 ∨ j = 2 ∨ j = 3 := by omega
      rcases hj with rfl | rfl | rfl | rfl <;> rfl
    · have hj : j = 0 ∨ j = 1 ∨ j = 2 ∨ j = 3 := by omega
      rcases hj with rfl | rfl | rfl | rfl
      · exact hn.1
      · exact hn.2.1
      · exact hn.2.2.1
      · exact hn.2.2.2
  unfold f_X11_stairs
  intro b33 e33
  cases huN.symm.trans e33
  intro b34 e34
  cases huT.symm.trans e34
  refine s13_X9_read w uN uT kN kT uB huB p0 (fun r I1 L1 w1 f1 p1 => ?_)
  intro b42 e42
  cases huT.symm.trans e42
  refine s9_X10_clear w1 uT kT (fun I2 L2 w2 f2 p2 => ?_)
  have g2 : FR Ws_X11_stairs Z I Z I2 := (f1.mono (by decide)).trans w.1 w.2.1 (f2.mono (by decide))
  refine ⟨fun c => ?_, fun c => ?_⟩
  · have c := (i_le (x := 0) (y := r) (show (0 : Int32).toInt = 0 from rfl) rfl).mp c
    intro b50 e50
    cases huF.symm.trans e50
    intro b51 e51
    cases huN.symm.trans e51
    refine s13_X8_build w2 uF uN kF kN (fun I3 L3 w3 f3 p3 y3 => ?_)
    have g3 : FR Ws_X11_stairs Z I Z I3 := g2.trans w.1 w.2.1 (f3.mono (by decide))
    have s3 : (I3 uF 9).toInt = r.toInt := by rw [p3, f2.2.2.1 uN 9 5 kN (by decide) (by decide)]; exact p1.2.1 c
    have t3 : (I3 uT 1).toInt = 0 := by rw [f3.2.2.1 uT 10 1 kT (by decide) (by decide)]; exact p2
    have r24 : r.toInt ≤ 24 := by have := (show rg 0 24 (I3 uF 9) from w3.fld 8 9 kF (by decide)).2; omega
    have c3 : CF (cT (I uB) (I uT 1).toInt) Z I3 uF r.toInt := by
      intro j u hj hu s hs
      have hj5 : j = 0 ∨ j = 1 ∨ j = 2 ∨ j = 3 := by omega
      obtain ⟨a, ha, ka⟩ : ∃ a, jr Z uN j = some a ∧ jk Z a 14 := by
        rcases hj5 with rfl | rfl | rfl | rfl
        · obtain ⟨b, e, kb, -⟩ := sh_f w.1 kN (j := 0) (k := 14) (m := 24) rfl; exact ⟨b, e, kb⟩
        · obtain ⟨b, e, kb, -⟩ := sh_f w.1 kN (j := 1) (k := 14) (m := 24) rfl; exact ⟨b, e, kb⟩
        · obtain ⟨b, e, kb, -⟩ := sh_f w.1 kN (j := 2) (k := 14) (m := 24) rfl; exact ⟨b, e, kb⟩
        · obtain ⟨b, e, kb, -⟩ := sh_f w.1 kN (j := 3) (k := 14) (m := 24) rfl; exact ⟨b, e, kb⟩
      rw [y3 j a u hj ha hu s (by omega)]
      have e2 : I2 a = I1 a := by
        refine f2.2.2.2 uN 9 j a kN ha (by rw [ka.2]; rfl) ?_ ?_
        · rcases hj5 with rfl | rfl | rfl | rfl <;> rfl
        · rcases hj5 with rfl | rfl | rfl | rfl <;> decide
      rw [e2]
      exact p1.2.2 c j a (by omega) ha s hs
    refine ⟨7, hk_L38 w3 v0 kv0 r (fun I4 L4 w4 f4 => ?_) 7 0 I3 L3 w3 FR.rf (by decide) (by decide) (by decide)⟩
    intro b10 e10
    cases hE.symm.trans e10
    have g4 : FR Ws_X11_stairs Z I Z I4 := g3.trans w.1 w.2.1 (f4.mono (by decide))
    refine s_J7_fill_53178 w4 uE 0 kE v0 11 5 kv0 hE (by decide) rfl (by rw [lE]; omega) (fun _ => trivial) (fun I5 L5 w5 f5 => ?_)
    have g5 : FR Ws_X11_stairs Z I Z I5 := g4.trans w.1 w.2.1 (f5.mono (by decide))
    refine ⟨3, hk_L76 w5 v0 r uS huS kS lS (fun I6 L6 w6 f6 z6 => ?_) 3 0 0 I5 L5 w5 FR.rf rfl (by omega) (fun k b hk => absurd hk (Nat.not_lt_zero k)) (by omega)⟩
    refine hQ r I6 L6 w6 (g5.trans w.1 w.2.1 (f6.mono (by decide))) ⟨?_, p1.1, fun _ => ?_, fun h => absurd c (by omega), fun h => absurd c (by omega), fun _ => z6⟩ ⟨fun _ => ?_, fun h => absurd c (by omega)⟩
    · rw [f6.2.2.1 uT 10 1 kT (by decide) (by decide), f5.2.2.1 uT 10 1 kT (by decide) (by decide), f4.2.2.1 uT 10 1 kT (by decide) (by decide)]; exact t3
    · rw [f6.2.2.1 uF 8 9 kF (by decide) (by decide), f5.2.2.1 uF 8 9 kF (by decide) (by decide), f4.2.2.1 uF 8 9 kF (by decide) (by decide)]; exact s3
    · intro j u hj hu s hs
      rw [fk f6 (by decide) j u hj hu, fk f5 (by decide) j u hj hu, fk f4 (by decide) j u hj hu]
      exact c3 j u hj hu s hs
  · have c := (not_congr (i_le (x := 0) (y := r) (show (0 : Int32).toInt = 0 from rfl) rfl)).mp c
    refine hQ r I2 L2 w2 g2 ⟨p2, p1.1, fun h => absurd h c, fun _ => ?_, fun _ b kb => ?_, fun h => absurd h c⟩ ⟨fun h => absurd h c, fun _ j u hj hu => ?_⟩
    · rw [f2.2.2.1 uF 8 9 kF (by decide) (by decide), f1.2.2.1 uF 8 9 kF (by decide) (by decide)]
    · rw [f2.2.2.1 b 2 8 kb (by decide) (by decide), f1.2.2.1 b 2 8 kb (by decide) (by decide)]
    · rw [fk f2 (by decide) j u hj hu, fk f1 (by decide) j u hj hu]
/-- the reference lays the STEPS out -/
def MC (cc : Nat → Nat → Int) (I : jI) (u1 u2 u3 u4 u5 : Nat) (i : Nat) : Prop := ∀ q : Nat, q < i → (I u1 q).toInt = cc 0 q ∧ (I u2 q).toInt = cc 1 q ∧ (I u3 q).toInt = cc 2 q ∧ (I u4 q).toInt = cc 3 q ∧ ∀ g : Nat, g < 8 → (I u5 (8 * q + g)).toInt = if (g : Int) = cc 4 q then 720 else 0
theorem st_L301 {B : Nat × Nat} {Z : jZ} {J : jI} (wJ : WD Z J) (v0 : Nat) (v1 : Int32) (kv0 : jk Z v0 12) {Q : Int32 → jZ → jI → jL → Prop}
    (hQ : ∀ (I : jI) (L : jL), WD Z I → FR [(12, 14), (12, 15), (12, 16)] Z J Z I → Q v1 Z I L) :
    ∀ (m : Nat) (v3 : Int32) (I : jI) (L : jL), WD Z I → FR [(12, 14), (12, 15), (12, 16)] Z J Z I → 0 ≤ v3.toInt → v3.toInt ≤ 6 → 7 ≤ (m : Int) + v3.toInt → f_X12_stairs_L301 B Q m v0 v1 v3 Z I L := by
  obtain ⟨u9, h9, k9, l9⟩ := sh_f wJ.1 kv0 (j := 9) (k := 14) (m := 6) rfl
  obtain ⟨u10, h10, k10, l10⟩ := sh_f wJ.1 kv0 (j := 10) (k := 14) (m := 6) rfl
  obtain ⟨u14, h14, k14, l14⟩ := sh_f wJ.1 kv0 (j := 14) (k := 14) (m := 6) rfl
  obtain ⟨u15, h15, k15, l15⟩ := sh_f wJ.1 kv0 (j := 15) (k := 14) (m := 6) rfl
  obtain ⟨u16, h16, k16, l16⟩ := sh_f wJ.1 kv0 (j := 16) (k := 14) (m := 6) rfl
  intro m
  induction m with
  | zero => intro v3 I L w f h0 h1 h2; exfalso; omega
  | succ m ih =>
    intro v3 I L w f h0 h1 h2
    have t8 : 0 ≤ (I v0 8).toInt ∧ (I v0 8).toInt ≤ 6 := w.fld 12 8 kv0 (by decide)
    unfold f_X12_stairs_L301
    refine ⟨fun c => hQ I L w f, fun c => ?_⟩
    have c := (not_congr (i_le (x := I v0 8) (y := v3) rfl rfl)).mp c
    intro b2 e2
    cases h14.symm.trans e2
    refine ⟨vi_of rfl (by omega) (by omega), ?_⟩
    intro I4 e4
    have w4 : WD Z I4 := by rw [e4]; exact WD_putA w 12 14 kv0 h14 k14 rfl rfl (by decide) ⟨by decide, by decide⟩
    have f4 : FR [(12, 14), (12, 15), (12, 16)] Z J Z I4 := f.trans wJ.1 wJ.2.1 (by rw [e4]; exact FR_upA w.2.1 kv0 h14 k14 rfl rfl (by decide))
    intro b5 e5
    cases h15.symm.trans e5
    intro b6 e6
    cases h9.symm.trans e6
    refine ⟨vi_of rfl (by omega) (by omega), vi_of rfl (by omega) (by omega), ?_⟩
    intro I9 e9
    have w9 : WD Z I9 := by rw [e9]; exact WD_putA w4 12 15 kv0 h15 k15 rfl rfl (by decide) trivial
    have f9 : FR [(12, 14), (12, 15), (12, 16)] Z J Z I9 := f4.trans wJ.1 wJ.2.1 (by rw [e9]; exact FR_upA w4.2.1 kv0 h15 k15 rfl rfl (by decide))
    intro b10 e10
    cases h16.symm.trans e10
    intro b11 e11
    cases h10.symm.trans e11
    refine ⟨vi_of rfl (by omega) (by omega), vi_of rfl (by omega) (by omega), ?_⟩
    intro I14 e14
    have w14 : WD Z I14 := by rw [e14]; exact WD_putA w9 12 16 kv0 h16 k16 rfl rfl (by decide) trivial
    have f14 : FR [(12, 14), (12, 15), (12, 16)] Z J Z I14 := f9.trans wJ.1 wJ.2.1 (by rw [e14]; exact FR_upA w9.2.1 kv0 h16 k16 rfl rfl (by decide))
    intro x15 e15
    have t15 : x15.toInt = v3.toInt + 1 := by rw [e15]; exact i_add rfl (show (1 : Int32).toInt = 1 from rfl) (by omega) (by omega)
    exact ih x15 I14 L w14 f14 (by omega) (by omega) (by omega)
theorem st_L280 {B : Nat × Nat} {Z : jZ} {J : jI} (wJ : WD Z J) (v0 : Nat) (v1 : Int32) (kv0 : jk Z v0 12) {Q : Int32 → jZ → jI → jL → Prop}
    (hQ : ∀ (I : jI) (L : jL), WD Z I → FR [(12, 14), (12, 15), (12, 16), (12, 17)] Z J Z I → Q v1 Z I L) :
    ∀ (m : Nat) (v3 : Int32) (I : jI) (L : jL), WD Z I → FR [(12, 14), (12, 15), (12, 16), (12, 17)] Z J Z I → 0 ≤ v3.toInt → v3.toInt ≤ 8 → 9 ≤ (m : Int) + v3.toInt → f_X12_stairs_L280 B Q m v0 v1 v3 Z I L := by
  obtain ⟨u17, h17, k17, l17⟩ := sh_f wJ.1 kv0 (j := 17) (k := 14) (m := 8) rfl
  intro m
  induction m with
  | zero => intro v3 I L w f h0 h1 h2; exfalso; omega
  | succ m ih =>
    intro v3 I L w f h0 h1 h2
    unfold f_X12_stairs_L280
    refine ⟨fun c => ⟨7, st_L301 w v0 v1 kv0 (fun I' L' w' f' => hQ I' L' w' (f.trans wJ.1 wJ.2.1 (f'.mono (by decide)))) 7 0 I L w FR.rf (by decide) (by decide) (by decide)⟩, fun c => ?_⟩
    have c := (not_congr (i_le (x := 8) (y := v3) (show (8 : Int32).toInt = 8 from rfl) rfl)).mp c
    intro b18 e18
    cases h17.symm.trans e18
    refine ⟨vi_of rfl (by omega) (by omega), ?_⟩
    intro I20 e20
    have w20 : WD Z I20 := by rw [e20]; exact WD_putA w 12 17 kv0 h17 k17 rfl rfl (by decide) trivial
    have f20 : FR [(12, 14), (12, 15), (12, 16), (12, 17)] Z J Z I20 := f.trans wJ.1 wJ.2.1 (by rw [e20]; exact FR_upA w.2.1 kv0 h17 k17 rfl rfl (by decide))
    intro x21 e21
    have t21 : x21.toInt = v3.toInt + 1 := by rw [e21]; exact i_add rfl (show (1 : Int32).toInt = 1 from rfl) (by omega) (by omega)
    exact ih x21 I20 L w20 f20 (by omega) (by omega) (by omega)
theorem st_L185 {B : Nat × Nat} {Z : jZ} {J : jI} (wJ : WD Z J) (v0 : Nat) (v1 v3 : Int32) (kv0 : jk Z v0 12) (u4 : Nat) (h4 : jr Z v0 4 = some u4) (k4 : jk Z u4 16) (l4 : jlen Z u4 = 24) (u5 : Nat) (h5 : jr Z v0 5 = some u5) (k5 : jk Z u5 14) (l5 : jlen Z u5 = 192) (u28 : Nat) (h28 : jr Z v0 28 = some u28) (k28 : jk Z u28 14) (i : Nat) (ei : v3.toInt = (i : Int)) (hi : i < 24) (W F : Int) (eW : (J u28 (5 * i + 4)).toInt = W) (hW : W = 0 ∨ W = 1) (eF : (J u28 (5 * i + 3)).toInt = F)
    {K : Nat → Int32 → Int32 → jZ → jI → jL → Prop} {Q : Int32 → jZ → jI → jL → Prop}
    (hK : ∀ (I : jI) (L : jL) (x : Int32), WD Z I → FR [(12, 4), (12, 5)] Z J Z I → x.toInt = ((i + 1 : Nat) : Int) → (I u4 i).toInt = W → (∀ z, z ≠ i → I u4 z = J u4 z) → (∀ g : Nat, g < 8 → (I u5 (8 * i + g)).toInt = if (g : Int) = F then 720 else 0) → (∀ z, (z < 8 * i ∨ 8 * i + 8 ≤ z) → I u5 z = J u5 z) → K v0 v1 x Z I L) :
    ∀ (m f : Nat) (v4 : Int32) (I : jI) (L : jL), WD Z I → FR [(12, 4), (12, 5)] Z J Z I → v4.toInt = (f : Int) → f ≤ 8 → I u4 = J u4 → (∀ g : Nat, g < f → (I u5 (8 * i + g)).toInt = if (g : Int) = F then 720 else 0) → (∀ z, (z < 8 * i ∨ 8 * i + f ≤ z) → I u5 z = J u5 z) → 9 ≤ m + f → f_X12_stairs_L185 B K Q m v0 v1 v3 v4 Z I L := by
  have n45 : u4 ≠ u5 := ks_ne k4 k5 (by decide)
  have z1 : (1 : Int32).toInt = 1 := rfl
  have d4 : (((5 : Int32) * v3) + (4 : Int32)).toInt = 5 * (i : Int) + 4 := i_add (i_mul (show (5 : Int32).toInt = 5 from rfl) ei (by omega) (by omega)) (show (4 : Int32).toInt = 4 from rfl) (by omega) (by omega)
  have d3 : (((5 : Int32) * v3) + (3 : Int32)).toInt = 5 * (i : Int) + 3 := i_add (i_mul (show (5 : Int32).toInt = 5 from rfl) ei (by omega) (by omega)) (show (3 : Int32).toInt = 3 from rfl) (by omega) (by omega)
  have q4 := i_nat d4 (by omega)
  have q4 : (((5 : Int32) * v3) + (4 : Int32)).toNatClampNeg = 5 * i + 4 := by omega
  have q3 := i_nat d3 (by omega)
  have q3 : (((5 : Int32) * v3) + (3 : Int32)).toNatClampNeg = 5 * i + 3 := by omega
  have qi := i_nat ei (by omega)
  have qi : v3.toNatClampNeg = i := by omega
  intro m
  induction m with
  | zero => intro f v4 I L w fr e1 e2 e3 e4 e5 e6; exfalso; omega
  | succ m ih =>
    intro f v4 I L w fr e1 e2 e3 e4 e5 e6
    have e28 : I u28 = J u28 := fr.2.2.2 v0 12 28 u28 kv0 h28 (by rw [k28.2]; rfl) rfl (by decide)
    unfold f_X12_stairs_L185
    refine ⟨fun c => ?_, fun c => ?_⟩
    · have c := (i_le (show (8 : Int32).toInt = 8 from rfl) e1).mp c
      have ef : f = 8 := by omega
      subst ef
      have fin : ∀ s2 : Int32, (vp_nar .boolean s2).toInt = W → f_X12_stairs_b256 B K Q v0 v1 v3 u4 v3 s2 Z I L := fun s2 hs => by
        unfold f_X12_stairs_b256
        refine ⟨by rw [l4]; exact vi_of ei (by omega) (by omega), ?_⟩
        intro I23 e23 x24 e24
        rw [qi] at e23
        have w23 : WD Z I23 := by rw [e23]; exact WD_putA w 12 4 kv0 h4 k4 rfl rfl (by decide) trivial
        have f23 : FR [(12, 4), (12, 5)] Z J Z I23 := fr.trans wJ.1 wJ.2.1 (by rw [e23]; exact FR_upA w.2.1 kv0 h4 k4 rfl rfl (by decide))
        refine hK I23 L x24 w23 f23 ?_ ?_ (fun z hz => ?_) (fun g hg => ?_) (fun z hz => ?_)
        · rw [e24]; exact (i_add ei z1 (by omega) (by omega)).trans (by omega)
        · rw [e23, jpI_at]; exact hs
        · rw [e23, jpI_off hz, e3]
        · rw [e23, jpI_ne (fun e => n45 e.symm)]; exact e4 g hg
        · rw [e23, jpI_ne (fun e => n45 e.symm)]; exact e5 z hz
      intro b29 h29
      cases h4.symm.trans h29
      intro b30 h30
      cases h28.symm.trans h30
      refine ⟨vi_of d4 (by omega) (by omega), fun c2 => fin 0 ?_, fun c2 => fin 1 ?_⟩
      · rw [q4, e28] at c2
        have c2 := (not_congr (i_eq (x := J u28 (5 * i + 4)) (y := 1) rfl z1)).mp c2
        have : W = 0 := by omega
        rw [this]
        decide
      · rw [q4, e28] at c2
        have c2 := (i_eq (x := J u28 (5 * i + 4)) (y := 1) rfl z1).mp c2
        have : W = 1 := by omega
        rw [this]
        decide
    · have c := (not_congr (i_le (show (8 : Int32).toInt = 8 from rfl) e1)).mp c
      have d8 : (((8 : Int32) * v3) + v4).toInt = 8 * (i : Int) + (f : Int) := i_add (i_mul (show (8 : Int32).toInt = 8 from rfl) ei (by omega) (by omega)) e1 (by omega) (by omega)
      have q8 := i_nat d8 (by omega)
      have q8 : (((8 : Int32) * v3) + v4).toNatClampNeg = 8 * i + f := by omega
      have go : ∀ s2 : Int32, s2.toInt = (if (f : Int) = F then 720 else 0) → f_X12_stairs_b225 B K (f_X12_stairs_L185 B K Q m) Q v0 v1 v3 v4 u5 (((8 : Int32) * v3) + v4) s2 Z I L := fun s2 hs => by
        unfold f_X12_stairs_b225
        refine ⟨by rw [l5]; exact vi_of d8 (by omega) (by omega), ?_⟩
        intro I26 e26 x27 e27
        rw [q8] at e26
        have w26 : WD Z I26 := by rw [e26]; exact WD_putA w 12 5 kv0 h5 k5 rfl rfl (by decide) trivial
        have f26 : FR [(12, 4), (12, 5)] Z J Z I26 := fr.trans wJ.1 wJ.2.1 (by rw [e26]; exact FR_upA w.2.1 kv0 h5 k5 rfl rfl (by decide))
        have t27 : x27.toInt = ((f + 1 : Nat) : Int) := by rw [e27]; exact (i_add e1 z1 (by omega) (by omega)).trans (by omega)
        refine ih (f + 1) x27 I26 L w26 f26 t27 (by omega) ?_ (fun g hg => ?_) (fun z hz => ?_) (by omega)
        · rw [e26, jpI_ne n45]; exact e3
        · by_cases q : g = f
          · rw [e26, q, jpI_at]; exact hs
          · rw [e26, jpI_off (by omega)]; exact e4 g (by omega)
        · rw [e26, jpI_off (by omega)]; exact e5 z (by omega)
      intro b33 h33
      cases h5.symm.trans h33
      intro b34 h34
      cases h28.symm.trans h34
      refine ⟨vi_of d3 (by omega) (by omega), fun c2 => go 0 ?_, fun c2 => go 720 ?_⟩
      · rw [q3, e28] at c2
        have c2 := (not_congr (i_eq (x := v4) (y := J u28 (5 * i + 3)) e1 eF)).mp c2
        rw [if_neg c2]; rfl
      · rw [q3, e28] at c2
        have c2 := (i_eq (x := v4) (y := J u28 (5 * i + 3)) e1 eF).mp c2
        rw [if_pos c2]; rfl
theorem cS_w {g : Int → Int} : ∀ (k : Nat) (a n : Int) (s : Nat), cS g k a n 3 s = 0 ∨ cS g k a n 3 s = 1 := by
  intro k
  induction k with
  | zero => intro a n s; exact Or.inl rfl
  | succ k ih =>
    intro a n s
    by_cases c : (s : Int) < n + (lnA g a n).2.2
    · rw [cS_here c]
      show (if _ then (1 : Int) else 0) = 0 ∨ (if _ then (1 : Int) else 0) = 1
      split
      · exact Or.inr rfl
      · exact Or.inl rfl
    · rw [cS_step c]; exact ih _ _ s
set_option maxHeartbeats 2000000 in
theorem st_L131 {B : Nat × Nat} {cc : Nat → Nat → Int} {Z : jZ} {J : jI} (wJ : WD Z J) (v0 : Nat) (v1 : Int32) (kv0 : jk Z v0 12) (u1 u2 u3 u4 u5 u28 : Nat) (h1 : jr Z v0 1 = some u1) (h2 : jr Z v0 2 = some u2) (h3 : jr Z v0 3 = some u3) (h4 : jr Z v0 4 = some u4) (h5 : jr Z v0 5 = some u5) (h28 : jr Z v0 28 = some u28) (n : Nat) (en : v1.toInt = (n : Int)) (hn : n ≤ 24) (hw : ∀ s, cc 3 s = 0 ∨ cc 3 s = 1) (cm : CM cc Z J v0 (n : Int)) {Q : Int32 → jZ → jI → jL → Prop}
    (hQ : ∀ (I I38 I39 : jI) (L : jL), WD Z I → FR [(12, 1), (12, 2), (12, 3), (12, 4), (12, 5)] Z J Z I → MC cc I u1 u2 u3 u4 u5 n → I38 = jpI I v0 7 ((I v0 7) + (1 : Int32)) → I39 = jpI I38 v0 52 (0 : Int32) → ∃ m280, f_X12_stairs_L280 B Q m280 v0 v1 (0 : Int32) Z I39 L) :
    ∀ (m i : Nat) (v3 : Int32) (I : jI) (L : jL), WD Z I → FR [(12, 1), (12, 2), (12, 3), (12, 4), (12, 5)] Z J Z I → v3.toInt = (i : Int) → i ≤ n → MC cc I u1 u2 u3 u4 u5 i → n + 1 ≤ m + i → f_X12_stairs_L131 B Q m v0 v1 v3 Z I L := by
  obtain ⟨x, ex, k1, l1⟩ := sh_f wJ.1 kv0 (j := 1) (k := 14) (m := 24) rfl
  cases h1.symm.trans ex
  obtain ⟨x, ex, k2, l2⟩ := sh_f wJ.1 kv0 (j := 2) (k := 14) (m := 24) rfl
  cases h2.symm.trans ex
  obtain ⟨x, ex, k3, l3⟩ := sh_f wJ.1 kv0 (j := 3) (k := 14) (m := 24) rfl
  cases h3.symm.trans ex
  obtain ⟨x, ex, k4, l4⟩ := sh_f wJ.1 kv0 (j := 4) (k := 16) (m := 24) rfl
  cases h4.symm.trans ex
  obtain ⟨x, ex, k5, l5⟩ := sh_f wJ.1 kv0 (j := 5) (k := 14) (m := 192) rfl
  cases h5.symm.trans ex
  obtain ⟨x, ex, k28, l28⟩ := sh_f wJ.1 kv0 (j := 28) (k := 14) (m := 120) rfl
  cases h28.symm.trans ex
  have d : ∀ {j j' b b'}, jr Z v0 j = some b → jr Z v0 j' = some b' → jsr 12 j = false → jsr 12 j' = false → j ≠ j' → b ≠ b' := fun h h' s s' n => ds_ne wJ.2.1 kv0 h h' s s' n
  have z1 : (1 : Int32).toInt = 1 := rfl
  intro m
  induction m with
  | zero => intro i v3 I L w f e1 e2 e3 e4; exfalso; omega
  | succ m ih =>
    intro i v3 I L w f e1 e2 e3 e4
    have e28 : I u28 = J u28 := f.2.2.2 v0 12 28 u28 kv0 h28 (by rw [k28.2]; rfl) rfl (by decide)
    unfold f_X12_stairs_L131
    refine ⟨fun c => ?_, fun c => ?_⟩
    · have c := (i_le en e1).mp c
      have ei : i = n := by omega
      subst ei
      intro I38 e38 I39 e39
      exact hQ I I38 I39 L w f e3 e38 e39
    have c := (not_congr (i_le en e1)).mp c
    have hin : i < n := by omega
    obtain ⟨c0, c1, c2, c4, c3⟩ := cm u28 h28 i (by omega)
    have qi := i_nat e1 (by omega)
    have qi : v3.toNatClampNeg = i := by omega
    have d0 : ((5 : Int32) * v3).toInt = 5 * (i : Int) := i_mul (show (5 : Int32).toInt = 5 from rfl) e1 (by omega) (by omega)
    have q0 := i_nat d0 (by omega)
    have q0 : ((5 : Int32) * v3).toNatClampNeg = 5 * i := by omega
    have d1 : (((5 : Int32) * v3) + (1 : Int32)).toInt = 5 * (i : Int) + 1 := i_add d0 z1 (by omega) (by omega)
    have q1 := i_nat d1 (by omega)
    have q1 : (((5 : Int32) * v3) + (1 : Int32)).toNatClampNeg = 5 * i + 1 := by omega
    have d2 : (((5 : Int32) * v3) + (2 : Int32)).toInt = 5 * (i : Int) + 2 := i_add d0 (show (2 : Int32).toInt = 2 from rfl) (by omega) (by omega)
    have q2 := i_nat d2 (by omega)
    have q2 : (((5 : Int32) * v3) + (2 : Int32)).toNatClampNeg = 5 * i + 2 := by omega
    have rr : ∀ z, okA 12 28 z (J u28 z) := fun z => wJ.arr 12 28 kv0 h28 k28 rfl rfl z
    have r0 : rg 0 30 (J u28 (5 * i)) := (show (_ → _) ∧ _ from rr (5 * i)).1 (by omega)
    have r1 : rg 0 9 (J u28 (5 * i + 1)) := (show _ ∧ (_ → _) ∧ _ from rr (5 * i + 1)).2.1 (by omega)
    have r2 : rg 0 20 (J u28 (5 * i + 2)) := (show _ ∧ _ ∧ (_ → _) from rr (5 * i + 2)).2.2 (by omega)
    intro b41 e41
    cases h1.symm.trans e41
    intro b42 e42
    cases h28.symm.trans e42
    refine ⟨vi_of d0 (by omega) (by omega), vi_of e1 (by omega) (by omega), ?_⟩
    intro I45 e45
    rw [qi, q0, e28] at e45
    have w45 : WD Z I45 := by rw [e45]; exact WD_putA w 12 1 kv0 h1 k1 rfl rfl (by decide) r0
    have f45 : FR [(12, 1), (12, 2), (12, 3), (12, 4), (12, 5)] Z J Z I45 := f.trans wJ.1 wJ.2.1 (by rw [e45]; exact FR_upA w.2.1 kv0 h1 k1 rfl rfl (by decide))
    have o45 : ∀ a, a ≠ u1 → I45 a = I a := fun a ha => by rw [e45]; exact jpI_ne ha
    intro b46 e46
    cases h2.symm.trans e46
    intro b47 e47
    cases h28.symm.trans e47
    refine ⟨vi_of d1 (by omega) (by omega), vi_of e1 (by omega) (by omega), ?_⟩
    intro I50 e50
    rw [qi, q1, o45 u28 (d h28 h1 rfl rfl (by decide)), e28] at e50
    have w50 : WD Z I50 := by rw [e50]; exact WD_putA w45 12 2 kv0 h2 k2 rfl rfl (by decide) r1
    have f50 : FR [(12, 1), (12, 2), (12, 3), (12, 4), (12, 5)] Z J Z I50 := f45.trans wJ.1 wJ.2.1 (by rw [e50]; exact FR_upA w45.2.1 kv0 h2 k2 rfl rfl (by decide))
    have o50 : ∀ a, a ≠ u2 → I50 a = I45 a := fun a ha => by rw [e50]; exact jpI_ne ha
    intro b51 e51
    cases h3.symm.trans e51
    intro b52 e52
    cases h28.symm.trans e52
    refine ⟨vi_of d2 (by omega) (by omega), vi_of e1 (by omega) (by omega), ?_⟩
    intro I55 e55
    rw [qi, q2, o50 u28 (d h28 h2 rfl rfl (by decide)), o45 u28 (d h28 h1 rfl rfl (by decide)), e28] at e55
    have w55 : WD Z I55 := by rw [e55]; exact WD_putA w50 12 3 kv0 h3 k3 rfl rfl (by decide) r2
    have f55 : FR [(12, 1), (12, 2), (12, 3), (12, 4), (12, 5)] Z J Z I55 := f50.trans wJ.1 wJ.2.1 (by rw [e55]; exact FR_upA w50.2.1 kv0 h3 k3 rfl rfl (by decide))
    have o55 : ∀ a, a ≠ u3 → I55 a = I50 a := fun a ha => by rw [e55]; exact jpI_ne ha
    have g28 : I55 u28 = J u28 := f55.2.2.2 v0 12 28 u28 kv0 h28 (by rw [k28.2]; rfl) rfl (by decide)
    have g4 : I55 u4 = I u4 := by rw [o55 u4 (d h4 h3 rfl rfl (by decide)), o50 u4 (d h4 h2 rfl rfl (by decide)), o45 u4 (d h4 h1 rfl rfl (by decide))]
    have g5 : I55 u5 = I u5 := by rw [o55 u5 (d h5 h3 rfl rfl (by decide)), o50 u5 (d h5 h2 rfl rfl (by decide)), o45 u5 (d h5 h1 rfl rfl (by decide))]
    have z0 : (0 : Int32).toInt = ((0 : Nat) : Int) := rfl
    refine ⟨9, st_L185 w55 v0 v1 v3 kv0 u4 h4 k4 l4 u5 h5 k5 l5 u28 h28 k28 i e1 (by omega) (cc 3 i) (cc 4 i) (by rw [g28]; exact c3) (hw i) (by rw [g28]; exact c4) (fun I6 L6 x6 w6 f6 t6 y4 y4' y5 y5' => ?_) 9 0 0 I55 L w55 FR.rf z0 (by omega) rfl (fun g hg => absurd hg (by omega)) (fun _ _ => rfl) (by omega)⟩
    refine ih (i + 1) x6 I6 L6 w6 (f55.trans wJ.1 wJ.2.1 (f6.mono (by decide))) t6 (by omega) (fun q hq => ?_) (by omega)
    have s1 : I6 u1 = I55 u1 := f6.2.2.2 v0 12 1 u1 kv0 h1 (by rw [k1.2]; rfl) rfl (by decide)
    have s2 : I6 u2 = I55 u2 := f6.2.2.2 v0 12 2 u2 kv0 h2 (by rw [k2.2]; rfl) rfl (by decide)
    have s3 : I6 u3 = I55 u3 := f6.2.2.2 v0 12 3 u3 kv0 h3 (by rw [k3.2]; rfl) rfl (by decide)
    rw [s1, s2, s3, o55 u1 (d h1 h3 rfl rfl (by decide)), o50 u1 (d h1 h2 rfl rfl (by decide)), o55 u2 (d h2 h3 rfl rfl (by decide))]
    by_cases hqi : q = i
    · subst hqi
      refine ⟨?_, ?_, ?_, y4, y5⟩
      · rw [e45, jpI_at]; exact c0
      · rw [e50, jpI_at]; exact c1
      · rw [e55, jpI_at]; exact c2
    · obtain ⟨m0, m1, m2, m3, m4⟩ := e3 q (by omega)
      refine ⟨?_, ?_, ?_, ?_, fun g hg => ?_⟩
      · rw [e45, jpI_off hqi]; exact m0
      · rw [e50, jpI_off hqi, o45 u2 (d h2 h1 rfl rfl (by decide))]; exact m1
      · rw [e55, jpI_off hqi, o50 u3 (d h3 h2 rfl rfl (by decide)), o45 u3 (d h3 h1 rfl rfl (by decide))]; exact m2
      · rw [y4' q hqi, g4]; exact m3
      · rw [y5' (8 * q + g) (by omega), g5]; exact m4 g hg
/-- stairs of the reference, with what becomes of the STEPS -/
def MF (cc : Nat → Nat → Int) (Z : jZ) (I : jI) (v0 : Nat) (n : Int) : Prop := ∀ u1 u2 u3 u4 u5, jr Z v0 1 = some u1 → jr Z v0 2 = some u2 → jr Z v0 3 = some u3 → jr Z v0 4 = some u4 → jr Z v0 5 = some u5 → MC cc I u1 u2 u3 u4 u5 n.toNat
set_option maxHeartbeats 4000000 in
theorem s13_X12_stairs {B : Nat × Nat} {T : Nat} {Z : jZ} {I : jI} {L : jL} (w : WD Z I) (bd : BUD B Z T) (v0 : Nat) (kv0 : jk Z v0 12) (uM : Nat) (huM : jr Z v0 18 = some uM) (p0 : 0 ≤ (I v0 7).toInt ∧ (I v0 7).toInt ≤ 100000) {Q : Int32 → jZ → jI → jL → Prop} (hQ : ∀ (r : Int32) (Z' : jZ) (I' : jI) (L' : jL), WD Z' I' → BUD B Z' T → FR Ws_X12_stairs Z I Z' I' → CP Z Z' → ((I' v0 19).toInt = 0 ∧ r.toInt = stA (I uM) (I v0 19).toInt ∧ (0 ≤ r.toInt → (I' v0 0).toInt = r.toInt) ∧ (r.toInt < 0 → (I' v0 0).toInt = (I v0 0).toInt) ∧ (0 ≤ r.toInt → (I' v0 7).toInt = (I v0 7).toInt + 1) ∧ (r.toInt < 0 → (I' v0 7).toInt = (I v0 7).toInt)) → ((0 ≤ r.toInt → MF (cT (I uM) (I v0 19).toInt) Z I' v0 r.toInt) ∧ (r.toInt < 0 → ∀ j u, 1 ≤ j → j ≤ 5 → jr Z v0 j = some u → I' u = I u) ∧ (0 ≤ r.toInt → (I' v0 52).toInt = 0) ∧ (r.toInt < 0 → I' v0 52 = I v0 52)) → Q r Z' I' L') : f_X12_stairs B v0 Z I L Q := by
  obtain ⟨b9, e9, kuM, l9⟩ := sh_f w.1 kv0 (j := 18) (k := 13) (m := 80) rfl
  cases huM.symm.trans e9
  have hne : uM ≠ v0 := fun e => by subst e; have := kv0.2.symm.trans kuM.2; omega
  have sz : 0 ≤ (I v0 19).toInt ∧ (I v0 19).toInt ≤ 80 := w.fld 12 19 kv0 (by decide)
  have fk : ∀ {W : List (Nat × Nat)} {Z1 : jZ} {A C : jI}, FR W Z A Z1 C → ((12, 1) ∉ W ∧ (12, 2) ∉ W ∧ (12, 3) ∉ W ∧ (12, 4) ∉ W ∧ (12, 5) ∉ W) → ∀ j u, 1 ≤ j → j ≤ 5 → jr Z v0 j = some u → C u = A u := fun f hn j u hj hj' hu => by
    have hj : j = 1 ∨ j = 2 ∨ j = 3 ∨ j = 4 ∨ j = 5 := by omega
    rcases hj with rfl | rfl | rfl | rfl | rfl
    · obtain ⟨b, e, kb, -⟩ := sh_f w.1 kv0 (j := 1) (k := 14) (m := 24) rfl; cases hu.symm.trans e; exact f.2.2.2 v0 12 1 u kv0 hu (by rw [kb.2]; rfl) rfl hn.1
    · obtain ⟨b, e, kb, -⟩ := sh_f w.1 kv0 (j := 2) (k := 14) (m := 24) rfl; cases hu.symm.trans e; exact f.2.2.2 v0 12 2 u kv0 hu (by rw [kb.2]; rfl) rfl hn.2.1
    · obtain ⟨b, e, kb, -⟩ := sh_f w.1 kv0 (j := 3) (k := 14) (m := 24) rfl; cases hu.symm.trans e; exact f.2.2.2 v0 12 3 u kv0 hu (by rw [kb.2]; rfl) rfl hn.2.2.1
    · obtain ⟨b, e, kb, -⟩ := sh_f w.1 kv0 (j := 4) (k := 16) (m := 24) rfl; cases hu.symm.trans e; exact f.2.2.2 v0 12 4 u kv0 hu (by rw [kb.2]; rfl) rfl hn.2.2.2.1
    · obtain ⟨b, e, kb, -⟩ := sh_f w.1 kv0 (j := 5) (k := 14) (m := 192) rfl; cases hu.symm.trans e; exact f.2.2.2 v0 12 5 u kv0 hu (by rw [kb.2]; rfl) rfl hn.2.2.2.2
  unfold f_X12_stairs
  intro I1 e1 b eb
  cases huM.symm.trans eb
  have w1 : WD Z I1 := by rw [e1]; exact WD_putF w 12 22 kv0 (by decide) (by decide) trivial
  have f1' : FR [(12, 22)] Z I Z I1 := by rw [e1]; exact FR_putF kv0 (by decide) List.mem_cons_self
  have f1 : FR Ws_X12_stairs Z I Z I1 := f1'.mono (by decide)
  have z1 : I1 v0 19 = I v0 19 := by rw [e1, jpI_o (by decide)]
  have b1 : I1 uM = I uM := by rw [e1, jpI_ne hne]
  refine s_X12_begin w1 bd v0 uM (I1 v0 19) 76 kv0 kuM v0 12 18 kv0 huM (fun Z2 I2 L2 w2 bd2 f2 cp2 p2 => ?_)
  obtain ⟨r2, p24, p25, p26, p27⟩ := p2
  intro I3 e3
  have k2 : jk Z2 v0 12 := (f2.1 _ _ kv0).1
  have kM2 : jk Z2 uM 13 := (f2.1 _ _ kuM).1
  have lM2 : jlen Z2 uM = 80 := (f2.1 _ _ kuM).2.trans l9
  have h2M : jr Z2 v0 18 = some uM := (f2.2.1 v0 12 18 kv0 (by decide) (by decide)).trans huM
  have b2 : I2 uM = I1 uM := f2.2.2.2 v0 12 18 uM kv0 huM (by rw [kuM.2]; rfl) rfl (by decide)
  have w3 : WD Z2 I3 := by rw [e3]; exact WD_putF w2 12 19 k2 (by decide) (by decide) (show rg 0 80 _ from ⟨by decide, by decide⟩)
  have f2' : FR Ws_X12_stairs Z I Z2 I2 := f1.trans w.1 w.2.1 (f2.mono (by decide))
  have f3 : FR Ws_X12_stairs Z I Z2 I3 := f2'.trans w.1 w.2.1 (by rw [e3]; exact FR_putF k2 (by decide) (by decide))
  have f3' : FR [(12, 19), (12, 22), (12, 24), (12, 25), (12, 26), (12, 27)] Z I Z2 I3 := ((f1'.mono (by decide)).trans w.1 w.2.1 (f2.mono (by decide))).trans w.1 w.2.1 (by rw [e3]; exact FR_putF k2 (by decide) (by decide))
  have b3 : I3 uM = I uM := by rw [e3, jpI_ne hne, b2, b1]
  have z3 : (I3 v0 19).toInt = 0 := by rw [e3, jpI_at]; rfl
  have t : MT Z2 I3 v0 uM (I v0 19).toInt := ⟨w3, k2, h2M, r2, kM2, lM2, sz.1, sz.2⟩
  have s : MRc (cT (I uM) (I v0 19).toInt) 0 Z2 I3 v0 (I v0 19).toInt I3 0 (-1) := by
    refine ⟨⟨w3, fun u hu q hq => absurd hq (by omega)⟩, FR.rf, ?_, ?_, ?_, ?_⟩
    · rw [e3, jpI_o (by decide)]; exact p26
    · rw [e3, jpI_o (by decide)]; exact p27
    · rw [e3, jpI_o (by decide), p24, z1]
    · rw [e3, jpI_o (by decide)]; exact p25
  have fin : ∀ (r : Int32) (I' : jI) (a' F' n' : Int), MRc (cT (I uM) (I v0 19).toInt) n' Z2 I3 v0 (I v0 19).toInt I' a' F' → r.toInt = stA (I uM) (I v0 19).toInt → r.toInt < 0 → Q r Z2 I' L2 := by
    intro r I' a' F' n' s' e' hr
    refine hQ r Z2 I' L2 s'.1.1 bd2 (f3.trans w.1 w.2.1 (s'.2.1.mono (by decide))) cp2 ⟨?_, e', fun q => by omega, fun _ => ?_, fun q => by omega, fun _ => ?_⟩ ⟨fun q => absurd q (by omega), fun _ j u hj hj' hu => ?_, fun q => absurd q (by omega), fun _ => ?_⟩
    · rw [s'.2.1.2.2.1 v0 12 19 k2 (by decide) (by decide)]
      exact z3
    · rw [s'.2.1.2.2.1 v0 12 0 k2 (by decide) (by decide), e3, jpI_o (by decide), f2.2.2.1 v0 12 0 kv0 (by decide) (by decide), e1, jpI_o (by decide)]
    · rw [s'.2.1.2.2.1 v0 12 7 k2 (by decide) (by decide), e3, jpI_o (by decide), f2.2.2.1 v0 12 7 kv0 (by decide) (by decide), e1, jpI_o (by decide)]
    · exact fk ((f3'.mono (W' := [(12, 19), (12, 22), (12, 24), (12, 25), (12, 26), (12, 27), (12, 28)]) (by decide)).trans w.1 w.2.1 (s'.2.1.mono (by decide))) (by decide) j u hj hj' hu
    · rw [s'.2.1.2.2.1 v0 12 52 k2 (by decide) (by decide), f3'.2.2.1 v0 12 52 kv0 (by decide) (by decide)]
  have z0 : (0 : Int32).toInt = 0 := rfl
  have e24 : (I3 v0 24).toInt = (I v0 19).toInt := s.2.2.2.2.1
  unfold f_X12_stairs_b38
  refine ⟨fun c => ?_, fun c => ?_⟩
  · have c := (i_le e24 z0).mp c
    have hS : stA (I uM) (I v0 19).toInt = -100 := by unfold stA; rw [if_pos c]
    refine ⟨1, ?_⟩
    unfold f_X12_stairs_L39
    refine ⟨fun _ => ?_, fun c => absurd rfl c⟩
    have b102 : f_X12_stairs_b102 B Q v0 0 Z2 I3 L2 := by
      unfold f_X12_stairs_b102
      refine mc_fine s (fun _ => ⟨fun _ => ⟨fun c1 => absurd c1 (by decide), fun _ => fin _ I3 0 (-1) 0 s (by rw [hS]; rfl) (by decide)⟩, fun c => absurd c (by decide)⟩) (fun c => absurd rfl c)
    unfold f_X12_stairs_b83
    refine ⟨fun _ => b102, fun c1 => ?_⟩
    exact absurd ((i_le e24 s.2.2.1).mpr (by omega)) c1
  · have c := (not_congr (i_le e24 z0)).mp c
    refine ⟨79, mc_lines t (fun I' a F v1 s' e => ?_) 79 77 0 0 I3 (by rw [z0]; exact s) (by rw [z0]; omega) (by rw [z0]; omega) (by omega) (by omega) (by omega) (by omega) (by rw [z0]) (fun j q _ => by rw [z0, b3]; rfl)⟩
    refine mc_b83 t s' (by omega) e (fun r I'' a' F' s'' e' hr => fin r I'' a' F' _ s'' (by rw [b3] at e'; exact e') hr) (fun I'' a' F' s'' e' h2 I66 e66 => ?_)
    rw [b3] at e'
    have v24 : v1.toInt ≤ 24 := by
      have := rdS_hi (g := GS (I3 uM) (min (I v0 19).toInt 76)) (lim := min (I v0 19).toInt 76) 77 0 0 (by omega) (by omega)
      rcases e with ⟨q1, q2⟩ | ⟨q1, q2, q0, q3⟩ | ⟨q1, q2, q3⟩
      · rw [← q2] at this; exact this
      · rw [← q3] at this; exact this
      · rw [← q3] at this; exact this
    have w66 : WD Z2 I66 := by rw [e66]; exact WD_putF s''.1.1 12 0 k2 (by decide) (by decide) (show rg 0 24 _ from ⟨by omega, by omega⟩)
    have f66 : FR Ws_X12_stairs Z I Z2 I66 := (f3.trans w.1 w.2.1 (s''.2.1.mono (by decide))).trans w.1 w.2.1 (by rw [e66]; exact FR_putF k2 (by decide) (by decide))
    have z66 : (I66 v0 19).toInt = 0 := by
      rw [e66, jpI_o (by decide), s''.2.1.2.2.1 v0 12 19 k2 (by decide) (by decide)]
      exact z3
    have z60 : (I66 v0 0).toInt = v1.toInt := by rw [e66, jpI_at]
    have z67 : (I66 v0 7).toInt = (I v0 7).toInt := by rw [e66, jpI_o (by decide), s''.2.1.2.2.1 v0 12 7 k2 (by decide) (by decide), e3, jpI_o (by decide), f2.2.2.1 v0 12 7 kv0 (by decide) (by decide), e1, jpI_o (by decide)]
    obtain ⟨u1, h1, ku1, -⟩ := sh_f w66.1 k2 (j := 1) (k := 14) (m := 24) rfl
    obtain ⟨u2, h2', ku2, -⟩ := sh_f w66.1 k2 (j := 2) (k := 14) (m := 24) rfl
    obtain ⟨u3, h3, ku3, -⟩ := sh_f w66.1 k2 (j := 3) (k := 14) (m := 24) rfl
    obtain ⟨u4, h4, ku4, -⟩ := sh_f w66.1 k2 (j := 4) (k := 16) (m := 24) rfl
    obtain ⟨u5, h5, ku5, -⟩ := sh_f w66.1 k2 (j := 5) (k := 14) (m := 192) rfl
    obtain ⟨u28, h28, ku28, -⟩ := sh_f w66.1 k2 (j := 28) (k := 14) (m := 120) rfl
    obtain ⟨n, en⟩ : ∃ n : Nat, v1.toInt = (n : Int) := ⟨v1.toInt.toNat, by omega⟩
    have cm66 : CM (cT (I uM) (I v0 19).toInt) Z2 I66 v0 (n : Int) := by rw [e66, ← en]; exact CM_fld w3.1 k2 s''.1.2
    refine ⟨n + 1, st_L131 w66 v0 v1 k2 u1 u2 u3 u4 u5 u28 h1 h2' h3 h4 h5 h28 n en (by omega) (fun q => cS_w _ _ _ q) cm66 (fun I7 I38 I39 L7 w7 f7 m7 e38 e39 => ?_) (n + 1) 0 0 I66 L2 w66 FR.rf rfl (by omega) (fun q hq => absurd hq (by omega)) (by omega)⟩
    have w38 : WD Z2 I38 := by rw [e38]; exact WD_putF w7 12 7 k2 (by decide) (by decide) trivial
    have f38 : FR [(12, 1), (12, 2), (12, 3), (12, 4), (12, 5), (12, 7), (12, 52)] Z2 I66 Z2 I38 := (f7.mono (by decide)).trans w66.1 w66.2.1 (by rw [e38]; exact FR_putF k2 (by decide) (by decide))
    have w39 : WD Z2 I39 := by rw [e39]; exact WD_putF w38 12 52 k2 (by decide) (by decide) (show rg 0 8 _ from ⟨by decide, by decide⟩)
    have f39 : FR [(12, 1), (12, 2), (12, 3), (12, 4), (12, 5), (12, 7), (12, 52)] Z2 I66 Z2 I39 := f38.trans w66.1 w66.2.1 (by rw [e39]; exact FR_putF k2 (by decide) (by decide))
    have t7 : (I39 v0 7).toInt = (I v0 7).toInt + 1 := by
      rw [e39, jpI_o (by decide), e38, jpI_at, f7.2.2.1 v0 12 7 k2 (by decide) (by decide)]
      exact i_add z67 (show (1 : Int32).toInt = 1 from rfl) (by omega) (by omega)
    refine ⟨9, st_L280 w39 v0 v1 k2 (fun I8 L8 w8 f8 => ?_) 9 0 I39 L7 w39 FR.rf (by decide) (by decide) (by decide)⟩
    refine hQ v1 Z2 I8 L8 w8 bd2 ((f66.trans w.1 w.2.1 (f39.mono (by decide))).trans w.1 w.2.1 (f8.mono (by decide))) cp2 ⟨?_, e', fun _ => ?_, fun q => absurd q (by omega), fun _ => ?_, fun q => absurd q (by omega)⟩ ⟨fun _ => ?_, fun q => absurd q (by omega), fun _ => ?_, fun q => absurd q (by omega)⟩
    · rw [f8.2.2.1 v0 12 19 k2 (by decide) (by decide), f39.2.2.1 v0 12 19 k2 (by decide) (by decide)]; exact z66
    · rw [f8.2.2.1 v0 12 0 k2 (by decide) (by decide), f39.2.2.1 v0 12 0 k2 (by decide) (by decide)]; exact z60
    · rw [f8.2.2.1 v0 12 7 k2 (by decide) (by decide)]; exact t7
    · intro a1 a2 a3 a4 a5 x1 x2 x3 x4 x5
      have y : ∀ {j a b}, jr Z v0 j = some a → jr Z2 v0 j = some b → ¬ (j = 23) → b = a := fun {j a b} hx hy hj => by
        have := (f2.2.1 v0 12 j kv0 (by omega) (by omega)).trans hx
        exact Option.some.inj (hy.symm.trans this)
      cases y x1 h1 (by decide); cases y x2 h2' (by decide); cases y x3 h3 (by decide); cases y x4 h4 (by decide); cases y x5 h5 (by decide)
      rw [en, Int.toNat_natCast]
      intro q hq
      have q1 : I8 u1 = I7 u1 := by rw [f8.2.2.2 v0 12 1 u1 k2 h1 (by rw [ku1.2]; rfl) rfl (by decide), e39, jpI_ne (ks_ne ku1 k2 (by decide)), e38, jpI_ne (ks_ne ku1 k2 (by decide))]
      have q2 : I8 u2 = I7 u2 := by rw [f8.2.2.2 v0 12 2 u2 k2 h2' (by rw [ku2.2]; rfl) rfl (by decide), e39, jpI_ne (ks_ne ku2 k2 (by decide)), e38, jpI_ne (ks_ne ku2 k2 (by decide))]
      have q3 : I8 u3 = I7 u3 := by rw [f8.2.2.2 v0 12 3 u3 k2 h3 (by rw [ku3.2]; rfl) rfl (by decide), e39, jpI_ne (ks_ne ku3 k2 (by decide)), e38, jpI_ne (ks_ne ku3 k2 (by decide))]
      have q4 : I8 u4 = I7 u4 := by rw [f8.2.2.2 v0 12 4 u4 k2 h4 (by rw [ku4.2]; rfl) rfl (by decide), e39, jpI_ne (ks_ne ku4 k2 (by decide)), e38, jpI_ne (ks_ne ku4 k2 (by decide))]
      have q5 : I8 u5 = I7 u5 := by rw [f8.2.2.2 v0 12 5 u5 k2 h5 (by rw [ku5.2]; rfl) rfl (by decide), e39, jpI_ne (ks_ne ku5 k2 (by decide)), e38, jpI_ne (ks_ne ku5 k2 (by decide))]
      rw [q1, q2, q3, q4, q5]
      exact m7 q hq
    · rw [f8.2.2.1 v0 12 52 k2 (by decide) (by decide), e39, jpI_at]; rfl
