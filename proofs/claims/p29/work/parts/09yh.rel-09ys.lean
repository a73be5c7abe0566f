section
/-! ===== STATES of both sides, over all calls ===== -/
/-- what is kept of STATES -/
def KC (Z : jZ) (I : jI) (uS u62 : Nat) (n : Int) : Prop := ∀ i b a, i < 2 → jr Z uS i = some b → ¬ I b 8 = 0 → jr Z b 0 = some a → ∀ s : Nat, (s : Int) < n → I a s = I u62 (266 * i + 2 * s)
theorem KC_fr {W : List (Nat × Nat)} {Z Z' : jZ} {I I' : jI} {uS v2 u62 : Nat} {n m : Int} (f : FR W Z I Z' I') (sh : SH Z) (kS : jk Z uS 17) (lS : jlen Z uS = 2) (k2 : jk Z v2 12) (h62 : jr Z v2 62 = some u62) (k62 : jk Z u62 14) (n1 : (2, 8) ∉ W) (n2 : (2, 0) ∉ W) (n3 : (12, 62) ∉ W) (em : m = n) (h : KC Z I uS u62 n) : KC Z' I' uS u62 m := by
  intro i b a hi hb hh ha s hs
  rw [f.2.1 uS 17 i kS (by omega) (by omega)] at hb
  obtain ⟨y, ey, kb⟩ := sh.2.2.1 uS kS i (by rw [lS]; exact hi)
  cases hb.symm.trans ey
  rw [f.2.1 b 2 0 kb (by omega) (by omega)] at ha
  obtain ⟨x, ex, ka, -⟩ := sh_f sh kb (j := 0) (k := 14) (m := 24) rfl
  cases ha.symm.trans ex
  rw [f.2.2.1 b 2 8 kb (by decide) n1] at hh
  rw [f.2.2.2 b 2 0 a kb ha (by rw [ka.2]; rfl) rfl n2, f.2.2.2 v2 12 62 u62 k2 h62 (by rw [k62.2]; rfl) rfl n3]
  exact h i b a hi hb hh ha s (by omega)
theorem KC_frp {Z Z' : jZ} {I I' : jI} {uS v2 u62 : Nat} {n m : Int} (f : FRp Z I Z' I') (sh : SH Z) (kS : jk Z uS 17) (lS : jlen Z uS = 2) (k62 : jk Z u62 14) (em : m = n) (h : KC Z I uS u62 n) : KC Z' I' uS u62 m := by
  intro i b a hi hb hh ha s hs
  rw [f.1 uS 17 i kS (by decide)] at hb
  obtain ⟨y, ey, kb⟩ := sh.2.2.1 uS kS i (by rw [lS]; exact hi)
  cases hb.symm.trans ey
  rw [f.1 b 2 0 kb (by decide)] at ha
  obtain ⟨x, ex, ka, -⟩ := sh_f sh kb (j := 0) (k := 14) (m := 24) rfl
  cases ha.symm.trans ex
  rw [f.2 b 2 8 kb (by decide)] at hh
  rw [f.2 a 14 s ka (by omega), f.2 u62 14 _ k62 (by omega)]
  exact h i b a hi hb hh ha s (by omega)
theorem st_set {I0 I1 I2 : jI} {uF v2 uX uY : Nat} {A A' C C' : Nat → Int32} {a b c r1 r2 : Int32} (en : (I0 uF 9).toInt = (I0 v2 0).toInt) (eY : I1 uY = I0 uY) (eX : I2 uX = I1 uX) (e1 : I1 v2 0 = I0 v2 0) (e2 : I2 v2 0 = I1 v2 0) (p1 : SETr (I0 uF 9).toInt (I0 uX) (I1 uX) A A' a b c r1) (p2 : SETr (I1 v2 0).toInt (I1 uY) (I2 uY) C C' a b c r2) (hs : ARr (I0 v2 0).toInt (I0 uX) (I0 uY)) : ARr (I2 v2 0).toInt (I2 uX) (I2 uY) := by
  rw [eY, e1] at p2
  rw [eX, e2, e1]
  rw [en] at p1
  exact SETr_eq rfl p1 p2 hs
theorem st_wears {I0 I1 I2 : jI} {uF v2 uX uY : Nat} {a r1 r2 : Int32} (h0 : 0 ≤ (I0 v2 0).toInt) (en : (I0 uF 9).toInt = (I0 v2 0).toInt) (eY : I1 uY = I0 uY) (eX : I2 uX = I1 uX) (e1 : I1 v2 0 = I0 v2 0) (e2 : I2 v2 0 = I1 v2 0) (p1 : WEr (I0 uF 9).toInt (I0 uX) (I1 uX) a r1) (p2 : WEr (I1 v2 0).toInt (I1 uY) (I2 uY) a r2) (hs : ARr (I0 v2 0).toInt (I0 uX) (I0 uY)) : r1.toInt = r2.toInt ∧ ARr (I2 v2 0).toInt (I2 uX) (I2 uY) := by
  rw [eY, e1] at p2
  rw [eX, e2, e1]
  rw [en] at p1
  exact WEr_eq rfl h0 p1 p2 hs
theorem st_mends {I0 I1 I2 : jI} {uF v2 uX uY : Nat} {R U : Nat → Int32} {a r1 r2 : Int32} (en : (I0 uF 9).toInt = (I0 v2 0).toInt) (eY : I1 uY = I0 uY) (eX : I2 uX = I1 uX) (e1 : I1 v2 0 = I0 v2 0) (e2 : I2 v2 0 = I1 v2 0) (p1 : MEr (I0 uF 9).toInt (I0 uX) (I1 uX) R a r1) (p2 : MEr (I1 v2 0).toInt (I1 uY) (I2 uY) U a r2) (hs : ARr (I0 v2 0).toInt (I0 uX) (I0 uY)) : ARr (I2 v2 0).toInt (I2 uX) (I2 uY) := by
  rw [eY, e1] at p2
  rw [eX, e2, e1]
  rw [en] at p1
  exact MEr_st rfl p1 p2 hs
theorem st_mendsA {I0 I1 I2 : jI} {uF v2 uX uY uR vR : Nat} {a r1 r2 : Int32} (en : (I0 uF 9).toInt = (I0 v2 0).toInt) (eY : I1 uY = I0 uY) (eR : I1 vR = I0 vR) (e1 : I1 v2 0 = I0 v2 0) (p1 : MEr (I0 uF 9).toInt (I0 uX) (I1 uX) (I0 uR) a r1) (p2 : MEr (I1 v2 0).toInt (I1 uY) (I2 uY) (I1 vR) a r2) (hs : ARr (I0 v2 0).toInt (I0 uX) (I0 uY)) (hr : ARr (I0 v2 0).toInt (I0 uR) (I0 vR)) : r1.toInt = r2.toInt := by
  rw [eY, e1, eR] at p2
  rw [en] at p1
  exact MEr_eq rfl p1 p2 hs hr
theorem ARr_same {n m : Int} {S S' T T' : Nat → Int32} (e1 : S' = S) (e2 : T' = T) (e : m = n) (h : ARr n S T) : ARr m S' T' := by
  rw [e1, e2, e]; exact h
/-- stairs: a row of numbers of STEPS -/
theorem st_stairs {Z Z2 : jZ} {I0 I1 I2 : jI} {uB uT uM uF v2 uX uY j : Nat} {r1 r2 : Int} {sB sM : Int} (hj : j < 4) (hX : jr Z uF j = some uX) (er : r1 = r2) (ec : cT (I0 uB) sB = cT (I1 uM) sM) (eX : I2 uX = I1 uX) (eY : I1 uY = I0 uY) (en : (I0 uF 9).toInt = (I0 v2 0).toInt) (e1 : I1 v2 0 = I0 v2 0)
    (q1 : (0 ≤ r1 → CF (cT (I0 uB) sB) Z I1 uF r1) ∧ (r1 < 0 → ∀ j u, j < 4 → jr Z uF j = some u → I1 u = I0 u)) (q2 : (0 ≤ r2 → ∀ s : Nat, (s : Int) < r2 → (I2 uY s).toInt = cT (I1 uM) sM j s) ∧ (r2 < 0 → I2 uY = I1 uY)) (q3 : (0 ≤ r2 → (I2 v2 0).toInt = r2) ∧ (r2 < 0 → (I2 v2 0).toInt = (I1 v2 0).toInt)) (hs : ARr (I0 v2 0).toInt (I0 uX) (I0 uY)) : ARr (I2 v2 0).toInt (I2 uX) (I2 uY) := by
  subst er
  by_cases c : 0 ≤ r1
  · intro s hs2
    rw [q3.1 c] at hs2
    refine (i_eq rfl rfl).mpr ?_
    rw [eX, q1.1 c j uX hj hX s hs2, q2.1 c s hs2, ec]
  · have c' : r1 < 0 := by omega
    rw [q3.2 c', e1, eX, q1.2 c' j uX hj hX, q2.2 c', eY]
    exact hs
theorem KC_stairs {Z Z2 : jZ} {I0 I1 I2 : jI} {uS v2 u62 : Nat} {r1 r2 : Int} {n m : Int} (f1 : FR Ws_X11_stairs Z I0 Z I1) (f2 : FR Ws_X12_stairs Z I1 Z2 I2) (sh : SH Z) (kS : jk Z uS 17) (lS : jlen Z uS = 2) (k2 : jk Z v2 12) (h62 : jr Z v2 62 = some u62) (k62 : jk Z u62 14) (er : r1 = r2)
    (p1 : (r1 < 0 → ∀ b, jk Z b 2 → I1 b 8 = I0 b 8) ∧ (0 ≤ r1 → ∀ i b, i < 2 → jr Z uS i = some b → I1 b 8 = 0)) (em : r2 < 0 → m = n) (h : KC Z I0 uS u62 n) : KC Z2 I2 uS u62 m := by
  intro i b a hi hb hh ha s hs
  rw [f2.2.1 uS 17 i kS (by omega) (by omega)] at hb
  obtain ⟨y, ey, kb⟩ := sh.2.2.1 uS kS i (by rw [lS]; exact hi)
  cases hb.symm.trans ey
  rw [f2.2.1 b 2 0 kb (by omega) (by omega)] at ha
  obtain ⟨x, ex, ka, -⟩ := sh_f sh kb (j := 0) (k := 14) (m := 24) rfl
  cases ha.symm.trans ex
  rw [f2.2.2.1 b 2 8 kb (by decide) (by decide)] at hh
  by_cases c : 0 ≤ r1
  · exact absurd (p1.2 c i b hi hb) hh
  · rw [p1.1 (by omega) b kb] at hh
    rw [f2.2.2.2 b 2 0 a kb ha (by rw [ka.2]; rfl) rfl (by decide), f1.2.2.2 b 2 0 a kb ha (by rw [ka.2]; rfl) rfl (by decide), f2.2.2.2 v2 12 62 u62 k2 h62 (by rw [k62.2]; rfl) rfl (by decide), f1.2.2.2 v2 12 62 u62 k2 h62 (by rw [k62.2]; rfl) rfl (by decide)]
    exact h i b a hi hb hh ha s (by have := em (by omega); omega)
theorem KC_keep {Z : jZ} {I0 I1 I2 : jI} {v1 v2 uS uF uX uY u62 uK uC : Nat} {v : Int32} {r1 r2 n m : Int} (w : WD Z I0) (f1 : FR Ws_X11_keep Z I0 Z I1) (f2 : FR Ws_X12_keep Z I1 Z I2) (k1 : jk Z v1 11) (kS : jk Z uS 17) (lS : jlen Z uS = 2) (k2 : jk Z v2 12) (h62 : jr Z v2 62 = some u62) (k62 : jk Z u62 14) (hF : jr Z v1 2 = some uF) (kF : jk Z uF 8) (hX : jr Z uF 1 = some uX) (hY : jr Z v2 2 = some uY) (kY : jk Z uY 14) (n24 : n ≤ 24) (em : m = n)
    (p1 : KP11 Z uS v r1 I0 I1) (q1 : KBC Z v1 uS v r1 I0 I1) (p2 : KP12 v2 uK uC v r2 I1 I2) (q2 : KPM Z v2 v r2 I1 I2) (hs : ARr n (I0 uX) (I0 uY)) (h : KC Z I0 uS u62 n) : KC Z I2 uS u62 m := by
  intro i b a hi hb hh ha s hs2
  rw [em] at hs2
  obtain ⟨y, ey, kb⟩ := w.1.2.2.1 uS kS i (by rw [lS]; exact hi)
  cases hb.symm.trans ey
  obtain ⟨x, ex, ka, -⟩ := sh_f w.1 kb (j := 0) (k := 14) (m := 24) rfl
  cases ha.symm.trans ex
  obtain ⟨a1, ha1, -⟩ := sh_f w.1 kb (j := 1) (k := 14) (m := 24) rfl
  obtain ⟨a2, ha2, -⟩ := sh_f w.1 kb (j := 2) (k := 14) (m := 192) rfl
  obtain ⟨a3, ha3, -⟩ := sh_f w.1 kb (j := 3) (k := 14) (m := 8) rfl
  obtain ⟨uP, hP, kP⟩ := sh_o w.1 kF (j := 4) (k := 4) rfl
  obtain ⟨x0, hx0, -⟩ := sh_f w.1 kP (j := 0) (k := 14) (m := 192) rfl
  obtain ⟨x2, hx2, -⟩ := sh_f w.1 kF (j := 2) (k := 14) (m := 24) rfl
  obtain ⟨x5, hx5, -⟩ := sh_f w.1 k1 (j := 5) (k := 14) (m := 8) rfl
  have g1 := q1 uF uP x0 uX x2 x5 hF hP hx0 hX hx2 hx5 i b a a1 a2 a3 hi hb ha ha1 ha2 ha3
  obtain ⟨u65, h65, -⟩ := sh_f w.1 k2 (j := 65) (k := 14) (m := 2) rfl
  obtain ⟨u3, h3, -⟩ := sh_f w.1 k2 (j := 3) (k := 14) (m := 24) rfl
  obtain ⟨u5, h5, -⟩ := sh_f w.1 k2 (j := 5) (k := 14) (m := 192) rfl
  obtain ⟨u14, h14, -⟩ := sh_f w.1 k2 (j := 14) (k := 14) (m := 6) rfl
  obtain ⟨u15, h15, -⟩ := sh_f w.1 k2 (j := 15) (k := 14) (m := 6) rfl
  obtain ⟨u16, h16, -⟩ := sh_f w.1 k2 (j := 16) (k := 14) (m := 6) rfl
  obtain ⟨u17, h17, -⟩ := sh_f w.1 k2 (j := 17) (k := 14) (m := 8) rfl
  have g2 := q2 u62 u65 uY u3 u5 u14 u15 u16 u17 h62 h65 hY h3 h5 h14 h15 h16 h17
  have eY : I1 uY = I0 uY := f1.2.2.2 v2 12 2 uY k2 hY (by rw [kY.2]; rfl) rfl (by decide)
  have eK : I1 u62 = I0 u62 := f1.2.2.2 v2 12 62 u62 k2 h62 (by rw [k62.2]; rfl) rfl (by decide)
  have ea : I2 a = I1 a := f2.2.2.2 b 2 0 a kb ha (by rw [ka.2]; rfl) rfl (by decide)
  rw [f2.2.2.1 b 2 8 kb (by decide) (by decide)] at hh
  rw [ea]
  rcases p1 with ⟨hr, hv, z1⟩ | ⟨hr, hv, z1⟩
  · have hr2 : r2 = 1 := by
      rcases p2 with ⟨h9, -⟩ | ⟨-, h9, -⟩
      · exact h9
      · exact absurd hv h9
    obtain ⟨k1', k2', -, -⟩ := g2.1 hr2
    have n1 := i_nat (x := v) rfl hv.1
    by_cases c : i = v.toNatClampNeg
    · rw [(g1.1 ⟨hr, c⟩).1 s (by omega), c, k1' (2 * s) (by omega), kS_st (by omega), eY]
      exact hs s hs2
    · rw [(z1 i b hi hb).2 c] at hh
      rw [(g1.2 (fun q => c q.2)).1, k2' (266 * i + 2 * s) (by omega), eK]
      exact h i b a hi hb hh ha s hs2
  · have hr2 : r2 = 0 := by
      rcases p2 with ⟨-, h9, -⟩ | ⟨h9, -⟩
      · exact absurd h9 hv
      · exact h9
    rw [z1 b kb] at hh
    rw [(g1.2 (fun q => by omega)).1, (g2.2 hr2).1, eK]
    exact h i b a hi hb hh ha s hs2
theorem st_again {Z : jZ} {I0 I1 I2 : jI} {v1 v2 uS uF uX uY u62 uK uC : Nat} {v : Int32} {r1 r2 n m : Int} (w : WD Z I0) (f1 : FR Ws_X11_again Z I0 Z I1) (f2 : FR Ws_X12_again Z I1 Z I2) (k1 : jk Z v1 11) (kS : jk Z uS 17) (lS : jlen Z uS = 2) (k2 : jk Z v2 12) (h62 : jr Z v2 62 = some u62) (k62 : jk Z u62 14) (hF : jr Z v1 2 = some uF) (kF : jk Z uF 8) (hX : jr Z uF 1 = some uX) (kX : jk Z uX 14) (hY : jr Z v2 2 = some uY) (kY : jk Z uY 14) (n24 : n ≤ 24) (em : m = n) (er : r1 = r2)
    (p1 : YN r1 (AG11 Z I0 uS v)) (q1 : AGC Z v1 uS v r1 I0 I1) (q2 : AGM Z v2 v r2 I1 I2) (hs : ARr n (I0 uX) (I0 uY)) (h : KC Z I0 uS u62 n) : ARr m (I2 uX) (I2 uY) := by
  subst er
  obtain ⟨uP, hP, kP⟩ := sh_o w.1 kF (j := 4) (k := 4) rfl
  obtain ⟨x0, hx0, -⟩ := sh_f w.1 kP (j := 0) (k := 14) (m := 192) rfl
  obtain ⟨x2, hx2, -⟩ := sh_f w.1 kF (j := 2) (k := 14) (m := 24) rfl
  obtain ⟨x5, hx5, -⟩ := sh_f w.1 k1 (j := 5) (k := 14) (m := 8) rfl
  have g1 := q1 uF uP x0 uX x2 x5 hF hP hx0 hX hx2 hx5
  obtain ⟨u3, h3, -⟩ := sh_f w.1 k2 (j := 3) (k := 14) (m := 24) rfl
  obtain ⟨u5, h5, -⟩ := sh_f w.1 k2 (j := 5) (k := 14) (m := 192) rfl
  have g2 := q2 u62 uY u3 u5 h62 hY h3 h5
  have eX : I2 uX = I1 uX := f2.2.2.2 uF 8 1 uX kF hX (by rw [kX.2]; rfl) rfl (by decide)
  have eK : I1 u62 = I0 u62 := f1.2.2.2 v2 12 62 u62 k2 h62 (by rw [k62.2]; rfl) rfl (by decide)
  intro s hs2
  rw [em] at hs2
  rw [eX]
  rcases p1 with ⟨hr, hv, b, hb, hh⟩ | ⟨hr, -⟩
  · have n1 := i_nat (x := v) rfl hv.1
    obtain ⟨y, ey, kb⟩ := w.1.2.2.1 uS kS v.toNatClampNeg (by rw [lS]; omega)
    cases hb.symm.trans ey
    obtain ⟨a0, ha0, -⟩ := sh_f w.1 kb (j := 0) (k := 14) (m := 24) rfl
    obtain ⟨a1, ha1, -⟩ := sh_f w.1 kb (j := 1) (k := 14) (m := 24) rfl
    obtain ⟨a2, ha2, -⟩ := sh_f w.1 kb (j := 2) (k := 14) (m := 192) rfl
    obtain ⟨a3, ha3, -⟩ := sh_f w.1 kb (j := 3) (k := 14) (m := 8) rfl
    rw [(g1.1 hr b a0 a1 a2 a3 hb ha0 ha1 ha2 ha3).1 s (by omega), (g2.1 hr).1 s (by omega), eK]
    exact h v.toNatClampNeg b a0 (by omega) hb hh ha0 s hs2
  · have z := g1.2 hr
    rw [(g2.2 hr).1, z]
    exact hs s hs2
theorem MF_at {cc : Nat → Nat → Int} {Z : jZ} {I : jI} {v0 : Nat} {n : Int} (sh : SH Z) (k : jk Z v0 12) (h : MF cc Z I v0 n) {u1 u2 u3 u4 : Nat} (h1 : jr Z v0 1 = some u1) (h2 : jr Z v0 2 = some u2) (h3 : jr Z v0 3 = some u3) (h4 : jr Z v0 4 = some u4) (s : Nat) (hs : (s : Int) < n) : (I u1 s).toInt = cc 0 s ∧ (I u2 s).toInt = cc 1 s ∧ (I u3 s).toInt = cc 2 s ∧ (I u4 s).toInt = cc 3 s := by
  obtain ⟨u5, h5, -⟩ := sh_f sh k (j := 5) (k := 14) (m := 192) rfl
  obtain ⟨a, b, c, d, -⟩ := h u1 u2 u3 u4 u5 h1 h2 h3 h4 h5 s (by omega)
  exact ⟨a, b, c, d⟩
theorem MF_st {cc : Nat → Nat → Int} {Z : jZ} {I : jI} {v0 uY : Nat} {n : Int} (sh : SH Z) (k : jk Z v0 12) (hY : jr Z v0 2 = some uY) (h : MF cc Z I v0 n) (s : Nat) (hs : (s : Int) < n) : (I uY s).toInt = cc 1 s := by
  obtain ⟨u1, h1, -⟩ := sh_f sh k (j := 1) (k := 14) (m := 24) rfl
  obtain ⟨u3, h3, -⟩ := sh_f sh k (j := 3) (k := 14) (m := 24) rfl
  obtain ⟨u4, h4, -⟩ := sh_f sh k (j := 4) (k := 16) (m := 24) rfl
  exact (MF_at sh k h h1 hY h3 h4 s hs).2.1
theorem MF_ri {cc : Nat → Nat → Int} {Z : jZ} {I : jI} {v0 uY : Nat} {n : Int} (sh : SH Z) (k : jk Z v0 12) (hY : jr Z v0 1 = some uY) (h : MF cc Z I v0 n) (s : Nat) (hs : (s : Int) < n) : (I uY s).toInt = cc 0 s := by
  obtain ⟨u2, h2, -⟩ := sh_f sh k (j := 2) (k := 14) (m := 24) rfl
  obtain ⟨u3, h3, -⟩ := sh_f sh k (j := 3) (k := 14) (m := 24) rfl
  obtain ⟨u4, h4, -⟩ := sh_f sh k (j := 4) (k := 16) (m := 24) rfl
  exact (MF_at sh k h hY h2 h3 h4 s hs).1
end
section
/-! ===== what the text of a LAW says: where it ends or is at fault, and its numbers, letters and signs in the order in which they are worked off ===== -/
theorem ob {α β : Type} {o : Option α} {f : α → Option β} {b : β} (h : o.bind f = some b) : ∃ a, o = some a ∧ f a = some b := by
  cases o with
  | none => cases h
  | some a => exact ⟨a, rfl, h⟩
/-- the first d digits' value; how many digits there are, of three at most -/
def nvd (g : Int → Int) (a : Int) : Nat → Int
  | 0 => 0
  | d + 1 => nvd g a d * 10 + g (a + d) - 48
def n3 (g : Int → Int) (a : Int) : Nat := if 48 ≤ g a ∧ g a ≤ 57 then (if 48 ≤ g (a + 1) ∧ g (a + 1) ≤ 57 then (if 48 ≤ g (a + 2) ∧ g (a + 2) ≤ 57 then 3 else 2) else 1) else 0
/-- while a number is read -/
def N3 (g : Int → Int) (a : Int) (d : Nat) : Prop := d ≤ 3 ∧ ∀ i : Nat, i < d → 48 ≤ g (a + i) ∧ g (a + i) ≤ 57
theorem N3_0 {g : Int → Int} {a : Int} : N3 g a 0 := ⟨by omega, fun i h => by omega⟩
theorem N3_step {g : Int → Int} {a : Int} {d : Nat} (h : N3 g a d) (hd : d < 3) (hp : 48 ≤ g (a + d) ∧ g (a + d) ≤ 57) : N3 g a (d + 1) := ⟨by omega, fun i hi => by
  by_cases c : i = d
  · rw [c]; exact hp
  · exact h.2 i (by omega)⟩
theorem N3_end {g : Int → Int} {a : Int} {d : Nat} (h : N3 g a d) (he : d = 3 ∨ ¬ (48 ≤ g (a + d) ∧ g (a + d) ≤ 57)) : n3 g a = d := by
  obtain ⟨h3, h⟩ := h
  have a0 : a + ((0 : Nat) : Int) = a := by omega
  have hd : d = 0 ∨ d = 1 ∨ d = 2 ∨ d = 3 := by omega
  unfold n3
  rcases hd with rfl | rfl | rfl | rfl
  · have he := he.resolve_left (by omega)
    rw [a0] at he
    rw [if_neg he]
  · have he := he.resolve_left (by omega)
    have h0 := h 0 (by omega)
    rw [a0] at h0
    have he : ¬ (48 ≤ g (a + 1) ∧ g (a + 1) ≤ 57) := he
    rw [if_pos h0, if_neg he]
  · have he := he.resolve_left (by omega)
    have h0 := h 0 (by omega)
    rw [a0] at h0
    have h1 : 48 ≤ g (a + 1) ∧ g (a + 1) ≤ 57 := h 1 (by omega)
    have he : ¬ (48 ≤ g (a + 2) ∧ g (a + 2) ≤ 57) := he
    rw [if_pos h0, if_pos h1, if_neg he]
  · have h0 := h 0 (by omega)
    rw [a0] at h0
    have h1 : 48 ≤ g (a + 1) ∧ g (a + 1) ≤ 57 := h 1 (by omega)
    have h2 : 48 ≤ g (a + 2) ∧ g (a + 2) ≤ 57 := h 2 (by omega)
    rw [if_pos h0, if_pos h1, if_pos h2]
theorem N3_val {g : Int → Int} {a : Int} {d : Nat} (h : N3 g a d) : 0 ≤ nvd g a d ∧ nvd g a d ≤ 999 ∧ (d ≤ 2 → nvd g a d ≤ 99) := by
  obtain ⟨h3, h⟩ := h
  have hd : d = 0 ∨ d = 1 ∨ d = 2 ∨ d = 3 := by omega
  rcases hd with rfl | rfl | rfl | rfl
  · show 0 ≤ (0 : Int) ∧ (0 : Int) ≤ 999 ∧ (0 ≤ 2 → (0 : Int) ≤ 99)
    omega
  · have h0 := h 0 (by omega)
    show 0 ≤ (0 : Int) * 10 + g (a + (0 : Nat)) - 48 ∧ (0 : Int) * 10 + g (a + (0 : Nat)) - 48 ≤ 999 ∧ (1 ≤ 2 → (0 : Int) * 10 + g (a + (0 : Nat)) - 48 ≤ 99)
    omega
  · have h0 := h 0 (by omega)
    have h1 := h 1 (by omega)
    show 0 ≤ ((0 : Int) * 10 + g (a + (0 : Nat)) - 48) * 10 + g (a + (1 : Nat)) - 48 ∧ ((0 : Int) * 10 + g (a + (0 : Nat)) - 48) * 10 + g (a + (1 : Nat)) - 48 ≤ 999 ∧ (2 ≤ 2 → ((0 : Int) * 10 + g (a + (0 : Nat)) - 48) * 10 + g (a + (1 : Nat)) - 48 ≤ 99)
    omega
  · have h0 := h 0 (by omega)
    have h1 := h 1 (by omega)
    have h2 := h 2 (by omega)
    show 0 ≤ (((0 : Int) * 10 + g (a + (0 : Nat)) - 48) * 10 + g (a + (1 : Nat)) - 48) * 10 + g (a + (2 : Nat)) - 48 ∧ (((0 : Int) * 10 + g (a + (0 : Nat)) - 48) * 10 + g (a + (1 : Nat)) - 48) * 10 + g (a + (2 : Nat)) - 48 ≤ 999 ∧ (3 ≤ 2 → (((0 : Int) * 10 + g (a + (0 : Nat)) - 48) * 10 + g (a + (1 : Nat)) - 48) * 10 + g (a + (2 : Nat)) - 48 ≤ 99)
    omega
theorem n3_is {g : Int → Int} {a : Int} : N3 g a (n3 g a) := by
  have a0 : a + ((0 : Nat) : Int) = a := by omega
  unfold n3
  split
  · rename_i c0
    have s1 : N3 g a 1 := N3_step N3_0 (by omega) (by rw [a0]; exact c0)
    split
    · rename_i c1
      have s2 : N3 g a 2 := N3_step s1 (by omega) c1
      split
      · rename_i c2
        exact N3_step s2 (by omega) c2
      · exact s2
    · exact s1
  · exact N3_0
/-- (where it stops, where it is at fault or -1, the numbers): 0 an expression, 1 a sum, 2 a product, 3 and 7 a thing with an even, an odd number of - ahead of it, 6 a thing, 4 what more is added, 5 what more is multiplied -/
def PL (g : Int → Int) : Nat → Nat → Nat → Int → Option (Int × Int × List Int)
  | 0, _, _, _ => none
  | d + 1, w, k, a => match w with
    | 0 => (PL g d 1 k a).bind fun s => if s.2.1 = -1 ∧ (g s.1 = 60 ∨ g s.1 = 62 ∨ g s.1 = 61) then (PL g d 1 k (s.1 + 1)).bind fun t => some (t.1, t.2.1, s.2.2 ++ t.2.2 ++ [2000 + g s.1]) else some s
    | 1 => (PL g d 2 k a).bind fun s => if s.2.1 = -1 then (PL g d 4 k s.1).bind fun t => some (t.1, t.2.1, s.2.2 ++ t.2.2) else some s
    | 2 => (PL g d 3 k a).bind fun s => if s.2.1 = -1 then (PL g d 5 k s.1).bind fun t => some (t.1, t.2.1, s.2.2 ++ t.2.2) else some s
    | 3 => if g a = 45 then PL g d 7 k (a + 1) else PL g d 6 k a
    | 4 => if g a = 43 ∨ g a = 45 then (PL g d 2 k (a + 1)).bind fun s => if s.2.1 = -1 then (PL g d 4 k s.1).bind fun t => some (t.1, t.2.1, s.2.2 ++ [2000 + g a] ++ t.2.2) else some s else some (a, -1, [])
    | 5 => if g a = 42 ∨ g a = 47 then (PL g d 3 k (a + 1)).bind fun s => if s.2.1 = -1 then (PL g d 5 k s.1).bind fun t => some (t.1, t.2.1, s.2.2 ++ [2000 + g a] ++ t.2.2) else some s else some (a, -1, [])
    | 6 => if 48 ≤ g a ∧ g a ≤ 57 then some (a + n3 g a, -1, [nvd g a (n3 g a)]) else if 0 ≤ lix (g a) then some (a + 1, -1, [1000 + lix (g a)]) else if g a = 40 ∧ k < 4 then (PL g d 0 (k + 1) (a + 1)).bind fun s => if s.2.1 = -1 then (if g s.1 = 41 then some (s.1 + 1, -1, s.2.2) else some (s.1, s.1, [])) else some s else some (a, a, [])
    | _ => if g a = 45 then PL g d 3 k (a + 1) else (PL g d 6 k a).bind fun s => some (s.1, s.2.1, s.2.2 ++ [2000])
/-- what is said when a part has been read -/
theorem PL_i0 {g : Int → Int} {d k : Nat} {a : Int} {r : Int × Int × List Int} (h : PL g (d + 1) 0 k a = some r) : ∃ s, PL g d 1 k a = some s ∧ ((s.2.1 = -1 ∧ (g s.1 = 60 ∨ g s.1 = 62 ∨ g s.1 = 61) ∧ ∃ t, PL g d 1 k (s.1 + 1) = some t ∧ r = (t.1, t.2.1, s.2.2 ++ t.2.2 ++ [2000 + g s.1])) ∨ (¬ (s.2.1 = -1 ∧ (g s.1 = 60 ∨ g s.1 = 62 ∨ g s.1 = 61)) ∧ r = s)) := by
  obtain ⟨s, e, h⟩ := ob (show (PL g d 1 k a).bind _ = some r from h)
  refine ⟨s, e, ?_⟩
  by_cases c : s.2.1 = -1 ∧ (g s.1 = 60 ∨ g s.1 = 62 ∨ g s.1 = 61)
  · rw [if_pos c] at h
    obtain ⟨t, e', h⟩ := ob h
    cases h
    exact Or.inl ⟨c.1, c.2, t, e', rfl⟩
  · rw [if_neg c] at h
    cases h
    exact Or.inr ⟨c, rfl⟩
theorem PL_i1 {g : Int → Int} {d k : Nat} {a : Int} {r : Int × Int × List Int} (h : PL g (d + 1) 1 k a = some r) : ∃ s, PL g d 2 k a = some s ∧ ((s.2.1 = -1 ∧ ∃ t, PL g d 4 k s.1 = some t ∧ r = (t.1, t.2.1, s.2.2 ++ t.2.2)) ∨ (¬ s.2.1 = -1 ∧ r = s)) := by
  obtain ⟨s, e, h⟩ := ob (show (PL g d 2 k a).bind _ = some r from h)
  refine ⟨s, e, ?_⟩
  by_cases c : s.2.1 = -1
  · rw [if_pos c] at h
    obtain ⟨t, e', h⟩ := ob h
    cases h
    exact Or.inl ⟨c, t, e', rfl⟩
  · rw [if_neg c] at h
    cases h
    exact Or.inr ⟨c, rfl⟩
theorem PL_i2 {g : Int → Int} {d k : Nat} {a : Int} {r : Int × Int × List Int} (h : PL g (d + 1) 2 k a = some r) : ∃ s, PL g d 3 k a = some s ∧ ((s.2.1 = -1 ∧ ∃ t, PL g d 5 k s.1 = some t ∧ r = (t.1, t.2.1, s.2.2 ++ t.2.2)) ∨ (¬ s.2.1 = -1 ∧ r = s)) := by
  obtain ⟨s, e, h⟩ := ob (show (PL g d 3 k a).bind _ = some r from h)
  refine ⟨s, e, ?_⟩
  by_cases c : s.2.1 = -1
  · rw [if_pos c] at h
    obtain ⟨t, e', h⟩ := ob h
    cases h
    exact Or.inl ⟨c, t, e', rfl⟩
  · rw [if_neg c] at h
    cases h
    exact Or.inr ⟨c, rfl⟩
theorem PL_i3 {g : Int → Int} {d k : Nat} {a : Int} {r : Int × Int × List Int} (h : PL g (d + 1) 3 k a = some r) : (g a = 45 ∧ PL g d 7 k (a + 1) = some r) ∨ (¬ g a = 45 ∧ PL g d 6 k a = some r) := by
  have h : (if g a = 45 then PL g d 7 k (a + 1) else PL g d 6 k a) = some r := h
  by_cases c : g a = 45
  · rw [if_pos c] at h; exact Or.inl ⟨c, h⟩
  · rw [if_neg c] at h; exact Or.inr ⟨c, h⟩
theorem PL_i7 {g : Int → Int} {d k : Nat} {a : Int} {r : Int × Int × List Int} (h : PL g (d + 1) 7 k a = some r) : (g a = 45 ∧ PL g d 3 k (a + 1) = some r) ∨ (¬ g a = 45 ∧ ∃ s, PL g d 6 k a = some s ∧ r = (s.1, s.2.1, s.2.2 ++ [2000])) := by
  have h : (if g a = 45 then PL g d 3 k (a + 1) else (PL g d 6 k a).bind fun s => some (s.1, s.2.1, s.2.2 ++ [2000])) = some r := h
  by_cases c : g a = 45
  · rw [if_pos c] at h; exact Or.inl ⟨c, h⟩
  · rw [if_neg c] at h
    obtain ⟨s, e, h⟩ := ob h
    cases h
    exact Or.inr ⟨c, s, e, rfl⟩
theorem PL_i4 {g : Int → Int} {d k : Nat} {a : Int} {r : Int × Int × List Int} (h : PL g (d + 1) 4 k a = some r) : ((g a = 43 ∨ g a = 45) ∧ ∃ s, PL g d 2 k (a + 1) = some s ∧ ((s.2.1 = -1 ∧ ∃ t, PL g d 4 k s.1 = some t ∧ r = (t.1, t.2.1, s.2.2 ++ [2000 + g a] ++ t.2.2)) ∨ (¬ s.2.1 = -1 ∧ r = s))) ∨ (¬ (g a = 43 ∨ g a = 45) ∧ r = (a, -1, [])) := by
  have h : (if g a = 43 ∨ g a = 45 then (PL g d 2 k (a + 1)).bind fun s => if s.2.1 = -1 then (PL g d 4 k s.1).bind fun t => some (t.1, t.2.1, s.2.2 ++ [2000 + g a] ++ t.2.2) else some s else some (a, -1, [])) = some r := h
  by_cases c : g a = 43 ∨ g a = 45
  · rw [if_pos c] at h
    obtain ⟨s, e, h⟩ := ob h
    refine Or.inl ⟨c, s, e, ?_⟩
    by_cases c2 : s.2.1 = -1
    · rw [if_pos c2] at h
      obtain ⟨t, e', h⟩ := ob h
      cases h
      exact Or.inl ⟨c2, t, e', rfl⟩
    · rw [if_neg c2] at h
      cases h
      exact Or.inr ⟨c2, rfl⟩
  · rw [if_neg c] at h
    cases h
    exact Or.inr ⟨c, rfl⟩
theorem PL_i5 {g : Int → Int} {d k : Nat} {a : Int} {r : Int × Int × List Int} (h : PL g (d + 1) 5 k a = some r) : ((g a = 42 ∨ g a = 47) ∧ ∃ s, PL g d 3 k (a + 1) = some s ∧ ((s.2.1 = -1 ∧ ∃ t, PL g d 5 k s.1 = some t ∧ r = (t.1, t.2.1, s.2.2 ++ [2000 + g a] ++ t.2.2)) ∨ (¬ s.2.1 = -1 ∧ r = s))) ∨ (¬ (g a = 42 ∨ g a = 47) ∧ r = (a, -1, [])) := by
  have h : (if g a = 42 ∨ g a = 47 then (PL g d 3 k (a + 1)).bind fun s => if s.2.1 = -1 then (PL g d 5 k s.1).bind fun t => some (t.1, t.2.1, s.2.2 ++ [2000 + g a] ++ t.2.2) else some s else some (a, -1, [])) = some r := h
  by_cases c : g a = 42 ∨ g a = 47
  · rw [if_pos c] at h
    obtain ⟨s, e, h⟩ := ob h
    refine Or.inl ⟨c, s, e, ?_⟩
    by_cases c2 : s.2.1 = -1
    · rw [if_pos c2] at h
      obtain ⟨t, e', h⟩ := ob h
      cases h
      exact Or.inl ⟨c2, t, e', rfl⟩
    · rw [if_neg c2] at h
      cases h
      exact Or.inr ⟨c2, rfl⟩
  · rw [if_neg c] at h
    cases h
    exact Or.inr ⟨c, rfl⟩
theorem PL_i6 {g : Int → Int} {d k : Nat} {a : Int} {r : Int × Int × List Int} (h : PL g (d + 1) 6 k a = some r) : ((48 ≤ g a ∧ g a ≤ 57) ∧ r = (a + n3 g a, -1, [nvd g a (n3 g a)])) ∨ (¬ (48 ≤ g a ∧ g a ≤ 57) ∧ 0 ≤ lix (g a) ∧ r = (a + 1, -1, [1000 + lix (g a)])) ∨ (¬ (48 ≤ g a ∧ g a ≤ 57) ∧ ¬ 0 ≤ lix (g a) ∧ (g a = 40 ∧ k < 4) ∧ ∃ s, PL g d 0 (k + 1) (a + 1) = some s ∧ ((s.2.1 = -1 ∧ g s.1 = 41 ∧ r = (s.1 + 1, -1, s.2.2)) ∨ (s.2.1 = -1 ∧ ¬ g s.1 = 41 ∧ r = (s.1, s.1, [])) ∨ (¬ s.2.1 = -1 ∧ r = s))) ∨ (¬ (48 ≤ g a ∧ g a ≤ 57) ∧ ¬ 0 ≤ lix (g a) ∧ ¬ (g a = 40 ∧ k < 4) ∧ r = (a, a, [])) := by
  have h : (if 48 ≤ g a ∧ g a ≤ 57 then some (a + n3 g a, -1, [nvd g a (n3 g a)]) else if 0 ≤ lix (g a) then some (a + 1, -1, [1000 + lix (g a)]) else if g a = 40 ∧ k < 4 then (PL g d 0 (k + 1) (a + 1)).bind fun s => if s.2.1 = -1 then (if g s.1 = 41 then some (s.1 + 1, -1, s.2.2) else some (s.1, s.1, [])) else some s else some (a, a, [])) = some r := h
  by_cases c : 48 ≤ g a ∧ g a ≤ 57
  · rw [if_pos c] at h; cases h; exact Or.inl ⟨c, rfl⟩
  rw [if_neg c] at h
  by_cases c1 : 0 ≤ lix (g a)
  · rw [if_pos c1] at h; cases h; exact Or.inr (Or.inl ⟨c, c1, rfl⟩)
  rw [if_neg c1] at h
  by_cases c2 : g a = 40 ∧ k < 4
  · rw [if_pos c2] at h
    obtain ⟨s, e, h⟩ := ob h
    refine Or.inr (Or.inr (Or.inl ⟨c, c1, c2, s, e, ?_⟩))
    by_cases c3 : s.2.1 = -1
    · rw [if_pos c3] at h
      by_cases c4 : g s.1 = 41
      · rw [if_pos c4] at h; cases h; exact Or.inl ⟨c3, c4, rfl⟩
      · rw [if_neg c4] at h; cases h; exact Or.inr (Or.inl ⟨c3, c4, rfl⟩)
    · rw [if_neg c3] at h; cases h; exact Or.inr (Or.inr ⟨c3, rfl⟩)
  · rw [if_neg c2] at h; cases h; exact Or.inr (Or.inr (Or.inr ⟨c, c1, c2, rfl⟩))
theorem lix_rng (x : Int) : -1 ≤ lix x ∧ lix x ≤ 6 := by
  unfold lix
  (repeat' split) <;> decide
theorem lix_0 {x : Int} (h : 0 ≤ lix x) : 97 ≤ x ∧ x ≤ 122 := by
  refine ⟨?_, ?_⟩
  · refine Int.not_lt.mp (fun q => ?_)
    rw [lix_off (Or.inl q)] at h
    omega
  · refine Int.not_lt.mp (fun q => ?_)
    rw [lix_off (Or.inr q)] at h
    omega
theorem n3_pos {g : Int → Int} {a : Int} (h : 48 ≤ g a ∧ g a ≤ 57) : 1 ≤ n3 g a ∧ n3 g a ≤ 3 := by
  refine ⟨?_, n3_is.1⟩
  unfold n3
  rw [if_pos h]
  split
  · split <;> omega
  · omega
theorem n3_lim {g : Int → Int} {lim a : Int} (hg : ∀ x, lim ≤ x → g x = -1) (h : a ≤ lim) : a + n3 g a ≤ lim := by
  have n := n3_is (g := g) (a := a)
  by_cases c : n3 g a = 0
  · rw [c]; omega
  · have h9 := n.2 (n3 g a - 1) (by omega)
    refine Int.not_lt.mp (fun q => ?_)
    rw [hg _ (show lim ≤ a + ((n3 g a - 1 : Nat) : Int) by omega)] at h9
    omega
def pl7 (w : Nat) : Int := if w = 7 then 1 else 0
/-- where a part stops, and how much it tells -/
def PLo (w : Nat) (lim a : Int) (r : Int × Int × List Int) : Prop := a ≤ r.1 ∧ r.1 ≤ lim ∧ (r.2.1 = -1 ∨ r.2.1 = r.1) ∧ (r.2.1 = -1 → (w ≠ 4 → w ≠ 5 → a + 1 ≤ r.1) ∧ (r.2.2.length : Int) + a ≤ r.1 + pl7 w)
set_option maxHeartbeats 2000000 in
theorem PL_ok {g : Int → Int} {lim : Int} (hg : ∀ x, lim ≤ x → g x = -1) : ∀ (d w k : Nat) (a : Int) (r : Int × Int × List Int), w < 8 → 0 ≤ a → a ≤ lim → PL g d w k a = some r → PLo w lim a r := by
  intro d
  induction d with
  | zero => intro w k a r hw h0 h1 h; cases h
  | succ d ih =>
    intro w k a r hw h0 h1 h
    have lt : ∀ x, g x ≠ -1 → x + 1 ≤ lim := fun x q => Int.not_lt.mp (fun q2 => q (hg x (by omega)))
    match w, hw with
    | 0, _ =>
      obtain ⟨s, e, h⟩ := PL_i0 h
      obtain ⟨s1, s2, s3, s4⟩ := ih 1 k a s (by omega) h0 h1 e
      rcases h with ⟨c, c2, t, e', rfl⟩ | ⟨c, rfl⟩
      · obtain ⟨t1, t2, t3, t4⟩ := ih 1 k (s.1 + 1) t (by omega) (by omega) (lt s.1 (by omega)) e'
        have s4 := s4 c
        refine ⟨by show a ≤ t.1; omega, t2, t3, fun q => ⟨fun _ _ => by show a + 1 ≤ t.1; omega, ?_⟩⟩
        have t4 := t4 q
        show (((s.2.2 ++ t.2.2 ++ [2000 + g s.1]).length : Nat) : Int) + a ≤ t.1 + 0
        rw [List.length_append, List.length_append, show [2000 + g s.1].length = 1 from rfl]
        have z4 : (s.2.2.length : Int) + a ≤ s.1 + 0 := s4.2
        have z5 : (t.2.2.length : Int) + (s.1 + 1) ≤ t.1 + 0 := t4.2
        omega
      · exact ⟨s1, s2, s3, fun q => ⟨fun _ _ => (s4 q).1 (by omega) (by omega), (s4 q).2⟩⟩
    | 1, _ =>
      obtain ⟨s, e, h⟩ := PL_i1 h
      obtain ⟨s1, s2, s3, s4⟩ := ih 2 k a s (by omega) h0 h1 e
      rcases h with ⟨c, t, e', rfl⟩ | ⟨c, rfl⟩
      · obtain ⟨t1, t2, t3, t4⟩ := ih 4 k s.1 t (by omega) (by omega) s2 e'
        have s4 := s4 c
        have s5 := s4.1 (by omega) (by omega)
        refine ⟨by show a ≤ t.1; omega, t2, t3, fun q => ⟨fun _ _ => by show a + 1 ≤ t.1; omega, ?_⟩⟩
        have t4 := t4 q
        show (((s.2.2 ++ t.2.2).length : Nat) : Int) + a ≤ t.1 + 0
        rw [List.length_append]
        have z4 : (s.2.2.length : Int) + a ≤ s.1 + 0 := s4.2
        have z5 : (t.2.2.length : Int) + s.1 ≤ t.1 + 0 := t4.2
        omega
      · exact ⟨s1, s2, s3, fun q => absurd q c⟩
    | 2, _ =>
      obtain ⟨s, e, h⟩ := PL_i2 h
      obtain ⟨s1, s2, s3, s4⟩ := ih 3 k a s (by omega) h0 h1 e
      rcases h with ⟨c, t, e', rfl⟩ | ⟨c, rfl⟩
      · obtain ⟨t1, t2, t3, t4⟩ := ih 5 k s.1 t (by omega) (by omega) s2 e'
        have s4 := s4 c
        have s5 := s4.1 (by omega) (by omega)
        refine ⟨by show a ≤ t.1; omega, t2, t3, fun q => ⟨fun _ _ => by show a + 1 ≤ t.1; omega, ?_⟩⟩
        have t4 := t4 q
        show (((s.2.2 ++ t.2.2).length : Nat) : Int) + a ≤ t.1 + 0
        rw [List.length_append]
        have z4 : (s.2.2.length : Int) + a ≤ s.1 + 0 := s4.2
        have z5 : (t.2.2.length : Int) + s.1 ≤ t.1 + 0 := t4.2
        omega
      · exact ⟨s1, s2, s3, fun q => absurd q c⟩
    | 3, _ =>
      rcases PL_i3 h with ⟨c, h⟩ | ⟨c, h⟩
      · obtain ⟨s1, s2, s3, s4⟩ := ih 7 k (a + 1) r (by omega) (by omega) (lt a (by omega)) h
        refine ⟨by omega, s2, s3, fun q => ⟨fun _ _ => by omega, ?_⟩⟩
        have z4 : (r.2.2.length : Int) + (a + 1) ≤ r.1 + 1 := (s4 q).2
        show (r.2.2.length : Int) + a ≤ r.1 + 0
        omega
      · obtain ⟨s1, s2, s3, s4⟩ := ih 6 k a r (by omega) h0 h1 h
        exact ⟨s1, s2, s3, fun q => ⟨fun _ _ => (s4 q).1 (by omega) (by omega), (s4 q).2⟩⟩
    | 4, _ =>
      rcases PL_i4 h with ⟨c, s, e, h⟩ | ⟨c, rfl⟩
      · have la := lt a (by omega)
        obtain ⟨s1, s2, s3, s4⟩ := ih 2 k (a + 1) s (by omega) (by omega) la e
        rcases h with ⟨c, t, e', rfl⟩ | ⟨c, rfl⟩
        · obtain ⟨t1, t2, t3, t4⟩ := ih 4 k s.1 t (by omega) (by omega) s2 e'
          have s4 := s4 c
          refine ⟨by show a ≤ t.1; omega, t2, t3, fun q => ⟨fun q2 => absurd rfl q2, ?_⟩⟩
          have t4 := t4 q
          show (((s.2.2 ++ [2000 + g a] ++ t.2.2).length : Nat) : Int) + a ≤ t.1 + 0
          rw [List.length_append, List.length_append, show [2000 + g a].length = 1 from rfl]
          have z4 : (s.2.2.length : Int) + (a + 1) ≤ s.1 + 0 := s4.2
          have z5 : (t.2.2.length : Int) + s.1 ≤ t.1 + 0 := t4.2
          omega
        · exact ⟨by omega, s2, s3, fun q => absurd q c⟩
      · exact ⟨by show a ≤ a; omega, h1, Or.inl rfl, fun q => ⟨fun q2 => absurd rfl q2, by show ((0 : Nat) : Int) + a ≤ a + 0; omega⟩⟩
    | 5, _ =>
      rcases PL_i5 h with ⟨c, s, e, h⟩ | ⟨c, rfl⟩
      · have la := lt a (by omega)
        obtain ⟨s1, s2, s3, s4⟩ := ih 3 k (a + 1) s (by omega) (by omega) la e
        rcases h with ⟨c, t, e', rfl⟩ | ⟨c, rfl⟩
        · obtain ⟨t1, t2, t3, t4⟩ := ih 5 k s.1 t (by omega) (by omega) s2 e'
          have s4 := s4 c
          refine ⟨by show a ≤ t.1; omega, t2, t3, fun q => ⟨fun _ q2 => absurd rfl q2, ?_⟩⟩
          have t4 := t4 q
          show (((s.2.2 ++ [2000 + g a] ++ t.2.2).length : Nat) : Int) + a ≤ t.1 + 0
          rw [List.length_append, List.length_append, show [2000 + g a].length = 1 from rfl]
          have z4 : (s.2.2.length : Int) + (a + 1) ≤ s.1 + 0 := s4.2
          have z5 : (t.2.2.length : Int) + s.1 ≤ t.1 + 0 := t4.2
          omega
        · exact ⟨by omega, s2, s3, fun q => absurd q c⟩
      · exact ⟨by show a ≤ a; omega, h1, Or.inl rfl, fun q => ⟨fun _ q2 => absurd rfl q2, by show ((0 : Nat) : Int) + a ≤ a + 0; omega⟩⟩
    | 6, _ =>
      rcases PL_i6 h with ⟨c, rfl⟩ | ⟨c, c1, rfl⟩ | ⟨c, c1, c2, s, e, h⟩ | ⟨c, c1, c2, rfl⟩
      · have np := n3_pos c
        have nl := n3_lim hg h1
        exact ⟨by show a ≤ a + n3 g a; omega, nl, Or.inl rfl, fun _ => ⟨fun _ _ => by show a + 1 ≤ a + n3 g a; omega, by show ((1 : Nat) : Int) + a ≤ a + n3 g a + 0; omega⟩⟩
      · have := lix_0 c1
        have la := lt a (by omega)
        exact ⟨by show a ≤ a + 1; omega, la, Or.inl rfl, fun _ => ⟨fun _ _ => by show a + 1 ≤ a + 1; omega, by show ((1 : Nat) : Int) + a ≤ a + 1 + 0; omega⟩⟩
      · have la := lt a (by omega)
        obtain ⟨s1, s2, s3, s4⟩ := ih 0 (k + 1) (a + 1) s (by omega) (by omega) la e
        rcases h with ⟨c3, c4, rfl⟩ | ⟨c3, c4, rfl⟩ | ⟨c3, rfl⟩
        · have ls := lt s.1 (by omega)
          have z4 : (s.2.2.length : Int) + (a + 1) ≤ s.1 + 0 := (s4 c3).2
          exact ⟨by show a ≤ s.1 + 1; omega, ls, Or.inl rfl, fun _ => ⟨fun _ _ => by show a + 1 ≤ s.1 + 1; omega, by show (s.2.2.length : Int) + a ≤ s.1 + 1 + 0; omega⟩⟩
        · exact ⟨by show a ≤ s.1; omega, s2, Or.inr rfl, fun q => by
            have q : s.1 = -1 := q
            omega⟩
        · exact ⟨by omega, s2, s3, fun q => absurd q c3⟩
      · exact ⟨by show a ≤ a; omega, h1, Or.inr rfl, fun q => by
          have q : a = -1 := q
          omega⟩
    | 7, _ =>
      rcases PL_i7 h with ⟨c, h⟩ | ⟨c, s, e, rfl⟩
      · obtain ⟨s1, s2, s3, s4⟩ := ih 3 k (a + 1) r (by omega) (by omega) (lt a (by omega)) h
        refine ⟨by omega, s2, s3, fun q => ⟨fun _ _ => by omega, ?_⟩⟩
        have z4 : (r.2.2.length : Int) + (a + 1) ≤ r.1 + 0 := (s4 q).2
        show (r.2.2.length : Int) + a ≤ r.1 + 1
        omega
      · obtain ⟨s1, s2, s3, s4⟩ := ih 6 k a s (by omega) h0 h1 e
        refine ⟨s1, s2, s3, fun q => ⟨fun _ _ => (s4 q).1 (by omega) (by omega), ?_⟩⟩
        show (((s.2.2 ++ [2000]).length : Nat) : Int) + a ≤ s.1 + 1
        rw [List.length_append, show [(2000 : Int)].length = 1 from rfl]
        have z4 : (s.2.2.length : Int) + a ≤ s.1 + 0 := (s4 q).2
        omega
def rkP (w : Nat) : Int := if w = 0 then 4 else if w = 1 then 3 else if w = 2 then 2 else if w = 3 ∨ w = 7 then 1 else 0
theorem sb {α β : Type} {o : Option α} {f : α → Option β} (h : ∃ a, o = some a) (g : ∀ a, o = some a → ∃ b, f a = some b) : ∃ b, o.bind f = some b := by
  obtain ⟨a, e⟩ := h
  obtain ⟨b, e'⟩ := g a e
  exact ⟨b, by rw [e]; exact e'⟩
set_option maxHeartbeats 2000000 in
/-- it is read to its end -/
theorem PL_tot {g : Int → Int} {lim : Int} (hg : ∀ x, lim ≤ x → g x = -1) : ∀ (d w k : Nat) (a : Int), w < 8 → 0 ≤ a → a ≤ lim → 6 * (lim - a) + rkP w < (d : Int) → ∃ r, PL g d w k a = some r := by
  intro d
  induction d with
  | zero =>
    intro w k a hw h0 h1 h
    have : 0 ≤ rkP w := by unfold rkP; (repeat' split) <;> decide
    omega
  | succ d ih =>
    intro w k a hw h0 h1 h
    have lt : ∀ x, g x ≠ -1 → x + 1 ≤ lim := fun x q => Int.not_lt.mp (fun q2 => q (hg x (by omega)))
    match w, hw with
    | 0, _ =>
      have h : 6 * (lim - a) + 4 < ((d + 1 : Nat) : Int) := h
      refine sb (ih 1 k a (by omega) h0 h1 (by show 6 * (lim - a) + 3 < (d : Int); omega)) (fun s e => ?_)
      obtain ⟨s1, s2, s3, s4⟩ := PL_ok hg d 1 k a s (by omega) h0 h1 e
      by_cases c : s.2.1 = -1 ∧ (g s.1 = 60 ∨ g s.1 = 62 ∨ g s.1 = 61)
      · rw [if_pos c]
        have s5 := (s4 c.1).1 (by omega) (by omega)
        exact sb (ih 1 k (s.1 + 1) (by omega) (by omega) (lt s.1 (by omega)) (by show 6 * (lim - (s.1 + 1)) + 3 < (d : Int); omega)) (fun t _ => ⟨_, rfl⟩)
      · rw [if_neg c]; exact ⟨_, rfl⟩
    | 1, _ =>
      have h : 6 * (lim - a) + 3 < ((d + 1 : Nat) : Int) := h
      refine sb (ih 2 k a (by omega) h0 h1 (by show 6 * (lim - a) + 2 < (d : Int); omega)) (fun s e => ?_)
      obtain ⟨s1, s2, s3, s4⟩ := PL_ok hg d 2 k a s (by omega) h0 h1 e
      by_cases c : s.2.1 = -1
      · rw [if_pos c]
        have s5 := (s4 c).1 (by omega) (by omega)
        exact sb (ih 4 k s.1 (by omega) (by omega) s2 (by show 6 * (lim - s.1) + 0 < (d : Int); omega)) (fun t _ => ⟨_, rfl⟩)
      · rw [if_neg c]; exact ⟨_, rfl⟩
    | 2, _ =>
      have h : 6 * (lim - a) + 2 < ((d + 1 : Nat) : Int) := h
      refine sb (ih 3 k a (by omega) h0 h1 (by show 6 * (lim - a) + 1 < (d : Int); omega)) (fun s e => ?_)
      obtain ⟨s1, s2, s3, s4⟩ := PL_ok hg d 3 k a s (by omega) h0 h1 e
      by_cases c : s.2.1 = -1
      · rw [if_pos c]
        have s5 := (s4 c).1 (by omega) (by omega)
        exact sb (ih 5 k s.1 (by omega) (by omega) s2 (by show 6 * (lim - s.1) + 0 < (d : Int); omega)) (fun t _ => ⟨_, rfl⟩)
      · rw [if_neg c]; exact ⟨_, rfl⟩
    | 3, _ =>
      have h : 6 * (lim - a) + 1 < ((d + 1 : Nat) : Int) := h
      show ∃ r, (if g a = 45 then PL g d 7 k (a + 1) else PL g d 6 k a) = some r
      by_cases c : g a = 45
      · rw [if_pos c]
        exact ih 7 k (a + 1) (by omega) (by omega) (lt a (by omega)) (by show 6 * (lim - (a + 1)) + 1 < (d : Int); omega)
      · rw [if_neg c]
        exact ih 6 k a (by omega) h0 h1 (by show 6 * (lim - a) + 0 < (d : Int); omega)
    | 4, _ =>
      have h : 6 * (lim - a) + 0 < ((d + 1 : Nat) : Int) := h
      show ∃ r, (if g a = 43 ∨ g a = 45 then (PL g d 2 k (a + 1)).bind fun s => if s.2.1 = -1 then (PL g d 4 k s.1).bind fun t => some (t.1, t.2.1, s.2.2 ++ [2000 + g a] ++ t.2.2) else some s else some (a, -1, [])) = some r
      by_cases c : g a = 43 ∨ g a = 45
      · rw [if_pos c]
        have la := lt a (by omega)
        refine sb (ih 2 k (a + 1) (by omega) (by omega) la (by show 6 * (lim - (a + 1)) + 2 < (d : Int); omega)) (fun s e => ?_)
        obtain ⟨s1, s2, s3, s4⟩ := PL_ok hg d 2 k (a + 1) s (by omega) (by omega) la e
        by_cases c : s.2.1 = -1
        · rw [if_pos c]
          exact sb (ih 4 k s.1 (by omega) (by omega) s2 (by show 6 * (lim - s.1) + 0 < (d : Int); omega)) (fun t _ => ⟨_, rfl⟩)
        · rw [if_neg c]; exact ⟨_, rfl⟩
      · rw [if_neg c]; exact ⟨_, rfl⟩
    | 5, _ =>
      have h : 6 * (lim - a) + 0 < ((d + 1 : Nat) : Int) := h
      show ∃ r, (if g a = 42 ∨ g a = 47 then (PL g d 3 k (a + 1)).bind fun s => if s.2.1 = -1 then (PL g d 5 k s.1).bind fun t => some (t.1, t.2.1, s.2.2 ++ [2000 + g a] ++ t.2.2) else some s else some (a, -1, [])) = some r
      by_cases c : g a = 42 ∨ g a = 47
      · rw [if_pos c]
        have la := lt a (by omega)
        refine sb (ih 3 k (a + 1) (by omega) (by omega) la (by show 6 * (lim - (a + 1)) + 1 < (d : Int); omega)) (fun s e => ?_)
        obtain ⟨s1, s2, s3, s4⟩ := PL_ok hg d 3 k (a + 1) s (by omega) (by omega) la e
        by_cases c : s.2.1 = -1
        · rw [if_pos c]
          exact sb (ih 5 k s.1 (by omega) (by omega) s2 (by show 6 * (lim - s.1) + 0 < (d : Int); omega)) (fun t _ => ⟨_, rfl⟩)
        · rw [if_neg c]; exact ⟨_, rfl⟩
      · rw [if_neg c]; exact ⟨_, rfl⟩
    | 6, _ =>
      have h : 6 * (lim - a) + 0 < ((d + 1 : Nat) : Int) := h
      show ∃ r, (if 48 ≤ g a ∧ g a ≤ 57 then some (a + n3 g a, -1, [nvd g a (n3 g a)]) else if 0 ≤ lix (g a) then some (a + 1, -1, [1000 + lix (g a)]) else if g a = 40 ∧ k < 4 then (PL g d 0 (k + 1) (a + 1)).bind fun s => if s.2.1 = -1 then (if g s.1 = 41 then some (s.1 + 1, -1, s.2.2) else some (s.1, s.1, [])) else some s else some (a, a, [])) = some r
      by_cases c : 48 ≤ g a ∧ g a ≤ 57
      · rw [if_pos c]; exact ⟨_, rfl⟩
      rw [if_neg c]
      by_cases c1 : 0 ≤ lix (g a)
      · rw [if_pos c1]; exact ⟨_, rfl⟩
      rw [if_neg c1]
      by_cases c2 : g a = 40 ∧ k < 4
      · rw [if_pos c2]
        refine sb (ih 0 (k + 1) (a + 1) (by omega) (by omega) (lt a (by omega)) (by show 6 * (lim - (a + 1)) + 4 < (d : Int); omega)) (fun s e => ?_)
        by_cases c3 : s.2.1 = -1
        · rw [if_pos c3]
          by_cases c4 : g s.1 = 41
          · rw [if_pos c4]; exact ⟨_, rfl⟩
          · rw [if_neg c4]; exact ⟨_, rfl⟩
        · rw [if_neg c3]; exact ⟨_, rfl⟩
      · rw [if_neg c2]; exact ⟨_, rfl⟩
    | 7, _ =>
      have h : 6 * (lim - a) + 1 < ((d + 1 : Nat) : Int) := h
      show ∃ r, (if g a = 45 then PL g d 3 k (a + 1) else (PL g d 6 k a).bind fun s => some (s.1, s.2.1, s.2.2 ++ [2000])) = some r
      by_cases c : g a = 45
      · rw [if_pos c]
        exact ih 3 k (a + 1) (by omega) (by omega) (lt a (by omega)) (by show 6 * (lim - (a + 1)) + 1 < (d : Int); omega)
      · rw [if_neg c]
        exact sb (ih 6 k a (by omega) h0 h1 (by show 6 * (lim - a) + 0 < (d : Int); omega)) (fun s _ => ⟨_, rfl⟩)
/-- what law() answers to a text of s signs (of a LAW that there is) -/
noncomputable def lwR (f : Nat → Int32) (s : Int) : Int × Int × List Int := (PL (GS f (min s 40)) 300 0 0 0).getD (0, 0, [])
noncomputable def lwA (f : Nat → Int32) (s : Int) : Int := if s ≤ 0 then 0 else if (lwR f s).2.1 = -1 then (if (lwR f s).1 < s then -1 - (lwR f s).1 else 0) else -1 - (lwR f s).2.1
theorem lwR_is {f : Nat → Int32} {s : Int} (h0 : 0 ≤ s) : PL (GS f (min s 40)) 300 0 0 0 = some (lwR f s) ∧ PLo 0 (min s 40) 0 (lwR f s) := by
  have hg : ∀ x, min s 40 ≤ x → GS f (min s 40) x = -1 := fun x hx => GS_out hx
  obtain ⟨r, e⟩ := PL_tot hg 300 0 0 0 (by omega) (by omega) (by omega) (by show 6 * (min s 40 - 0) + 4 < ((300 : Nat) : Int); omega)
  have e2 : lwR f s = r := by unfold lwR; rw [e]; rfl
  rw [e2]
  exact ⟨e, PL_ok hg 300 0 0 0 r (by omega) (by omega) (by omega) e⟩
theorem GSx {f : Nat → Int32} {lim : Int} : ∀ x, lim ≤ x → GS f lim x = -1 := fun _ hx => GS_out hx
theorem GSlt {f : Nat → Int32} {lim x : Int} (h : GS f lim x ≠ -1) : x + 1 ≤ lim := Int.not_lt.mp (fun q => h (GS_out (by omega)))
theorem u16_id {x : Int32} {v : Int} (h : x.toInt = v) (h0 : 0 ≤ v) (h1 : v ≤ 255) : ((x.toUInt32 % 65536).toInt32) = x := by
  have hx : x.toBitVec.toNat = v.toNat := by
    have h2 : x.toInt = x.toBitVec.toInt := rfl
    have hl := x.toBitVec.isLt
    rw [h2, BitVec.toInt_eq_toNat_cond] at h
    split at h <;> omega
  have e : x.toUInt32 % 65536 = x.toUInt32 := by
    apply UInt32.toNat_inj.mp
    rw [UInt32.toNat_mod]
    have : x.toUInt32.toNat = x.toBitVec.toNat := rfl
    rw [this, hx, show (65536 : UInt32).toNat = 65536 from rfl]
    omega
  rw [e]
  rfl
end
section
/-! ===== the class reads a LAW ===== -/
def TLw (Z : jZ) (I0 : jI) (v0 v1 uB uD : Nat) (lim : Int) : Prop := WD Z I0 ∧ jk Z v0 3 ∧ jk Z v1 10 ∧ jr Z v1 0 = some uB ∧ jk Z uB 13 ∧ (0 ≤ lim ∧ lim ≤ (I0 v1 1).toInt ∧ (I0 v1 1).toInt ≤ 80 ∧ lim ≤ 40) ∧ BY (I0 uB) ∧ jr Z v0 1 = some uD ∧ jk Z uD 14
/-- the reader at place a, fault F, c told -/
def LSw (Z : jZ) (I0 : jI) (v0 uD : Nat) (lim : Int) (I : jI) (a F : Int) (c : List Int) : Prop := WD Z I ∧ FR Ws_R3 Z I0 Z I ∧ (I v0 6).toInt = a ∧ (I v0 8).toInt = F ∧ (I v0 7).toInt = lim ∧ (F = -1 → (I v0 5).toInt = (c.length : Int) ∧ ∀ i : Nat, i < c.length → c[i]? = some (I uD i).toInt) ∧ (∀ b, b ≠ v0 → b ≠ uD → I b = I0 b)
theorem LSw_txt {Z : jZ} {I0 I : jI} {v0 v1 uB uD : Nat} {lim a F : Int} {c : List Int} (t : TLw Z I0 v0 v1 uB uD lim) (s : LSw Z I0 v0 uD lim I a F c) : I v1 1 = I0 v1 1 ∧ I uB = I0 uB := by
  obtain ⟨w0, k0, k1, hB, kB, -⟩ := t
  exact ⟨s.2.1.2.2.1 v1 10 1 k1 (by decide) (by decide), s.2.1.2.2.2 v1 10 0 uB k1 hB (by rw [kB.2]; rfl) rfl (by decide)⟩
theorem LSw_at {Z : jZ} {I0 I : jI} {v0 v1 uB uD : Nat} {lim a F : Int} {c : List Int} (t : TLw Z I0 v0 v1 uB uD lim) (s : LSw Z I0 v0 uD lim I a F c) (h0 : 0 ≤ a ∧ a ≤ 100) : LSw Z I0 v0 uD lim (jpI I v0 6 ((I v0 6) + (1 : Int32))) (a + 1) F c := by
  obtain ⟨w0, k0, k1, hB, kB, hl, hb, hD, kD⟩ := t
  have nD : uD ≠ v0 := ks_ne kD k0 (by decide)
  refine ⟨WD_putF s.1 3 6 k0 (by decide) (by decide) trivial, s.2.1.trans w0.1 w0.2.1 (FR_putF k0 (by decide) (by decide)), ?_, ?_, ?_, fun q => ?_, fun b h1 h2 => (jpI_ne h1).trans (s.2.2.2.2.2.2 b h1 h2)⟩
  · rw [jpI_at]; exact i_add s.2.2.1 (show (1 : Int32).toInt = 1 from rfl) (by omega) (by omega)
  · rw [jpI_o (by decide)]; exact s.2.2.2.1
  · rw [jpI_o (by decide)]; exact s.2.2.2.2.1
  · obtain ⟨q1, q2⟩ := s.2.2.2.2.2.1 q
    refine ⟨by rw [jpI_o (by decide)]; exact q1, fun i hi => ?_⟩
    rw [jpI_ne nD]
    exact q2 i hi
/-- a fault is told -/
theorem LSw_flt {Z : jZ} {I0 I : jI} {v0 v1 uB uD : Nat} {lim a F : Int} {c c' : List Int} {y : Int32} (t : TLw Z I0 v0 v1 uB uD lim) (s : LSw Z I0 v0 uD lim I a F c) (hy : 0 ≤ y.toInt) : LSw Z I0 v0 uD lim (jpI I v0 8 y) a y.toInt c' := by
  obtain ⟨w0, k0, k1, hB, kB, hl, hb, hD, kD⟩ := t
  refine ⟨WD_putF s.1 3 8 k0 (by decide) (by decide) trivial, s.2.1.trans w0.1 w0.2.1 (FR_putF k0 (by decide) (by decide)), ?_, ?_, ?_, fun q => by omega, fun b h1 h2 => (jpI_ne h1).trans (s.2.2.2.2.2.2 b h1 h2)⟩
  · rw [jpI_o (by decide)]; exact s.2.2.1
  · rw [jpI_at]
  · rw [jpI_o (by decide)]; exact s.2.2.2.2.1
theorem LSw_any {Z : jZ} {I0 I : jI} {v0 uD : Nat} {lim a F : Int} {c c' : List Int} (s : LSw Z I0 v0 uD lim I a F c) (h : F ≠ -1) : LSw Z I0 v0 uD lim I a F c' := ⟨s.1, s.2.1, s.2.2.1, s.2.2.2.1, s.2.2.2.2.1, fun q => absurd q h, s.2.2.2.2.2.2⟩
theorem l_look {Z : jZ} {I0 I : jI} {L : jL} {v0 v1 uB uD : Nat} {lim a F : Int} {c : List Int} {Q : Int32 → jI → jL → Prop} (t : TLw Z I0 v0 v1 uB uD lim) (s : LSw Z I0 v0 uD lim I a F c) (h0 : 0 ≤ a) (h : ∀ r : Int32, CLk (GS (I0 uB) lim a) r.toInt → -1 ≤ r.toInt → r.toInt ≤ 255 → Q r I L) : f_X3_look v0 v1 Z I L Q := by
  obtain ⟨e1, e2⟩ := LSw_txt t s
  obtain ⟨w0, k0, k1, hB, kB, hl, hb, hD, kD⟩ := t
  obtain ⟨w, f, sa, sF, sl, -⟩ := s
  unfold f_X3_look
  refine ⟨fun c => h _ ?_ (by decide) (by decide), fun c => ?_⟩
  · exact CLk_out ((i_le sl sa).mp c)
  have c := (not_congr (i_le sl sa)).mp c
  unfold f_X10_signAt
  refine ⟨fun c1 => ?_, fun c1 => ⟨fun c2 => ?_, fun c2 => ⟨fun c3 => ?_, fun c3 => ?_⟩⟩⟩
  · have := (i_lt sa (show (0 : Int32).toInt = 0 from rfl)).mp c1
    omega
  · rw [e1] at c2
    have := (i_le rfl sa).mp c2
    omega
  · have := (i_le (show (80 : Int32).toInt = 80 from rfl) sa).mp c3
    omega
  · intro b eb
    cases hB.symm.trans eb
    have e9 := i_and255 (x := I uB (I v0 6).toNatClampNeg)
    refine ⟨vi_of sa (by omega) (by omega), h _ ?_ (by omega) (by omega)⟩
    rw [e2]
    have := CLk_in (f := I0 uB) (lim := lim) (x := I v0 6) hb (by omega) (by omega)
    rw [sa] at this
    exact this
theorem l_ahead {Z : jZ} {I0 I : jI} {L : jL} {v0 v1 uB uD : Nat} {lim a F k2 k3 : Int} {c : List Int} {v2 v3 : Int32} {Q : Int32 → jI → jL → Prop} (t : TLw Z I0 v0 v1 uB uD lim) (s : LSw Z I0 v0 uD lim I a F c) (h0 : 0 ≤ a) (e2 : v2.toInt = k2) (e3 : v3.toInt = k3) (hk : (0 ≤ k2 ∧ k2 ≤ 127) ∧ 0 ≤ k3 ∧ k3 ≤ 127) (h1 : F = -1 → (GS (I0 uB) lim a = k2 ∨ GS (I0 uB) lim a = k3) → Q 1 I L) (h2 : (F ≠ -1 ∨ ¬ (GS (I0 uB) lim a = k2 ∨ GS (I0 uB) lim a = k3)) → Q 0 I L) : f_X3_isAhead v0 v1 v2 v3 Z I L Q := by
  unfold f_X3_isAhead
  refine l_look t s h0 (fun r hr r0 r1 => ⟨fun g => h2 (Or.inl ((not_congr (i_eq s.2.2.2.1 (show (-1 : Int32).toInt = -1 from rfl))).mp g)), fun g => ?_⟩)
  have g := (i_eq s.2.2.2.1 (show (-1 : Int32).toInt = -1 from rfl)).mp g
  unfold CLk at hr
  refine ⟨fun q => ?_, fun q => ⟨fun q2 => ?_, fun q2 => ?_⟩⟩
  · have q := (i_eq (x := r) rfl e2).mp q
    unfold f_X3_isAhead_b27
    exact h1 g (Or.inl (by omega))
  · have q := (not_congr (i_eq (x := r) rfl e2)).mp q
    have q2 := (not_congr (i_eq (x := r) rfl e3)).mp q2
    exact h2 (Or.inr (by omega))
  · have q2 := (i_eq (x := r) rfl e3).mp q2
    unfold f_X3_isAhead_b27
    exact h1 g (Or.inr (by omega))
theorem l_emit {Z : jZ} {I0 I : jI} {L : jL} {v0 v1 uB uD : Nat} {lim a : Int} {c : List Int} {x : Int32} {v : Int} {Q : jI → jL → Prop} (t : TLw Z I0 v0 v1 uB uD lim) (s : LSw Z I0 v0 uD lim I a (-1) c) (hc : c.length ≤ 39) (ex : x.toInt = v) (h : ∀ I', LSw Z I0 v0 uD lim I' a (-1) (c ++ [v]) → Q I' L) : f_X3_emit v0 x Z I L Q := by
  obtain ⟨w0, k0, k1, hB, kB, hl, hb, hD, kD⟩ := t
  obtain ⟨w, f, sa, sF, sl, sc, sx⟩ := s
  obtain ⟨q1, q2⟩ := sc rfl
  have nD : uD ≠ v0 := ks_ne kD k0 (by decide)
  unfold f_X3_emit
  refine ⟨fun g => absurd ((i_eq sF (show (-1 : Int32).toInt = -1 from rfl)).mpr rfl) g, fun _ => ⟨fun g => ?_, fun _ => ?_⟩⟩
  · have := (i_le (show (40 : Int32).toInt = 40 from rfl) q1).mp g
    omega
  intro b eb
  cases hD.symm.trans eb
  refine ⟨vi_of q1 (by omega) (by omega), ?_⟩
  intro I5 e5 I6 e6
  have n5 : (I v0 5).toNatClampNeg = c.length := by have := i_nat q1 (by omega); omega
  have y5 : I5 v0 = I v0 := by rw [e5]; exact jpI_ne (fun e => nD e.symm)
  have d5 : I5 uD = upd (I uD) c.length x := by rw [e5, n5]; exact va_up_self _ _ _
  have w5 : WD Z I5 := by rw [e5]; exact WD_putA w 3 1 k0 hD kD rfl rfl (by decide) trivial
  have f5 : FR Ws_R3 Z I0 Z I5 := f.trans w0.1 w0.2.1 (by rw [e5]; exact FR_upA w.2.1 k0 hD kD rfl rfl (by decide))
  have t6 : ((I5 v0 5) + (1 : Int32)).toInt = (c.length : Int) + 1 := i_add (by rw [y5]; exact q1) (show (1 : Int32).toInt = 1 from rfl) (by omega) (by omega)
  rw [e6]
  refine h _ ⟨WD_putF w5 3 5 k0 (by decide) (by decide) (show rg 0 40 _ from ⟨by rw [t6]; omega, by rw [t6]; omega⟩), f5.trans w0.1 w0.2.1 (FR_putF k0 (by decide) (by decide)), ?_, ?_, ?_, fun _ => ⟨?_, fun i hi => ?_⟩, fun b h1 h2 => ((jpI_ne h1).trans (by rw [e5]; exact jpI_ne h2)).trans (sx b h1 h2)⟩
  · rw [jpI_o (by decide), y5]; exact sa
  · rw [jpI_o (by decide), y5]; exact sF
  · rw [jpI_o (by decide), y5]; exact sl
  · rw [jpI_at, t6, List.length_append]; rfl
  · rw [List.length_append] at hi
    have hi : i < c.length + 1 := hi
    rw [jpI_ne nD, d5]
    by_cases ci : i = c.length
    · rw [ci, show upd (I uD) c.length x c.length = x from if_pos rfl, List.getElem?_append_right (Nat.le_refl _), Nat.sub_self, ex]
      rfl
    · rw [show upd (I uD) c.length x i = I uD i from if_neg ci, List.getElem?_append_left (by omega)]
      exact q2 i (by omega)
theorem l_emitD {Z : jZ} {I0 I : jI} {L : jL} {v0 uD : Nat} {lim a F : Int} {c : List Int} {x : Int32} {Q : jI → jL → Prop} (s : LSw Z I0 v0 uD lim I a F c) (hF : F ≠ -1) (h : Q I L) : f_X3_emit v0 x Z I L Q := by
  unfold f_X3_emit
  exact ⟨fun _ => h, fun g => absurd ((i_eq s.2.2.2.1 (show (-1 : Int32).toInt = -1 from rfl)).mp g) hF⟩
set_option maxHeartbeats 1000000 in
theorem l_num {Z : jZ} {I0 : jI} {L : jL} {v0 v1 uB uD : Nat} {lim a : Int} {c : List Int} {Q : jI → jL → Prop} (t : TLw Z I0 v0 v1 uB uD lim) (h0 : 0 ≤ a ∧ a ≤ 40) (hc : c.length ≤ 39) (h : ∀ I', LSw Z I0 v0 uD lim I' (a + n3 (GS (I0 uB) lim) a) (-1) (c ++ [nvd (GS (I0 uB) lim) a (n3 (GS (I0 uB) lim) a)]) → Q I' L) :
    ∀ (m : Nat) (v2 v3 : Int32) (d : Nat) (I : jI), LSw Z I0 v0 uD lim I (a + d) (-1) c → N3 (GS (I0 uB) lim) a d → v3.toInt = (d : Int) → v2.toInt = nvd (GS (I0 uB) lim) a d → 4 ≤ m + d → f_X3_readNumber_L4 Z Q m v0 v1 v2 v3 I L := by
  have fin : ∀ (v2 : Int32) (d : Nat) (I : jI), LSw Z I0 v0 uD lim I (a + d) (-1) c → v2.toInt = nvd (GS (I0 uB) lim) a d → n3 (GS (I0 uB) lim) a = d → f_X3_readNumber_b50 Z Q v0 v2 I L := by
    intro v2 d I s e2 en
    unfold f_X3_readNumber_b50
    rw [← en] at s e2
    exact l_emit t s hc e2 h
  intro m
  induction m with
  | zero => intro v2 v3 d I s hN e3 e2 hm; have := hN.1; omega
  | succ m ih =>
    intro v2 v3 d I s hN e3 e2 hm
    have hd := hN.1
    have hv := N3_val hN
    unfold f_X3_readNumber_L4
    refine ⟨fun g => ?_, fun g => ?_⟩
    · have g := (i_le (show (3 : Int32).toInt = 3 from rfl) e3).mp g
      exact fin v2 d I s e2 (N3_end hN (Or.inl (by omega)))
    have g := (not_congr (i_le (show (3 : Int32).toInt = 3 from rfl) e3)).mp g
    refine l_look t s (by omega) (fun r hr r0 r1 => ?_)
    unfold CLk at hr
    have stop : ¬ (48 ≤ GS (I0 uB) lim (a + d) ∧ GS (I0 uB) lim (a + d) ≤ 57) → f_X3_readNumber_b50 Z Q v0 v2 I L := fun hn => fin v2 d I s e2 (N3_end hN (Or.inr hn))
    unfold f_X10_isDigit
    refine ⟨fun c1 => ?_, fun c1 => ⟨fun c2 => ?_, fun c2 => ?_⟩⟩
    · have c1 := (i_lt (x := r) (y := 48) rfl (show (48 : Int32).toInt = 48 from rfl)).mp c1
      exact ⟨fun _ => stop (by omega), fun e => absurd rfl e⟩
    · have c2 := (i_lt (x := 57) (y := r) (show (57 : Int32).toInt = 57 from rfl) rfl).mp c2
      exact ⟨fun _ => stop (by omega), fun e => absurd rfl e⟩
    · have c1 := (not_congr (i_lt (x := r) (y := 48) rfl (show (48 : Int32).toInt = 48 from rfl))).mp c1
      have c2 := (not_congr (i_lt (x := 57) (y := r) (show (57 : Int32).toInt = 57 from rfl) rfl)).mp c2
      have hg : GS (I0 uB) lim (a + d) = r.toInt := by omega
      refine ⟨fun e => absurd e (by decide), fun _ => ?_⟩
      refine l_look t s (by omega) (fun r2 hr2 _ _ => ?_)
      unfold CLk at hr2
      have hg2 : r2.toInt = r.toInt := by omega
      intro x30 e30 I31 e31 x32 e32
      rw [e31]
      have d30 : x30.toInt = nvd (GS (I0 uB) lim) a (d + 1) := by
        show x30.toInt = nvd (GS (I0 uB) lim) a d * 10 + GS (I0 uB) lim (a + d) - 48
        rw [e30]
        exact (i_sub (i_add (i_mul e2 (show (10 : Int32).toInt = 10 from rfl) (by omega) (by omega)) hg2 (by omega) (by omega)) (show (48 : Int32).toInt = 48 from rfl) (by omega) (by omega)).trans (by omega)
      have d32 : x32.toInt = ((d + 1 : Nat) : Int) := by
        rw [e32]
        exact (i_add e3 (show (1 : Int32).toInt = 1 from rfl) (by omega) (by omega)).trans (by omega)
      have s2 := LSw_at t s (by omega)
      rw [show a + (d : Int) + 1 = a + ((d + 1 : Nat) : Int) by omega] at s2
      exact ih x30 x32 (d + 1) _ s2 (N3_step hN (by omega) (by omega)) d32 d30 (by omega)
theorem l_number {Z : jZ} {I0 I : jI} {L : jL} {v0 v1 uB uD : Nat} {lim a : Int} {c : List Int} {Q : jI → jL → Prop} (t : TLw Z I0 v0 v1 uB uD lim) (s : LSw Z I0 v0 uD lim I a (-1) c) (h0 : 0 ≤ a ∧ a ≤ 40) (hc : c.length ≤ 39) (h : ∀ I', LSw Z I0 v0 uD lim I' (a + n3 (GS (I0 uB) lim) a) (-1) (c ++ [nvd (GS (I0 uB) lim) a (n3 (GS (I0 uB) lim) a)]) → Q I' L) : f_X3_readNumber v0 v1 Z I L Q := by
  unfold f_X3_readNumber
  refine ⟨4, l_num t h0 hc h 4 0 0 0 I (by rw [show a + ((0 : Nat) : Int) = a by omega]; exact s) N3_0 rfl rfl (by omega)⟩
theorem l_closing {Z : jZ} {I0 I : jI} {L : jL} {v0 v1 uB uD : Nat} {lim a F : Int} {c c' : List Int} {Q : jI → jL → Prop} (t : TLw Z I0 v0 v1 uB uD lim) (s : LSw Z I0 v0 uD lim I a F c) (h0 : 0 ≤ a ∧ a ≤ 40) (h1 : F = -1 → GS (I0 uB) lim a = 41 → ∀ I', LSw Z I0 v0 uD lim I' (a + 1) (-1) c → Q I' L) (h2 : F = -1 → ¬ GS (I0 uB) lim a = 41 → ∀ I', LSw Z I0 v0 uD lim I' a a c' → Q I' L) (h3 : F ≠ -1 → Q I L) : f_X3_readClosing v0 v1 Z I L Q := by
  unfold f_X3_readClosing
  refine l_ahead (k2 := 41) (k3 := 41) t s h0.1 rfl rfl (by omega) (fun g1 g2 => ⟨fun e => absurd e (by decide), fun _ => ?_⟩) (fun g => ⟨fun _ => ⟨fun q => ?_, fun q => ?_⟩, fun e => absurd rfl e⟩)
  · intro I11 e11
    rw [e11]
    subst g1
    exact h1 rfl (by omega) _ (LSw_at t s (by omega))
  · exact h3 ((not_congr (i_eq s.2.2.2.1 (show (-1 : Int32).toInt = -1 from rfl))).mp q)
  · have q := (i_eq s.2.2.2.1 (show (-1 : Int32).toInt = -1 from rfl)).mp q
    intro I10 e10
    rw [e10]
    have s2 := LSw_flt (c' := c') (y := I v0 6) t s (by rw [s.2.2.1]; omega)
    rw [s.2.2.1] at s2
    exact h2 q (by omega) _ s2
/-- the loops stop at a fault -/
theorem l_sumF {Z : jZ} {I0 I : jI} {L : jL} {D : FTR3} {v0 v1 uB uD m : Nat} {lim a F : Int} {c : List Int} {v2 v3 : Int32} {Q : jI → jL → Prop} (t : TLw Z I0 v0 v1 uB uD lim) (s : LSw Z I0 v0 uD lim I a F c) (h0 : 0 ≤ a) (hF : F ≠ -1) (h : Q I L) : fs_X3_readSum_L8 D Z Q (m + 1) v0 v1 v2 v3 I L := by
  unfold fs_X3_readSum_L8
  exact ⟨fun _ => h, fun _ => l_ahead (k2 := 43) (k3 := 45) t s h0 rfl rfl (by omega) (fun g => absurd g hF) (fun _ => ⟨fun _ => h, fun e => absurd rfl e⟩)⟩
theorem l_prodF {Z : jZ} {I0 I : jI} {L : jL} {D : FTR3} {v0 v1 uB uD m : Nat} {lim a F : Int} {c : List Int} {v2 v3 : Int32} {Q : jI → jL → Prop} (t : TLw Z I0 v0 v1 uB uD lim) (s : LSw Z I0 v0 uD lim I a F c) (h0 : 0 ≤ a) (hF : F ≠ -1) (h : Q I L) : fs_X3_readProduct_L8 D Z Q (m + 1) v0 v1 v2 v3 I L := by
  unfold fs_X3_readProduct_L8
  exact ⟨fun _ => h, fun _ => l_ahead (k2 := 42) (k3 := 47) t s h0 rfl rfl (by omega) (fun g => absurd g hF) (fun _ => ⟨fun _ => h, fun e => absurd rfl e⟩)⟩
theorem l_op {x y : Int32} {v : Int} (hx : x.toInt = v) (h : 0 ≤ v ∧ v ≤ 255) : ((2000 : Int32) + x).toInt = 2000 + v := i_add (show (2000 : Int32).toInt = 2000 from rfl) hx (by omega) (by omega)
/-- what each part of the reader does, by what the text says -/
def LC1 (Z : jZ) (I0 : jI) (v0 v1 uB uD : Nat) (lim : Int) (d w cw : Nat) : Prop := ∀ (D k : Nat) (a : Int) (r : Int × Int × List Int) (c : List Int) (v2 : Int32) (I : jI) (L : jL) (Q : jI → jL → Prop), PL (GS (I0 uB) lim) d w k a = some r → LSw Z I0 v0 uD lim I a (-1) c → 0 ≤ a → a ≤ lim → (c.length : Int) ≤ a → v2.toInt = (k : Int) → k ≤ 4 → 25 ≤ 5 * k + cw + D → (∀ I', LSw Z I0 v0 uD lim I' r.1 r.2.1 (c ++ r.2.2) → Q I' L) → fR3 D cw v0 v1 v2 Z I L Q
def LC3 (Z : jZ) (I0 : jI) (v0 v1 uB uD : Nat) (lim : Int) (d w : Nat) (y : Int32) : Prop := ∀ (D k m : Nat) (a : Int) (r : Int × Int × List Int) (c : List Int) (v2 v4 : Int32) (I : jI) (L : jL) (Q : jI → jL → Prop), PL (GS (I0 uB) lim) d w k a = some r → LSw Z I0 v0 uD lim I a (-1) c → 0 ≤ a → a ≤ lim → (c.length : Int) + pl7 w ≤ a → v2.toInt = (k : Int) → k ≤ 4 → 21 ≤ 5 * k + D → 0 ≤ v4.toInt → v4.toInt ≤ a → lim - a < (m : Int) → (∀ I', LSw Z I0 v0 uD lim I' r.1 r.2.1 (c ++ r.2.2) → Q I' L) → fs_X3_readSigned_L5 (fR3 D) Z Q m v0 v1 v2 y v4 I L
def LC4 (Z : jZ) (I0 : jI) (v0 v1 uB uD : Nat) (lim : Int) (d : Nat) : Prop := ∀ (D k m : Nat) (a : Int) (r : Int × Int × List Int) (c : List Int) (v2 v3 : Int32) (I : jI) (L : jL) (Q : jI → jL → Prop), PL (GS (I0 uB) lim) d 4 k a = some r → LSw Z I0 v0 uD lim I a (-1) c → 0 ≤ a → a ≤ lim → (c.length : Int) ≤ a → v2.toInt = (k : Int) → k ≤ 4 → 23 ≤ 5 * k + D → 0 ≤ v3.toInt → v3.toInt ≤ a → lim - a < (m : Int) → (∀ I', LSw Z I0 v0 uD lim I' r.1 r.2.1 (c ++ r.2.2) → Q I' L) → fs_X3_readSum_L8 (fR3 D) Z Q m v0 v1 v2 v3 I L
def LC5 (Z : jZ) (I0 : jI) (v0 v1 uB uD : Nat) (lim : Int) (d : Nat) : Prop := ∀ (D k m : Nat) (a : Int) (r : Int × Int × List Int) (c : List Int) (v2 v3 : Int32) (I : jI) (L : jL) (Q : jI → jL → Prop), PL (GS (I0 uB) lim) d 5 k a = some r → LSw Z I0 v0 uD lim I a (-1) c → 0 ≤ a → a ≤ lim → (c.length : Int) ≤ a → v2.toInt = (k : Int) → k ≤ 4 → 22 ≤ 5 * k + D → 0 ≤ v3.toInt → v3.toInt ≤ a → lim - a < (m : Int) → (∀ I', LSw Z I0 v0 uD lim I' r.1 r.2.1 (c ++ r.2.2) → Q I' L) → fs_X3_readProduct_L8 (fR3 D) Z Q m v0 v1 v2 v3 I L
def LCa (Z : jZ) (I0 : jI) (v0 v1 uB uD : Nat) (lim : Int) (d : Nat) : Prop := LC1 Z I0 v0 v1 uB uD lim d 0 0 ∧ LC1 Z I0 v0 v1 uB uD lim d 1 1 ∧ LC1 Z I0 v0 v1 uB uD lim d 2 2 ∧ LC1 Z I0 v0 v1 uB uD lim d 3 3 ∧ LC1 Z I0 v0 v1 uB uD lim d 6 4 ∧ LC3 Z I0 v0 v1 uB uD lim d 3 0 ∧ LC3 Z I0 v0 v1 uB uD lim d 7 1 ∧ LC4 Z I0 v0 v1 uB uD lim d ∧ LC5 Z I0 v0 v1 uB uD lim d
theorem ap0 {c e : List Int} {x : Int} {l : List Int} : c ++ e ++ [x] ++ l = c ++ (e ++ [x] ++ l) := by rw [List.append_assoc, List.append_assoc, List.append_assoc]
set_option maxHeartbeats 4000000 in
theorem LC_ex {Z : jZ} {I0 : jI} {v0 v1 uB uD : Nat} {lim : Int} {d : Nat} (t : TLw Z I0 v0 v1 uB uD lim) (ih : LCa Z I0 v0 v1 uB uD lim d) : LC1 Z I0 v0 v1 uB uD lim (d + 1) 0 0 := by
  intro D k a r c v2 I L Q hp s h0 h1 hc ek hk hD hQ
  have hl := t.2.2.2.2.2.1
  obtain ⟨p, e, hp⟩ := PL_i0 hp
  obtain ⟨p1, p2, p3, p4⟩ := PL_ok GSx d 1 k a p (by omega) h0 h1 e
  cases D with
  | zero => omega
  | succ D =>
    show fs_X3_readExpression (fR3 D) v0 v1 v2 Z I L Q
    unfold fs_X3_readExpression
    refine ih.2.1 D k a p c v2 I L _ e s h0 h1 hc ek hk (by omega) (fun I1 s1 => ?_)
    have go : p.2.1 = -1 → ∀ t', PL (GS (I0 uB) lim) d 1 k (p.1 + 1) = some t' → r = (t'.1, t'.2.1, p.2.2 ++ t'.2.2 ++ [2000 + GS (I0 uB) lim p.1]) → (GS (I0 uB) lim p.1 = 60 ∨ GS (I0 uB) lim p.1 = 62 ∨ GS (I0 uB) lim p.1 = 61) → fs_X3_readExpression_b30 (fR3 D) Z Q v0 v1 v2 I1 L := by
      intro g t' e' hr hg
      have z4 : (p.2.2.length : Int) + a ≤ p.1 + 0 := (p4 g).2
      have l1 := GSlt (f := I0 uB) (lim := lim) (x := p.1) (by omega)
      obtain ⟨t1, t2, t3, t4⟩ := PL_ok GSx d 1 k (p.1 + 1) t' (by omega) (by omega) l1 e'
      unfold fs_X3_readExpression_b30
      refine l_look t s1 (by omega) (fun x hx x0 x1 => ?_)
      unfold CLk at hx
      intro I8 e8
      rw [e8]
      rw [g] at s1
      refine ih.2.1 D k (p.1 + 1) t' (c ++ p.2.2) v2 _ L _ e' (LSw_at t s1 (by omega)) (by omega) l1 (by rw [List.length_append]; omega) ek hk (by omega) (fun I11 s11 => ?_)
      by_cases g2 : t'.2.1 = -1
      · rw [g2] at s11
        have z5 : (t'.2.2.length : Int) + (p.1 + 1) ≤ t'.1 + 0 := (t4 g2).2
        refine l_emit t s11 (by rw [List.length_append, List.length_append]; omega) (l_op (y := 0) rfl (by omega)) (fun I' s' => hQ I' ?_)
        rw [show x.toInt = GS (I0 uB) lim p.1 by omega] at s'
        rw [hr]
        show LSw Z I0 v0 uD lim I' t'.1 t'.2.1 (c ++ (p.2.2 ++ t'.2.2 ++ [2000 + GS (I0 uB) lim p.1]))
        rw [g2]
        rw [List.append_assoc c, List.append_assoc c] at s'
        exact s'
      · refine l_emitD s11 g2 (hQ I11 ?_)
        rw [hr]
        exact LSw_any s11 g2
    refine l_ahead (k2 := 60) (k3 := 62) t s1 (by omega) rfl rfl (by omega) (fun g1 g2 => ⟨fun _ => ?_, fun q => absurd q (by decide)⟩) (fun g => ⟨fun q => absurd rfl q, fun _ => ?_⟩)
    · rcases hp with ⟨b1, b2, t', e', hr⟩ | ⟨b, hr⟩
      · exact go b1 t' e' hr b2
      · exact absurd ⟨g1, by omega⟩ b
    · refine l_ahead (k2 := 61) (k3 := 61) t s1 (by omega) rfl rfl (by omega) (fun g1 g2 => ⟨fun q => absurd q (by decide), fun _ => ?_⟩) (fun g' => ⟨fun _ => ?_, fun q => absurd rfl q⟩)
      · rcases hp with ⟨b1, b2, t', e', hr⟩ | ⟨b, hr⟩
        · exact go b1 t' e' hr b2
        · exact absurd ⟨g1, by omega⟩ b
      · rcases hp with ⟨b1, b2, t', e', hr⟩ | ⟨b, hr⟩
        · omega
        · rw [hr] at hQ
          exact hQ I1 s1
set_option maxHeartbeats 4000000 in
theorem LC_sum {Z : jZ} {I0 : jI} {v0 v1 uB uD : Nat} {lim : Int} {d : Nat} (t : TLw Z I0 v0 v1 uB uD lim) (ih : LCa Z I0 v0 v1 uB uD lim d) : LC1 Z I0 v0 v1 uB uD lim (d + 1) 1 1 := by
  intro D k a r c v2 I L Q hp s h0 h1 hc ek hk hD hQ
  have hl := t.2.2.2.2.2.1
  obtain ⟨p, e, hp⟩ := PL_i1 hp
  obtain ⟨p1, p2, p3, p4⟩ := PL_ok GSx d 2 k a p (by omega) h0 h1 e
  cases D with
  | zero => omega
  | succ D =>
    show fs_X3_readSum (fR3 D) v0 v1 v2 Z I L Q
    unfold fs_X3_readSum
    refine ih.2.2.1 D k a p c v2 I L _ e s h0 h1 hc ek hk (by omega) (fun I1 s1 => ?_)
    refine ⟨41 + 1, ?_⟩
    rcases hp with ⟨b1, t', e', hr⟩ | ⟨b, hr⟩
    · have z4 : (p.2.2.length : Int) + a ≤ p.1 + 0 := (p4 b1).2
      rw [b1] at s1
      refine ih.2.2.2.2.2.2.2.1 D k (41 + 1) p.1 t' (c ++ p.2.2) v2 0 I1 L Q e' s1 (by omega) p2 (by rw [List.length_append]; omega) ek hk (by omega) (by decide) (by show (0 : Int) ≤ p.1; omega) (by omega) (fun I' s' => hQ I' ?_)
      rw [hr]
      rw [List.append_assoc] at s'
      exact s'
    · refine l_sumF t s1 (by omega) b (hQ I1 ?_)
      rw [hr]
      exact s1
set_option maxHeartbeats 4000000 in
theorem LC_prod {Z : jZ} {I0 : jI} {v0 v1 uB uD : Nat} {lim : Int} {d : Nat} (t : TLw Z I0 v0 v1 uB uD lim) (ih : LCa Z I0 v0 v1 uB uD lim d) : LC1 Z I0 v0 v1 uB uD lim (d + 1) 2 2 := by
  intro D k a r c v2 I L Q hp s h0 h1 hc ek hk hD hQ
  have hl := t.2.2.2.2.2.1
  obtain ⟨p, e, hp⟩ := PL_i2 hp
  obtain ⟨p1, p2, p3, p4⟩ := PL_ok GSx d 3 k a p (by omega) h0 h1 e
  cases D with
  | zero => omega
  | succ D =>
    show fs_X3_readProduct (fR3 D) v0 v1 v2 Z I L Q
    unfold fs_X3_readProduct
    refine ih.2.2.2.1 D k a p c v2 I L _ e s h0 h1 hc ek hk (by omega) (fun I1 s1 => ?_)
    refine ⟨41 + 1, ?_⟩
    rcases hp with ⟨b1, t', e', hr⟩ | ⟨b, hr⟩
    · have z4 : (p.2.2.length : Int) + a ≤ p.1 + 0 := (p4 b1).2
      rw [b1] at s1
      refine ih.2.2.2.2.2.2.2.2 D k (41 + 1) p.1 t' (c ++ p.2.2) v2 0 I1 L Q e' s1 (by omega) p2 (by rw [List.length_append]; omega) ek hk (by omega) (by decide) (by show (0 : Int) ≤ p.1; omega) (by omega) (fun I' s' => hQ I' ?_)
      rw [hr]
      rw [List.append_assoc] at s'
      exact s'
    · refine l_prodF t s1 (by omega) b (hQ I1 ?_)
      rw [hr]
      exact s1
theorem LC_sig {Z : jZ} {I0 : jI} {v0 v1 uB uD : Nat} {lim : Int} {d : Nat} (t : TLw Z I0 v0 v1 uB uD lim) (ih : LC3 Z I0 v0 v1 uB uD lim d 3 0) : LC1 Z I0 v0 v1 uB uD lim d 3 3 := by
  intro D k a r c v2 I L Q hp s h0 h1 hc ek hk hD hQ
  have hl := t.2.2.2.2.2.1
  cases D with
  | zero => omega
  | succ D =>
    show fs_X3_readSigned (fR3 D) v0 v1 v2 Z I L Q
    unfold fs_X3_readSigned
    exact ⟨42, ih D k 42 a r c v2 0 I L Q hp s h0 h1 (by show (c.length : Int) + 0 ≤ a; omega) ek hk (by omega) (by decide) (by show (0 : Int) ≤ a; omega) (by omega) hQ⟩
set_option maxHeartbeats 4000000 in
theorem LC_l3 {Z : jZ} {I0 : jI} {v0 v1 uB uD : Nat} {lim : Int} {d : Nat} (t : TLw Z I0 v0 v1 uB uD lim) (ih : LCa Z I0 v0 v1 uB uD lim d) : LC3 Z I0 v0 v1 uB uD lim (d + 1) 3 0 := by
  intro D k m a r c v2 v4 I L Q hp s h0 h1 hc ek hk hD g0 g1 hm hQ
  have hl := t.2.2.2.2.2.1
  have hc : (c.length : Int) + 0 ≤ a := hc
  cases m with
  | zero => omega
  | succ m =>
    have stop : ¬ GS (I0 uB) lim a = 45 → fs_X3_readSigned_b50 (fR3 D) Z Q v0 v1 v2 0 I L := by
      intro ng
      unfold fs_X3_readSigned_b50
      rcases PL_i3 hp with ⟨b, -⟩ | ⟨-, e⟩
      · exact absurd b ng
      · exact ih.2.2.2.2.1 D k a r c v2 I L _ e s h0 h1 (by omega) ek hk (by omega) (fun I1 s1 => ⟨fun _ => hQ I1 s1, fun q => absurd rfl q⟩)
    unfold fs_X3_readSigned_L5
    refine ⟨fun q => stop (fun q2 => ?_), fun q => ?_⟩
    · have q := (i_le (show (40 : Int32).toInt = 40 from rfl) (y := v4) rfl).mp q
      have := GSlt (f := I0 uB) (lim := lim) (x := a) (by omega)
      omega
    refine l_ahead (k2 := 45) (k3 := 45) t s h0 rfl rfl (by omega) (fun q1 q2 => ⟨fun q => absurd q (by decide), fun _ => ⟨fun q => absurd rfl q, fun _ => ?_⟩⟩) (fun g => ⟨fun _ => stop (by omega), fun q => absurd rfl q⟩)
    have l1 := GSlt (f := I0 uB) (lim := lim) (x := a) (by omega)
    unfold fs_X3_readSigned_b33
    intro I14 e14 x15 e15
    rw [e14]
    have d15 : x15.toInt = v4.toInt + 1 := by rw [e15]; exact i_add rfl (show (1 : Int32).toInt = 1 from rfl) (by omega) (by omega)
    rcases PL_i3 hp with ⟨-, e⟩ | ⟨b, -⟩
    · exact ih.2.2.2.2.2.2.1 D k m (a + 1) r c v2 x15 _ L Q e (LSw_at t s (by omega)) (by omega) l1 (by show (c.length : Int) + 1 ≤ a + 1; omega) ek hk hD (by omega) (by omega) (by omega) hQ
    · omega
set_option maxHeartbeats 4000000 in
theorem LC_l7 {Z : jZ} {I0 : jI} {v0 v1 uB uD : Nat} {lim : Int} {d : Nat} (t : TLw Z I0 v0 v1 uB uD lim) (ih : LCa Z I0 v0 v1 uB uD lim d) : LC3 Z I0 v0 v1 uB uD lim (d + 1) 7 1 := by
  intro D k m a r c v2 v4 I L Q hp s h0 h1 hc ek hk hD g0 g1 hm hQ
  have hl := t.2.2.2.2.2.1
  have hc : (c.length : Int) + 1 ≤ a := hc
  cases m with
  | zero => omega
  | succ m =>
    have stop : ¬ GS (I0 uB) lim a = 45 → fs_X3_readSigned_b50 (fR3 D) Z Q v0 v1 v2 1 I L := by
      intro ng
      unfold fs_X3_readSigned_b50
      rcases PL_i7 hp with ⟨b, -⟩ | ⟨-, p, e, hr⟩
      · exact absurd b ng
      obtain ⟨p1, p2, p3, p4⟩ := PL_ok GSx d 6 k a p (by omega) h0 h1 e
      refine ih.2.2.2.2.1 D k a p c v2 I L _ e s h0 h1 (by omega) ek hk (by omega) (fun I1 s1 => ⟨fun q => absurd q (by decide), fun _ => ?_⟩)
      by_cases b : p.2.1 = -1
      · rw [b] at s1
        have z4 : (p.2.2.length : Int) + a ≤ p.1 + 0 := (p4 b).2
        refine l_emit (v := 2000) t s1 (by rw [List.length_append]; omega) rfl (fun I' s' => hQ I' ?_)
        rw [hr]
        show LSw Z I0 v0 uD lim I' p.1 p.2.1 (c ++ (p.2.2 ++ [2000]))
        rw [b]
        rw [List.append_assoc] at s'
        exact s'
      · refine l_emitD s1 b (hQ I1 ?_)
        rw [hr]
        exact LSw_any s1 b
    unfold fs_X3_readSigned_L5
    refine ⟨fun q => stop (fun q2 => ?_), fun q => ?_⟩
    · have q := (i_le (show (40 : Int32).toInt = 40 from rfl) (y := v4) rfl).mp q
      have := GSlt (f := I0 uB) (lim := lim) (x := a) (by omega)
      omega
    refine l_ahead (k2 := 45) (k3 := 45) t s h0 rfl rfl (by omega) (fun q1 q2 => ⟨fun q => absurd q (by decide), fun _ => ⟨fun _ => ?_, fun q => absurd q (by decide)⟩⟩) (fun g => ⟨fun _ => stop (by omega), fun q => absurd rfl q⟩)
    have l1 := GSlt (f := I0 uB) (lim := lim) (x := a) (by omega)
    unfold fs_X3_readSigned_b33
    intro I14 e14 x15 e15
    rw [e14]
    have d15 : x15.toInt = v4.toInt + 1 := by rw [e15]; exact i_add rfl (show (1 : Int32).toInt = 1 from rfl) (by omega) (by omega)
    rcases PL_i7 hp with ⟨-, e⟩ | ⟨b, -⟩
    · exact ih.2.2.2.2.2.1 D k m (a + 1) r c v2 x15 _ L Q e (LSw_at t s (by omega)) (by omega) l1 (by show (c.length : Int) + 0 ≤ a + 1; omega) ek hk hD (by omega) (by omega) (by omega) hQ
    · omega
set_option maxHeartbeats 4000000 in
theorem LC_l4 {Z : jZ} {I0 : jI} {v0 v1 uB uD : Nat} {lim : Int} {d : Nat} (t : TLw Z I0 v0 v1 uB uD lim) (ih : LCa Z I0 v0 v1 uB uD lim d) : LC4 Z I0 v0 v1 uB uD lim (d + 1) := by
  intro D k m a r c v2 v3 I L Q hp s h0 h1 hc ek hk hD g0 g1 hm hQ
  have hl := t.2.2.2.2.2.1
  cases m with
  | zero => omega
  | succ m =>
    have stop : ¬ (GS (I0 uB) lim a = 43 ∨ GS (I0 uB) lim a = 45) → Q I L := by
      intro ng
      rcases PL_i4 hp with ⟨b, -⟩ | ⟨-, hr⟩
      · exact absurd b ng
      · refine hQ I ?_
        rw [hr]
        show LSw Z I0 v0 uD lim I a (-1) (c ++ [])
        rw [List.append_nil]
        exact s
    unfold fs_X3_readSum_L8
    refine ⟨fun q => stop (fun q2 => ?_), fun q => ?_⟩
    · have q := (i_le (show (40 : Int32).toInt = 40 from rfl) (y := v3) rfl).mp q
      have := GSlt (f := I0 uB) (lim := lim) (x := a) (by omega)
      omega
    refine l_ahead (k2 := 43) (k3 := 45) t s h0 rfl rfl (by omega) (fun q1 q2 => ⟨fun q => absurd q (by decide), fun _ => ?_⟩) (fun g => ⟨fun _ => stop (by omega), fun q => absurd rfl q⟩)
    have l1 := GSlt (f := I0 uB) (lim := lim) (x := a) (by omega)
    refine l_look t s h0 (fun x hx x0 x1 => ?_)
    unfold CLk at hx
    intro I17 e17
    rw [e17]
    rcases PL_i4 hp with ⟨-, p, e, hp⟩ | ⟨b, -⟩
    · obtain ⟨p1, p2, p3, p4⟩ := PL_ok GSx d 2 k (a + 1) p (by omega) (by omega) l1 e
      refine ih.2.2.1 D k (a + 1) p c v2 _ L _ e (LSw_at t s (by omega)) (by omega) l1 (by omega) ek hk (by omega) (fun I1 s1 => ?_)
      rcases hp with ⟨b, t', e', hr⟩ | ⟨b, hr⟩
      · rw [b] at s1
        have z4 : (p.2.2.length : Int) + (a + 1) ≤ p.1 + 0 := (p4 b).2
        refine l_emit t s1 (by rw [List.length_append]; omega) (l_op (y := 0) rfl (by omega)) (fun I' s' => ?_)
        intro x30 e30
        have d30 : x30.toInt = v3.toInt + 1 := by rw [e30]; exact i_add rfl (show (1 : Int32).toInt = 1 from rfl) (by omega) (by omega)
        rw [show x.toInt = GS (I0 uB) lim a by omega] at s'
        refine ih.2.2.2.2.2.2.2.1 D k m p.1 t' _ v2 x30 I' L Q e' s' (by omega) p2 (by rw [List.length_append, List.length_append]; show ((c.length + p.2.2.length + 1 : Nat) : Int) ≤ p.1; omega) ek hk hD (by omega) (by omega) (by omega) (fun I2 s2 => hQ I2 ?_)
        rw [hr]
        rw [ap0] at s2
        exact s2
      · refine l_emitD s1 b ?_
        intro x30 e30
        cases m with
        | zero => omega
        | succ m =>
          refine l_sumF t s1 (by omega) b (hQ I1 ?_)
          rw [hr]
          exact s1
    · omega
set_option maxHeartbeats 4000000 in
theorem LC_l5 {Z : jZ} {I0 : jI} {v0 v1 uB uD : Nat} {lim : Int} {d : Nat} (t : TLw Z I0 v0 v1 uB uD lim) (ih : LCa Z I0 v0 v1 uB uD lim d) : LC5 Z I0 v0 v1 uB uD lim (d + 1) := by
  intro D k m a r c v2 v3 I L Q hp s h0 h1 hc ek hk hD g0 g1 hm hQ
  have hl := t.2.2.2.2.2.1
  cases m with
  | zero => omega
  | succ m =>
    have stop : ¬ (GS (I0 uB) lim a = 42 ∨ GS (I0 uB) lim a = 47) → Q I L := by
      intro ng
      rcases PL_i5 hp with ⟨b, -⟩ | ⟨-, hr⟩
      · exact absurd b ng
      · refine hQ I ?_
        rw [hr]
        show LSw Z I0 v0 uD lim I a (-1) (c ++ [])
        rw [List.append_nil]
        exact s
    unfold fs_X3_readProduct_L8
    refine ⟨fun q => stop (fun q2 => ?_), fun q => ?_⟩
    · have q := (i_le (show (40 : Int32).toInt = 40 from rfl) (y := v3) rfl).mp q
      have := GSlt (f := I0 uB) (lim := lim) (x := a) (by omega)
      omega
    refine l_ahead (k2 := 42) (k3 := 47) t s h0 rfl rfl (by omega) (fun q1 q2 => ⟨fun q => absurd q (by decide), fun _ => ?_⟩) (fun g => ⟨fun _ => stop (by omega), fun q => absurd rfl q⟩)
    have l1 := GSlt (f := I0 uB) (lim := lim) (x := a) (by omega)
    refine l_look t s h0 (fun x hx x0 x1 => ?_)
    unfold CLk at hx
    intro I17 e17
    rw [e17]
    rcases PL_i5 hp with ⟨-, p, e, hp⟩ | ⟨b, -⟩
    · obtain ⟨p1, p2, p3, p4⟩ := PL_ok GSx d 3 k (a + 1) p (by omega) (by omega) l1 e
      refine ih.2.2.2.1 D k (a + 1) p c v2 _ L _ e (LSw_at t s (by omega)) (by omega) l1 (by omega) ek hk (by omega) (fun I1 s1 => ?_)
      rcases hp with ⟨b, t', e', hr⟩ | ⟨b, hr⟩
      · rw [b] at s1
        have z4 : (p.2.2.length : Int) + (a + 1) ≤ p.1 + 0 := (p4 b).2
        refine l_emit t s1 (by rw [List.length_append]; omega) (l_op (y := 0) rfl (by omega)) (fun I' s' => ?_)
        intro x30 e30
        have d30 : x30.toInt = v3.toInt + 1 := by rw [e30]; exact i_add rfl (show (1 : Int32).toInt = 1 from rfl) (by omega) (by omega)
        rw [show x.toInt = GS (I0 uB) lim a by omega] at s'
        refine ih.2.2.2.2.2.2.2.2 D k m p.1 t' _ v2 x30 I' L Q e' s' (by omega) p2 (by rw [List.length_append, List.length_append]; show ((c.length + p.2.2.length + 1 : Nat) : Int) ≤ p.1; omega) ek hk hD (by omega) (by omega) (by omega) (fun I2 s2 => hQ I2 ?_)
        rw [hr]
        rw [ap0] at s2
        exact s2
      · refine l_emitD s1 b ?_
        intro x30 e30
        cases m with
        | zero => omega
        | succ m =>
          refine l_prodF t s1 (by omega) b (hQ I1 ?_)
          rw [hr]
          exact s1
    · omega
set_option maxHeartbeats 4000000 in
theorem LC_th {Z : jZ} {I0 : jI} {v0 v1 uB uD : Nat} {lim : Int} {d : Nat} (t : TLw Z I0 v0 v1 uB uD lim) (ih : LCa Z I0 v0 v1 uB uD lim d) : LC1 Z I0 v0 v1 uB uD lim (d + 1) 6 4 := by
  intro D k a r c v2 I L Q hp s h0 h1 hc ek hk hD hQ
  have hl := t.2.2.2.2.2.1
  have hp := PL_i6 hp
  cases D with
  | zero => omega
  | succ D =>
    show fs_X3_readThing (fR3 D) v0 v1 v2 Z I L Q
    unfold fs_X3_readThing
    refine l_look t s h0 (fun x hx x0 x1 => ?_)
    unfold CLk at hx
    have key : ∀ s0 : Int32, (-1 ≤ s0.toInt ∧ s0.toInt ≤ 6) → (0 ≤ x.toInt → s0.toInt = lix x.toInt) → (x.toInt < 0 → s0.toInt = -1) → fs_X3_readThing_b22 (fR3 D) Z Q v0 v1 v2 x s0 I L := by
      intro s0 r0 r1 r2
      have hsx : (0 ≤ lix (GS (I0 uB) lim a) → s0.toInt = lix (GS (I0 uB) lim a) ∧ x.toInt = GS (I0 uB) lim a) ∧ (¬ 0 ≤ lix (GS (I0 uB) lim a) → s0.toInt < 0) := by
        constructor
        · intro q
          have := lix_0 q
          have ex : x.toInt = GS (I0 uB) lim a := hx.1 (by omega)
          rw [ex] at r1
          exact ⟨r1 (by omega), ex⟩
        · intro q
          by_cases q2 : 0 ≤ GS (I0 uB) lim a
          · have ex : x.toInt = GS (I0 uB) lim a := hx.1 q2
            rw [ex] at r1
            have := r1 q2
            omega
          · rcases hx.2 (by omega) with q3 | q3
            · have := r2 (by omega)
              omega
            · have := r1 (by omega)
              rw [lix_off (a := x.toInt) (by omega)] at this
              omega
      unfold fs_X3_readThing_b22
      refine ⟨fun _ => ?_, fun q => absurd ((i_eq s.2.2.2.1 (show (-1 : Int32).toInt = -1 from rfl)).mpr rfl) q⟩
      unfold f_X10_isDigit
      have nodig : ¬ (48 ≤ GS (I0 uB) lim a ∧ GS (I0 uB) lim a ≤ 57) → (s0 < 0 → ((¬ x = (40 : Int32) → fs_X3_readThing_b113 (fR3 D) Z Q v0 I L) ∧ (x = (40 : Int32) → (((4 : Int32) ≤ v2 → fs_X3_readThing_b113 (fR3 D) Z Q v0 I L) ∧ (¬ ((4 : Int32) ≤ v2) → (∀ I14 : jI, I14 = jpI I v0 6 ((I v0 6) + (1 : Int32)) → (fR3 D 0 v0 v1 (v2 + (1 : Int32)) Z I14 L (fun I17 L18 => (f_X3_readClosing v0 v1 Z I17 L18 (fun I23 L24 => Q I23 L24)))))))))) ∧ (¬ (s0 < 0) → (∀ I27 : jI, I27 = jpI I v0 6 ((I v0 6) + (1 : Int32)) → (f_X3_emit v0 ((1000 : Int32) + s0) Z I27 L (fun I30 L31 => Q I30 L31)))) := by
        intro nd
        have bad : ¬ 0 ≤ lix (GS (I0 uB) lim a) → ¬ (GS (I0 uB) lim a = 40 ∧ k < 4) → fs_X3_readThing_b113 (fR3 D) Z Q v0 I L := by
          intro q q2
          unfold fs_X3_readThing_b113
          intro I1 e1
          rw [e1]
          rcases hp with ⟨b, -⟩ | ⟨-, b, -⟩ | ⟨-, -, b, -⟩ | ⟨-, -, -, hr⟩
          · exact absurd b nd
          · exact absurd b q
          · exact absurd b q2
          · have s2 := LSw_flt (c' := c ++ []) (y := I v0 6) t s (by rw [s.2.2.1]; omega)
            rw [s.2.2.1] at s2
            rw [hr] at hQ
            exact hQ _ s2
        refine ⟨fun q => ⟨fun q2 => ?_, fun q2 => ⟨fun q3 => ?_, fun q3 => ?_⟩⟩, fun q => ?_⟩
        · have q := (i_lt (x := s0) (y := 0) rfl (show (0 : Int32).toInt = 0 from rfl)).mp q
          have q2 := (not_congr (i_eq (x := x) (y := 40) rfl (show (40 : Int32).toInt = 40 from rfl))).mp q2
          exact bad (fun g => by have := (hsx.1 g).1; omega) (fun g => by have := hx.1 (by omega); omega)
        · have q := (i_lt (x := s0) (y := 0) rfl (show (0 : Int32).toInt = 0 from rfl)).mp q
          have q3 := (i_le (show (4 : Int32).toInt = 4 from rfl) ek).mp q3
          exact bad (fun g => by have := (hsx.1 g).1; omega) (fun g => by omega)
        · have q := (i_lt (x := s0) (y := 0) rfl (show (0 : Int32).toInt = 0 from rfl)).mp q
          have q2 := (i_eq (x := x) (y := 40) rfl (show (40 : Int32).toInt = 40 from rfl)).mp q2
          have q3 := (not_congr (i_le (show (4 : Int32).toInt = 4 from rfl) ek)).mp q3
          have g40 : GS (I0 uB) lim a = 40 := by omega
          have l1 := GSlt (f := I0 uB) (lim := lim) (x := a) (by omega)
          intro I14 e14
          rw [e14]
          rcases hp with ⟨b, -⟩ | ⟨-, b, -⟩ | ⟨-, -, -, p, e, hp⟩ | ⟨-, -, b, -⟩
          · exact absurd b nd
          · have := (hsx.1 b).1
            omega
          · obtain ⟨p1, p2, p3, p4⟩ := PL_ok GSx d 0 (k + 1) (a + 1) p (by omega) (by omega) l1 e
            have ek1 : (v2 + (1 : Int32)).toInt = ((k + 1 : Nat) : Int) := (i_add ek (show (1 : Int32).toInt = 1 from rfl) (by omega) (by omega)).trans (by omega)
            refine ih.1 D (k + 1) (a + 1) p c _ _ L _ e (LSw_at t s (by omega)) (by omega) l1 (by omega) ek1 (by omega) (by omega) (fun I1 s1 => ?_)
            refine l_closing (c' := c ++ []) t s1 (by omega) (fun b1 b2 I2 s2 => ?_) (fun b1 b2 I2 s2 => ?_) (fun b1 => ?_)
            · rcases hp with ⟨-, -, hr⟩ | ⟨-, b, -⟩ | ⟨b, -⟩
              · rw [hr] at hQ; exact hQ I2 s2
              · exact absurd b2 b
              · exact absurd b1 b
            · rcases hp with ⟨-, b, -⟩ | ⟨-, -, hr⟩ | ⟨b, -⟩
              · exact absurd b b2
              · rw [hr] at hQ; exact hQ I2 s2
              · exact absurd b1 b
            · rcases hp with ⟨b, -⟩ | ⟨b, -⟩ | ⟨-, hr⟩
              · exact absurd b b1
              · exact absurd b b1
              · rw [hr] at hQ; exact hQ I1 s1
          · exact absurd ⟨g40, by omega⟩ b
        · have q := (not_congr (i_lt (x := s0) (y := 0) rfl (show (0 : Int32).toInt = 0 from rfl))).mp q
          intro I27 e27
          rw [e27]
          have hlx : 0 ≤ lix (GS (I0 uB) lim a) := Classical.byContradiction (fun b => by have := hsx.2 b; omega)
          obtain ⟨y1, y2⟩ := hsx.1 hlx
          have l1 := GSlt (f := I0 uB) (lim := lim) (x := a) (by have := lix_0 hlx; omega)
          have rl := lix_rng (GS (I0 uB) lim a)
          rcases hp with ⟨b, -⟩ | ⟨-, -, hr⟩ | ⟨-, b, -⟩ | ⟨-, b, -⟩
          · exact absurd b nd
          · refine l_emit (v := 1000 + lix (GS (I0 uB) lim a)) t (LSw_at t s (by omega)) (by omega) (i_add (show (1000 : Int32).toInt = 1000 from rfl) y1 (by omega) (by omega)) (fun I' s' => ?_)
            rw [hr] at hQ
            exact hQ I' s'
          · exact absurd hlx b
          · exact absurd hlx b
      refine ⟨fun c1 => ⟨fun _ => nodig ?_, fun e => absurd rfl e⟩, fun c1 => ⟨fun c2 => ⟨fun _ => nodig ?_, fun e => absurd rfl e⟩, fun c2 => ⟨fun e => absurd e (by decide), fun _ => ?_⟩⟩⟩
      · have c1 := (i_lt (x := x) (y := 48) rfl (show (48 : Int32).toInt = 48 from rfl)).mp c1
        omega
      · have c2 := (i_lt (x := 57) (y := x) (show (57 : Int32).toInt = 57 from rfl) rfl).mp c2
        omega
      · have c1 := (not_congr (i_lt (x := x) (y := 48) rfl (show (48 : Int32).toInt = 48 from rfl))).mp c1
        have c2 := (not_congr (i_lt (x := 57) (y := x) (show (57 : Int32).toInt = 57 from rfl) rfl)).mp c2
        have hg : 48 ≤ GS (I0 uB) lim a ∧ GS (I0 uB) lim a ≤ 57 := by omega
        have l1 := GSlt (f := I0 uB) (lim := lim) (x := a) (by omega)
        rcases hp with ⟨-, hr⟩ | ⟨b, -⟩ | ⟨b, -⟩ | ⟨b, -⟩
        · refine l_number t s (by omega) (by omega) (fun I' s' => ?_)
          rw [hr] at hQ
          exact hQ I' s'
        · exact absurd hg b
        · exact absurd hg b
        · exact absurd hg b
    refine ⟨fun q => ?_, fun q => ?_⟩
    · have q := (not_congr (i_eq (x := x) (y := -1) rfl (show (-1 : Int32).toInt = -1 from rfl))).mp q
      intro r48 h48
      have e16 := u16_id (x := x) rfl (by omega) x1
      rw [e16] at h48
      exact key r48 h48.1 (fun _ => h48.2 (by omega) x1) (fun g => by omega)
    · have q := (i_eq (x := x) (y := -1) rfl (show (-1 : Int32).toInt = -1 from rfl)).mp q
      exact key (-1) ⟨by decide, by decide⟩ (fun g => by omega) (fun _ => rfl)
theorem LC_all {Z : jZ} {I0 : jI} {v0 v1 uB uD : Nat} {lim : Int} (t : TLw Z I0 v0 v1 uB uD lim) : ∀ d, LCa Z I0 v0 v1 uB uD lim d := by
  intro d
  induction d with
  | zero => exact ⟨fun _ _ _ _ _ _ _ _ _ h => (by cases h), fun _ _ _ _ _ _ _ _ _ h => (by cases h), fun _ _ _ _ _ _ _ _ _ h => (by cases h), fun _ _ _ _ _ _ _ _ _ h => (by cases h), fun _ _ _ _ _ _ _ _ _ h => (by cases h), fun _ _ _ _ _ _ _ _ _ _ _ h => (by cases h), fun _ _ _ _ _ _ _ _ _ _ _ h => (by cases h), fun _ _ _ _ _ _ _ _ _ _ _ h => (by cases h), fun _ _ _ _ _ _ _ _ _ _ _ h => (by cases h)⟩
  | succ d ih =>
    have l3 := LC_l3 t ih
    exact ⟨LC_ex t ih, LC_sum t ih, LC_prod t ih, LC_sig t l3, LC_th t ih, l3, LC_l7 t ih, LC_l4 t ih, LC_l5 t ih⟩
end
section
/-! ===== the reference reads a LAW: what it comes to under letters ===== -/
/-- two numbers and a sign -/
def joi (s : Int) (a b : Int32) : Int32 := if s = 42 then a * b else if s = 43 then a + b else if s = 45 then a - b else if s = 60 then (if a < b then 1 else 0) else if s = 61 then (if a = b then 1 else 0) else if s = 62 then (if b < a then 1 else 0) else if b = 0 then 0 else a / b
/-- one number, letter or sign is worked off -/
def ev1 (lt : Nat → Int32) (st : List Int32) (x : Int) : List Int32 := if x < 1000 then Int32.ofInt x :: st else if x < 2000 then lt (x - 1000).toNat :: st else if x = 2000 then (match st with | a :: s => (-a) :: s | s => s) else (match st with | b :: a :: s => joi (x - 2000) a b :: s | s => s)
def ev (lt : Nat → Int32) (c : List Int) (st : List Int32) : List Int32 := c.foldl (ev1 lt) st
theorem ev_app {lt : Nat → Int32} {c e : List Int} {st : List Int32} : ev lt (c ++ e) st = ev lt e (ev lt c st) := List.foldl_append
theorem ev_one {lt : Nat → Int32} {x : Int} {st : List Int32} : ev lt [x] st = ev1 lt st x := rfl
theorem ev_neg {lt : Nat → Int32} {a : Int32} {st : List Int32} : ev lt [2000] (a :: st) = (-a) :: st := by
  rw [ev_one]
  unfold ev1
  rw [if_neg (by omega), if_neg (by omega), if_pos rfl]
theorem ev_op {lt : Nat → Int32} {a b : Int32} {s : Int} {st : List Int32} (h : 0 < s) : ev lt [2000 + s] (b :: a :: st) = joi s a b :: st := by
  rw [ev_one]
  unfold ev1
  rw [if_neg (by omega), if_neg (by omega), if_neg (by omega)]
  show joi (2000 + s - 2000) a b :: st = _
  rw [show 2000 + s - 2000 = s by omega]
theorem ev_num {lt : Nat → Int32} {v : Int32} {x : Int} {st : List Int32} (h : v.toInt = x) (h1 : x < 1000) : ev lt [x] st = v :: st := by
  rw [ev_one]
  unfold ev1
  rw [if_pos h1, ← h, Int32.ofInt_toInt]
theorem ev_let {lt : Nat → Int32} {j : Int} {st : List Int32} (h : 0 ≤ j ∧ j ≤ 6) : ev lt [1000 + j] st = lt j.toNat :: st := by
  rw [ev_one]
  unfold ev1
  rw [if_neg (by omega), if_pos (by omega), show 1000 + j - 1000 = j by omega]
theorem joi_mul {a b : Int32} : joi 42 a b = a * b := rfl
theorem joi_div {a b : Int32} : joi 47 a b = if b = 0 then 0 else a / b := rfl
theorem joi_add {a b : Int32} : joi 43 a b = a + b := rfl
theorem joi_sub {a b : Int32} : joi 45 a b = a - b := rfl
theorem joi_lt {a b : Int32} : joi 60 a b = if a < b then 1 else 0 := rfl
theorem joi_eq {a b : Int32} : joi 61 a b = if a = b then 1 else 0 := rfl
theorem joi_gt {a b : Int32} : joi 62 a b = if b < a then 1 else 0 := rfl
def TMl (Z : jZ) (I0 : jI) (v0 uR : Nat) (sz : Int) : Prop := WD Z I0 ∧ jk Z v0 12 ∧ jr Z v0 23 = some uR ∧ jk Z uR 13 ∧ (0 ≤ sz ∧ sz ≤ 80 ∧ min sz 40 ≤ (jlen Z uR : Int)) ∧ (∀ I', FR Ws_R12 Z I0 Z I' → I' uR = I0 uR)
def ML (Z : jZ) (I0 : jI) (v0 : Nat) (sz : Int) (I : jI) (a F : Int) : Prop := WD Z I ∧ FR Ws_R12 Z I0 Z I ∧ (I v0 26).toInt = a ∧ (I v0 27).toInt = F ∧ (I v0 24).toInt = sz ∧ (I v0 25).toInt = 40
theorem ML_at {Z : jZ} {I0 I : jI} {v0 uR : Nat} {sz a F : Int} (t : TMl Z I0 v0 uR sz) (s : ML Z I0 v0 sz I a F) (h0 : 0 ≤ a ∧ a ≤ 100) : ML Z I0 v0 sz (jpI I v0 26 ((I v0 26) + (1 : Int32))) (a + 1) F := by
  obtain ⟨w0, k0, -⟩ := t
  refine ⟨WD_putF s.1 12 26 k0 (by decide) (by decide) trivial, s.2.1.trans w0.1 w0.2.1 (FR_putF k0 (by decide) (by decide)), ?_, ?_, ?_, ?_⟩
  · rw [jpI_at]; exact i_add s.2.2.1 (show (1 : Int32).toInt = 1 from rfl) (by omega) (by omega)
  · rw [jpI_o (by decide)]; exact s.2.2.2.1
  · rw [jpI_o (by decide)]; exact s.2.2.2.2.1
  · rw [jpI_o (by decide)]; exact s.2.2.2.2.2
theorem ML_flt {Z : jZ} {I0 I : jI} {v0 uR : Nat} {sz a F : Int} {y : Int32} (t : TMl Z I0 v0 uR sz) (s : ML Z I0 v0 sz I a F) : ML Z I0 v0 sz (jpI I v0 27 y) a y.toInt := by
  obtain ⟨w0, k0, -⟩ := t
  refine ⟨WD_putF s.1 12 27 k0 (by decide) (by decide) trivial, s.2.1.trans w0.1 w0.2.1 (FR_putF k0 (by decide) (by decide)), ?_, ?_, ?_, ?_⟩
  · rw [jpI_o (by decide)]; exact s.2.2.1
  · rw [jpI_at]
  · rw [jpI_o (by decide)]; exact s.2.2.2.2.1
  · rw [jpI_o (by decide)]; exact s.2.2.2.2.2
theorem n_here {Z : jZ} {I0 I : jI} {L : jL} {v0 uR : Nat} {sz a F : Int} {Q : Int32 → jI → jL → Prop} (t : TMl Z I0 v0 uR sz) (s : ML Z I0 v0 sz I a F) (h0 : 0 ≤ a) (h : ∀ r : Int32, r.toInt = GS (I0 uR) (min sz 40) a → Q r I L) : f_X12_here v0 Z I L Q := by
  obtain ⟨w0, k0, h23, kR, hz, hR⟩ := t
  have e := hR I s.2.1
  obtain ⟨w, f, sa, sF, s4, s5⟩ := s
  unfold f_X12_here
  refine ⟨fun c => h _ ?_, fun c => ⟨fun c1 => h _ ?_, fun c1 => ⟨uR, h23, kR, ?_, h _ ?_⟩⟩⟩
  · have := (i_le s4 sa).mp c
    rw [GS_out (by omega)]; rfl
  · have := (i_le s5 sa).mp c1
    rw [GS_out (by omega)]; rfl
  · have := (not_congr (i_le s4 sa)).mp c
    have := (not_congr (i_le s5 sa)).mp c1
    exact vi_of sa (by omega) (by omega)
  · have c := (not_congr (i_le s4 sa)).mp c
    have c1 := (not_congr (i_le s5 sa)).mp c1
    rw [e]
    have g := GS_in (f := I0 uR) (lim := min sz 40) (x := I v0 26) (by omega) (by omega)
    rw [sa] at g
    exact g
theorem n_fine {Z : jZ} {I0 I : jI} {L : jL} {v0 : Nat} {sz a F : Int} {Q : Int32 → jI → jL → Prop} (s : ML Z I0 v0 sz I a F) (h1 : F = -1 → Q 1 I L) (h2 : F ≠ -1 → Q 0 I L) : f_X12_fine v0 Z I L Q := by
  unfold f_X12_fine
  exact ⟨fun c => h2 ((not_congr (i_eq s.2.2.2.1 (show (-1 : Int32).toInt = -1 from rfl))).mp c), fun c => h1 ((i_eq s.2.2.2.1 (show (-1 : Int32).toInt = -1 from rfl)).mp c)⟩
theorem n_fault {Z : jZ} {I0 I : jI} {L : jL} {v0 uR : Nat} {sz a : Int} {y : Int32} {Q : jI → jL → Prop} (t : TMl Z I0 v0 uR sz) (s : ML Z I0 v0 sz I a (-1)) (h : ∀ I', ML Z I0 v0 sz I' a y.toInt → Q I' L) : f_X12_fault v0 y Z I L Q := by
  unfold f_X12_fault
  refine n_fine s (fun _ => ⟨fun c => absurd c (by decide), fun _ => ?_⟩) (fun c => absurd rfl c)
  intro I9 e9
  rw [e9]
  exact h _ (ML_flt t s)
theorem n_faultD {Z : jZ} {I0 I : jI} {L : jL} {v0 : Nat} {sz a F : Int} {y : Int32} {Q : jI → jL → Prop} (s : ML Z I0 v0 sz I a F) (hF : F ≠ -1) (h : Q I L) : f_X12_fault v0 y Z I L Q := by
  unfold f_X12_fault
  exact n_fine s (fun c => absurd c hF) (fun _ => ⟨fun _ => h, fun c => absurd rfl c⟩)
theorem n_pass {Z : jZ} {I0 I : jI} {L : jL} {v0 uR : Nat} {sz a : Int} {c : Int32} {k : Int} {Q : Int32 → jI → jL → Prop} (t : TMl Z I0 v0 uR sz) (s : ML Z I0 v0 sz I a (-1)) (h0 : 0 ≤ a ∧ a ≤ 100) (hk : c.toInt = k) (h1 : GS (I0 uR) (min sz 40) a = k → ∀ I', ML Z I0 v0 sz I' (a + 1) (-1) → Q 1 I' L) (h2 : GS (I0 uR) (min sz 40) a ≠ k → Q 0 I L) : f_X12_passes v0 c Z I L Q := by
  unfold f_X12_passes
  refine n_fine s (fun _ => ⟨fun c => absurd c (by decide), fun _ => ?_⟩) (fun c => absurd rfl c)
  refine n_here t s h0.1 (fun r hr => ⟨fun e => ?_, fun e => ?_⟩)
  · intro I17 e17
    rw [e17]
    have e := (i_eq rfl hk).mp e
    exact h1 (by omega) _ (ML_at t s h0)
  · have e := (not_congr (i_eq rfl hk)).mp e
    exact h2 (by omega)
theorem n_passD {Z : jZ} {I0 I : jI} {L : jL} {v0 : Nat} {sz a F : Int} {c : Int32} {Q : Int32 → jI → jL → Prop} (s : ML Z I0 v0 sz I a F) (hF : F ≠ -1) (h : Q 0 I L) : f_X12_passes v0 c Z I L Q := by
  unfold f_X12_passes
  exact n_fine s (fun c => absurd c hF) (fun _ => ⟨fun _ => h, fun c => absurd rfl c⟩)
theorem n_need {Z : jZ} {I0 I : jI} {L : jL} {v0 uR : Nat} {sz a : Int} {c : Int32} {k : Int} {Q : jI → jL → Prop} (t : TMl Z I0 v0 uR sz) (s : ML Z I0 v0 sz I a (-1)) (h0 : 0 ≤ a ∧ a ≤ 100) (hk : c.toInt = k) (h1 : GS (I0 uR) (min sz 40) a = k → ∀ I', ML Z I0 v0 sz I' (a + 1) (-1) → Q I' L) (h2 : GS (I0 uR) (min sz 40) a ≠ k → ∀ I', ML Z I0 v0 sz I' a a → Q I' L) : f_X12_need v0 c Z I L Q := by
  unfold f_X12_need
  refine n_pass t s h0 hk (fun g I' s' => ⟨fun _ => h1 g I' s', fun c => absurd c (by decide)⟩) (fun g => ⟨fun c => absurd rfl c, fun _ => ?_⟩)
  refine n_fault t s (fun I' s' => h2 g I' ?_)
  rw [s.2.2.1] at s'
  exact s'
theorem n_needD {Z : jZ} {I0 I : jI} {L : jL} {v0 : Nat} {sz a F : Int} {c : Int32} {Q : jI → jL → Prop} (s : ML Z I0 v0 sz I a F) (hF : F ≠ -1) (h : Q I L) : f_X12_need v0 c Z I L Q := by
  unfold f_X12_need
  exact n_passD s hF ⟨fun c => absurd rfl c, fun _ => n_faultD s hF h⟩
set_option maxHeartbeats 1000000 in
theorem n_num {Z : jZ} {I0 : jI} {L : jL} {v0 uR : Nat} {sz a : Int} {v4 : Int32} {Q : Int32 → jI → jL → Prop} (t : TMl Z I0 v0 uR sz) (e4 : v4.toInt = a) (h0 : 0 ≤ a ∧ a ≤ 40) (hd : 48 ≤ GS (I0 uR) (min sz 40) a ∧ GS (I0 uR) (min sz 40) a ≤ 57) (h : ∀ (v : Int32) I', v.toInt = nvd (GS (I0 uR) (min sz 40)) a (n3 (GS (I0 uR) (min sz 40)) a) → ML Z I0 v0 sz I' (a + n3 (GS (I0 uR) (min sz 40)) a) (-1) → Q v I' L) :
    ∀ (m : Nat) (v5 : Int32) (d : Nat) (I : jI), ML Z I0 v0 sz I (a + d) (-1) → N3 (GS (I0 uR) (min sz 40)) a d → v5.toInt = nvd (GS (I0 uR) (min sz 40)) a d → 4 ≤ m + d → f_X12_number_L18 Z Q m v0 3 0 999 v4 v5 I L := by
  have np := n3_pos hd
  have fin : ∀ (v5 : Int32) (d : Nat) (I : jI), ML Z I0 v0 sz I (a + d) (-1) → v5.toInt = nvd (GS (I0 uR) (min sz 40)) a d → n3 (GS (I0 uR) (min sz 40)) a = d → f_X12_number_b71 Z Q v0 0 999 v4 v5 I L := by
    intro v5 d I s e5 en
    have nv := N3_val (n3_is (g := GS (I0 uR) (min sz 40)) (a := a))
    rw [en] at nv np
    unfold f_X12_number_b71
    refine ⟨fun _ => ?_, fun c => ?_⟩
    · refine s_X12_in s.1 v5 0 999 (fun r16 p16 => ⟨fun g => ?_, fun g => ?_⟩)
      · unfold f_X12_number_b111
        exact n_fine s (fun _ => ⟨fun c => absurd c (by decide), fun _ => h v5 I (by rw [en]; exact e5) (by rw [en]; exact s)⟩) (fun c => absurd rfl c)
      · have g := (i_eq (x := r16) (y := 0) rfl (show (0 : Int32).toInt = 0 from rfl)).mp g
        rw [show (0 : Int32).toInt = 0 from rfl, show (999 : Int32).toInt = 999 from rfl] at p16
        omega
    · have c := (i_eq s.2.2.1 e4).mp c
      omega
  intro m
  induction m with
  | zero => intro v5 d I s hN e5 hm; have := hN.1; omega
  | succ m ih =>
    intro v5 d I s hN e5 hm
    have hd3 := hN.1
    have hv := N3_val hN
    have e43 : (v4 + (3 : Int32)).toInt = a + 3 := i_add e4 (show (3 : Int32).toInt = 3 from rfl) (by omega) (by omega)
    unfold f_X12_number_L18
    refine ⟨fun c => ?_, fun c => ?_⟩
    · have c := (i_le e43 s.2.2.1).mp c
      exact fin v5 d I s e5 (N3_end hN (Or.inl (by omega)))
    have c := (not_congr (i_le e43 s.2.2.1)).mp c
    refine n_here t s (by omega) (fun r hr => ?_)
    refine s_X12_in s.1 r 48 57 (fun r44 p44 => ?_)
    rw [show (48 : Int32).toInt = 48 from rfl, show (57 : Int32).toInt = 57 from rfl] at p44
    refine ⟨fun g => ?_, fun g => ?_⟩
    · have g := (i_eq (x := r44) (y := 0) rfl (show (0 : Int32).toInt = 0 from rfl)).mp g
      exact fin v5 d I s e5 (N3_end hN (Or.inr (by omega)))
    · have g := (not_congr (i_eq (x := r44) (y := 0) rfl (show (0 : Int32).toInt = 0 from rfl))).mp g
      refine n_here t s (by omega) (fun r2 hr2 => ?_)
      intro x53 e53 I54 e54
      rw [e54]
      have d53 : x53.toInt = nvd (GS (I0 uR) (min sz 40)) a (d + 1) := by
        show x53.toInt = nvd (GS (I0 uR) (min sz 40)) a d * 10 + GS (I0 uR) (min sz 40) (a + d) - 48
        rw [e53]
        exact (i_sub (i_add (i_mul (show (10 : Int32).toInt = 10 from rfl) e5 (by omega) (by omega)) hr2 (by omega) (by omega)) (show (48 : Int32).toInt = 48 from rfl) (by omega) (by omega)).trans (by omega)
      have s1 := ML_at t s (by omega)
      rw [show a + (d : Int) + 1 = a + ((d + 1 : Nat) : Int) by omega] at s1
      exact ih x53 (d + 1) _ s1 (N3_step hN (by omega) (by omega)) d53 (by omega)
theorem n_number {Z : jZ} {I0 I : jI} {L : jL} {v0 uR : Nat} {sz a : Int} {Q : Int32 → jI → jL → Prop} (t : TMl Z I0 v0 uR sz) (s : ML Z I0 v0 sz I a (-1)) (h0 : 0 ≤ a ∧ a ≤ 40) (hd : 48 ≤ GS (I0 uR) (min sz 40) a ∧ GS (I0 uR) (min sz 40) a ≤ 57) (h : ∀ (v : Int32) I', v.toInt = nvd (GS (I0 uR) (min sz 40)) a (n3 (GS (I0 uR) (min sz 40)) a) → ML Z I0 v0 sz I' (a + n3 (GS (I0 uR) (min sz 40)) a) (-1) → Q v I' L) : f_X12_number v0 3 0 999 Z I L Q := by
  unfold f_X12_number
  refine n_fine s (fun _ => ⟨fun _ => ?_, fun c => absurd c (by decide)⟩) (fun c => absurd rfl c)
  intro x63 e63
  have s0 : ML Z I0 v0 sz I (a + ((0 : Nat) : Int)) (-1) := by rw [show a + ((0 : Nat) : Int) = a by omega]; exact s
  exact ⟨4, n_num t (by rw [e63]; exact s.2.2.1) h0 hd h 4 0 0 I s0 N3_0 rfl (by omega)⟩
/-- what the letters say -/
def LTR (Z : jZ) (I0 : jI) (v0 : Nat) (sz : Int) (lt : Nat → Int32) : Prop := ∀ (F : FTR12) (c : Int32) (I : jI) (L : jL) (a : Int) (Q : Int32 → jI → jL → Prop), ML Z I0 v0 sz I a (-1) → 0 ≤ lix c.toInt → (∀ I' L', ML Z I0 v0 sz I' a (-1) → Q (lt (lix c.toInt).toNat) I' L') → ((¬ (I v0 31) = (-1 : Int32) → f_X12_letter v0 c Z I L Q) ∧ ((I v0 31) = (-1 : Int32) → Q (0 : Int32) I L))
/-- what each part of it does, by what the text says -/
def MC1 (Z : jZ) (I0 : jI) (v0 uR : Nat) (sz : Int) (lt : Nat → Int32) (d w cw : Nat) (sg : Int32 → Int32) : Prop := ∀ (D k : Nat) (a : Int) (r : Int × Int × List Int) (v1 : Int32) (I : jI) (L : jL) (Q : Int32 → jI → jL → Prop), PL (GS (I0 uR) (min sz 40)) d w k a = some r → ML Z I0 v0 sz I a (-1) → 0 ≤ a → a ≤ min sz 40 → v1.toInt = (k : Int) → k ≤ 4 → 4 * (4 - (k : Int)) + (4 - (cw : Int)) + (min sz 40 - a) ≤ (D : Int) → (∀ (v : Int32) I' L', ML Z I0 v0 sz I' r.1 r.2.1 → (r.2.1 = -1 → ∀ st, ev lt r.2.2 st = sg v :: st) → Q v I' L') → fR12 D cw v0 v1 Z I L Q
def MC6 (Z : jZ) (I0 : jI) (v0 uR : Nat) (sz : Int) (lt : Nat → Int32) (d : Nat) : Prop := ∀ (D k : Nat) (a : Int) (r : Int × Int × List Int) (v1 : Int32) (I : jI) (L : jL) (Q : Int32 → jI → jL → Prop), ¬ GS (I0 uR) (min sz 40) a = 45 → PL (GS (I0 uR) (min sz 40)) d 6 k a = some r → ML Z I0 v0 sz I a (-1) → 0 ≤ a → a ≤ min sz 40 → v1.toInt = (k : Int) → k ≤ 4 → 4 * (4 - (k : Int)) + (min sz 40 - a) ≤ (D : Int) → (∀ (v : Int32) I' L', ML Z I0 v0 sz I' r.1 r.2.1 → (r.2.1 = -1 → ∀ st, ev lt r.2.2 st = v :: st) → Q v I' L') → f_X12_thing (fR12 D) v0 v1 Z I L Q
def MC4 (Z : jZ) (I0 : jI) (v0 uR : Nat) (sz : Int) (lt : Nat → Int32) (d : Nat) : Prop := ∀ (D k m : Nat) (a : Int) (r : Int × Int × List Int) (v1 v2 : Int32) (I : jI) (L : jL) (Q : Int32 → jI → jL → Prop), PL (GS (I0 uR) (min sz 40)) d 4 k a = some r → ML Z I0 v0 sz I a (-1) → 0 ≤ a → a ≤ min sz 40 → v1.toInt = (k : Int) → k ≤ 4 → 4 * (4 - (k : Int)) + 1 + (min sz 40 - a) ≤ (D : Int) → min sz 40 - a < (m : Int) → (∀ (v : Int32) I' L', ML Z I0 v0 sz I' r.1 r.2.1 → (r.2.1 = -1 → ∀ st, ev lt r.2.2 (v2 :: st) = v :: st) → Q v I' L') → f_X12_sum_L6 (fR12 D) Z Q m v0 v1 v2 I L
def MC5 (Z : jZ) (I0 : jI) (v0 uR : Nat) (sz : Int) (lt : Nat → Int32) (d : Nat) : Prop := ∀ (D k m : Nat) (a : Int) (r : Int × Int × List Int) (v1 v2 : Int32) (I : jI) (L : jL) (Q : Int32 → jI → jL → Prop), PL (GS (I0 uR) (min sz 40)) d 5 k a = some r → ML Z I0 v0 sz I a (-1) → 0 ≤ a → a ≤ min sz 40 → v1.toInt = (k : Int) → k ≤ 4 → 4 * (4 - (k : Int)) + (min sz 40 - a) ≤ (D : Int) → min sz 40 - a < (m : Int) → (∀ (v : Int32) I' L', ML Z I0 v0 sz I' r.1 r.2.1 → (r.2.1 = -1 → ∀ st, ev lt r.2.2 (v2 :: st) = v :: st) → Q v I' L') → f_X12_product_L6 (fR12 D) Z Q m v0 v1 v2 I L
def MCa (Z : jZ) (I0 : jI) (v0 uR : Nat) (sz : Int) (lt : Nat → Int32) (d : Nat) : Prop := MC1 Z I0 v0 uR sz lt d 0 0 (fun v => v) ∧ MC1 Z I0 v0 uR sz lt d 1 1 (fun v => v) ∧ MC1 Z I0 v0 uR sz lt d 2 2 (fun v => v) ∧ MC1 Z I0 v0 uR sz lt d 3 3 (fun v => v) ∧ MC1 Z I0 v0 uR sz lt d 7 3 (fun v => -v) ∧ MC6 Z I0 v0 uR sz lt d ∧ MC4 Z I0 v0 uR sz lt d ∧ MC5 Z I0 v0 uR sz lt d
/-- the loops stop at a fault -/
theorem n_sumF {Z : jZ} {I0 I : jI} {L : jL} {D : FTR12} {v0 m : Nat} {sz a F : Int} {v1 v2 : Int32} {Q : Int32 → jI → jL → Prop} (s : ML Z I0 v0 sz I a F) (hF : F ≠ -1) (h : Q v2 I L) : f_X12_sum_L6 D Z Q (m + 1) v0 v1 v2 I L := by
  unfold f_X12_sum_L6
  exact n_fine s (fun g => absurd g hF) (fun _ => ⟨fun _ => h, fun e => absurd rfl e⟩)
theorem n_prodF {Z : jZ} {I0 I : jI} {L : jL} {D : FTR12} {v0 m : Nat} {sz a F : Int} {v1 v2 : Int32} {Q : Int32 → jI → jL → Prop} (s : ML Z I0 v0 sz I a F) (hF : F ≠ -1) (h : Q v2 I L) : f_X12_product_L6 D Z Q (m + 1) v0 v1 v2 I L := by
  unfold f_X12_product_L6
  exact n_fine s (fun g => absurd g hF) (fun _ => ⟨fun _ => h, fun e => absurd rfl e⟩)
set_option maxHeartbeats 4000000 in
theorem MC_held {Z : jZ} {I0 : jI} {v0 uR : Nat} {sz : Int} {lt : Nat → Int32} {d : Nat} (t : TMl Z I0 v0 uR sz) (ih : MCa Z I0 v0 uR sz lt d) : MC1 Z I0 v0 uR sz lt (d + 1) 0 0 (fun v => v) := by
  intro D k a r v1 I L Q hp s h0 h1 ek hk hD hQ
  obtain ⟨p, e, hp⟩ := PL_i0 hp
  obtain ⟨p1, p2, p3, p4⟩ := PL_ok GSx d 1 k a p (by omega) h0 h1 e
  cases D with
  | zero => omega
  | succ D =>
    show f_X12_held (fR12 D) v0 v1 Z I L Q
    unfold f_X12_held
    refine ih.2.1 D k a p v1 I L _ e s h0 h1 ek hk (by omega) (fun x I1 L1 s1 hx => ?_)
    by_cases b : p.2.1 = -1
    · rw [b] at s1
      have hx := hx b
      have go : ∀ (I2 : jI), ML Z I0 v0 sz I2 (p.1 + 1) (-1) → (GS (I0 uR) (min sz 40) p.1 = 60 ∨ GS (I0 uR) (min sz 40) p.1 = 62 ∨ GS (I0 uR) (min sz 40) p.1 = 61) → ∀ (Q' : Int32 → jI → jL → Prop), (∀ (y : Int32) I' L', (∀ (v : Int32), v = joi (GS (I0 uR) (min sz 40) p.1) x y → Q v I' L') → Q' y I' L') → fR12 D 1 v0 v1 Z I2 L1 Q' := by
        intro I2 s2 hg Q' hQ'
        rcases hp with ⟨-, -, t', e', hr⟩ | ⟨b2, -⟩
        · have l1 := GSlt (f := I0 uR) (lim := min sz 40) (x := p.1) (by omega)
          refine ih.2.1 D k (p.1 + 1) t' v1 I2 L1 Q' e' s2 (by omega) l1 ek hk (by omega) (fun y I3 L3 s3 hy => hQ' y I3 L3 (fun v ev0 => hQ v I3 L3 ?_ (fun q st => ?_)))
          · rw [hr]; exact s3
          · rw [hr] at q ⊢
            show ev lt (p.2.2 ++ t'.2.2 ++ [2000 + GS (I0 uR) (min sz 40) p.1]) st = v :: st
            rw [ev_app, ev_app, hx, hy q, ev_op (by omega), ev0]
        · exact absurd ⟨b, hg⟩ b2
      refine n_pass (k := 60) t s1 (by omega) rfl (fun g I2 s2 => ⟨fun q => absurd q (by decide), fun _ => ?_⟩) (fun g => ⟨fun _ => ?_, fun q => absurd rfl q⟩)
      · refine go I2 s2 (Or.inl g) _ (fun y I3 L3 hv => ?_)
        rw [g] at hv
        refine ⟨fun q => hv _ ?_, fun q => hv _ ?_⟩
        · have q := (i_le (x := y) (y := x) rfl rfl).mp q
          rw [joi_lt, if_neg (fun z => by have := (i_lt (x := x) (y := y) rfl rfl).mp z; omega)]
        · have q := (not_congr (i_le (x := y) (y := x) rfl rfl)).mp q
          rw [joi_lt, if_pos ((i_lt (x := x) (y := y) rfl rfl).mpr (by omega))]
      refine n_pass (k := 62) t s1 (by omega) rfl (fun g2 I2 s2 => ⟨fun q => absurd q (by decide), fun _ => ?_⟩) (fun g2 => ⟨fun _ => ?_, fun q => absurd rfl q⟩)
      · refine go I2 s2 (Or.inr (Or.inl g2)) _ (fun y I3 L3 hv => ?_)
        rw [g2] at hv
        refine ⟨fun q => hv _ ?_, fun q => hv _ ?_⟩
        · have q := (i_le (x := x) (y := y) rfl rfl).mp q
          rw [joi_gt, if_neg (fun z => by have := (i_lt (x := y) (y := x) rfl rfl).mp z; omega)]
        · have q := (not_congr (i_le (x := x) (y := y) rfl rfl)).mp q
          rw [joi_gt, if_pos ((i_lt (x := y) (y := x) rfl rfl).mpr (by omega))]
      refine n_pass (k := 61) t s1 (by omega) rfl (fun g3 I2 s2 => ⟨fun q => absurd q (by decide), fun _ => ?_⟩) (fun g3 => ⟨fun _ => ?_, fun q => absurd rfl q⟩)
      · refine go I2 s2 (Or.inr (Or.inr g3)) _ (fun y I3 L3 hv => ?_)
        rw [g3] at hv
        refine ⟨fun q => hv _ ?_, fun q => hv _ ?_⟩
        · rw [joi_eq, if_neg q]
        · rw [joi_eq, if_pos q]
      · rcases hp with ⟨-, b2, -⟩ | ⟨-, hr⟩
        · omega
        · rw [hr] at hQ
          exact hQ x I1 L1 (by rw [b]; exact s1) (fun _ => hx)
    · rcases hp with ⟨b2, -⟩ | ⟨-, hr⟩
      · exact absurd b2 b
      · rw [hr] at hQ
        exact n_passD s1 b ⟨fun _ => n_passD s1 b ⟨fun _ => n_passD s1 b ⟨fun _ => hQ x I1 L1 s1 (fun q => absurd q b), fun q => absurd rfl q⟩, fun q => absurd rfl q⟩, fun q => absurd rfl q⟩
set_option maxHeartbeats 4000000 in
theorem MC_sum {Z : jZ} {I0 : jI} {v0 uR : Nat} {sz : Int} {lt : Nat → Int32} {d : Nat} (t : TMl Z I0 v0 uR sz) (ih : MCa Z I0 v0 uR sz lt d) : MC1 Z I0 v0 uR sz lt (d + 1) 1 1 (fun v => v) := by
  intro D k a r v1 I L Q hp s h0 h1 ek hk hD hQ
  obtain ⟨p, e, hp⟩ := PL_i1 hp
  obtain ⟨p1, p2, p3, p4⟩ := PL_ok GSx d 2 k a p (by omega) h0 h1 e
  cases D with
  | zero => omega
  | succ D =>
    show f_X12_sum (fR12 D) v0 v1 Z I L Q
    unfold f_X12_sum
    refine ih.2.2.1 D k a p v1 I L _ e s h0 h1 ek hk (by omega) (fun x I1 L1 s1 hx => ⟨41 + 1, ?_⟩)
    rcases hp with ⟨b, t', e', hr⟩ | ⟨b, hr⟩
    · rw [b] at s1
      have hx := hx b
      refine ih.2.2.2.2.2.2.1 D k (41 + 1) p.1 t' v1 x I1 L1 Q e' s1 (by omega) p2 ek hk (by omega) (by omega) (fun v I' L' s' hv => hQ v I' L' ?_ (fun q st => ?_))
      · rw [hr]; exact s'
      · rw [hr] at q ⊢
        show ev lt (p.2.2 ++ t'.2.2) st = v :: st
        rw [ev_app, hx, hv q]
    · rw [hr] at hQ
      exact n_sumF s1 b (hQ x I1 L1 s1 (fun q => absurd q b))
set_option maxHeartbeats 4000000 in
theorem MC_prod {Z : jZ} {I0 : jI} {v0 uR : Nat} {sz : Int} {lt : Nat → Int32} {d : Nat} (t : TMl Z I0 v0 uR sz) (ih : MCa Z I0 v0 uR sz lt d) : MC1 Z I0 v0 uR sz lt (d + 1) 2 2 (fun v => v) := by
  intro D k a r v1 I L Q hp s h0 h1 ek hk hD hQ
  obtain ⟨p, e, hp⟩ := PL_i2 hp
  obtain ⟨p1, p2, p3, p4⟩ := PL_ok GSx d 3 k a p (by omega) h0 h1 e
  cases D with
  | zero => omega
  | succ D =>
    show f_X12_product (fR12 D) v0 v1 Z I L Q
    unfold f_X12_product
    refine ih.2.2.2.1 D k a p v1 I L _ e s h0 h1 ek hk (by omega) (fun x I1 L1 s1 hx => ⟨41 + 1, ?_⟩)
    rcases hp with ⟨b, t', e', hr⟩ | ⟨b, hr⟩
    · rw [b] at s1
      have hx := hx b
      refine ih.2.2.2.2.2.2.2 D k (41 + 1) p.1 t' v1 x I1 L1 Q e' s1 (by omega) p2 ek hk (by omega) (by omega) (fun v I' L' s' hv => hQ v I' L' ?_ (fun q st => ?_))
      · rw [hr]; exact s'
      · rw [hr] at q ⊢
        show ev lt (p.2.2 ++ t'.2.2) st = v :: st
        rw [ev_app, hx, hv q]
    · rw [hr] at hQ
      exact n_prodF s1 b (hQ x I1 L1 s1 (fun q => absurd q b))
set_option maxHeartbeats 4000000 in
theorem MC_l4 {Z : jZ} {I0 : jI} {v0 uR : Nat} {sz : Int} {lt : Nat → Int32} {d : Nat} (t : TMl Z I0 v0 uR sz) (ih : MCa Z I0 v0 uR sz lt d) : MC4 Z I0 v0 uR sz lt (d + 1) := by
  intro D k m a r v1 v2 I L Q hp s h0 h1 ek hk hD hm hQ
  cases m with
  | zero => omega
  | succ m =>
    unfold f_X12_sum_L6
    refine n_fine s (fun _ => ⟨fun q => absurd q (by decide), fun _ => ?_⟩) (fun q => absurd rfl q)
    have go : ∀ (o : Int) (b1 : Int32) (I2 : jI), GS (I0 uR) (min sz 40) a = o → (o = 43 ∧ b1 = 1 ∨ o = 45 ∧ b1 = 0) → ML Z I0 v0 sz I2 a (-1) → f_X12_sum_b45 (fR12 D) (f_X12_sum_L6 (fR12 D) Z Q m) Z Q v0 v1 v2 b1 I2 L := by
      intro o b1 I2 ho hb s2
      rcases PL_i4 hp with ⟨-, p, e, hp⟩ | ⟨b, -⟩
      · have l1 := GSlt (f := I0 uR) (lim := min sz 40) (x := a) (by omega)
        obtain ⟨p1, p2, p3, p4⟩ := PL_ok GSx d 2 k (a + 1) p (by omega) (by omega) l1 e
        unfold f_X12_sum_b45
        intro I3 e3
        rw [e3]
        refine ih.2.2.1 D k (a + 1) p v1 _ L _ e (ML_at t s2 (by omega)) (by omega) l1 ek hk (by omega) (fun x I4 L4 s4 hx => ?_)
        have fin : ∀ v : Int32, v = joi o v2 x → f_X12_sum_b78 (fR12 D) (f_X12_sum_L6 (fR12 D) Z Q m) Z Q v0 v1 v I4 L4 := by
          intro v hv
          unfold f_X12_sum_b78
          rcases hp with ⟨b, t', e', hr⟩ | ⟨b, hr⟩
          · rw [b] at s4
            have hx := hx b
            refine ih.2.2.2.2.2.2.1 D k m p.1 t' v1 v I4 L4 Q e' s4 (by omega) p2 ek hk (by have := (p4 b).1 (by omega) (by omega); omega) (by have := (p4 b).1 (by omega) (by omega); omega) (fun y I' L' s' hy => hQ y I' L' ?_ (fun q st => ?_))
            · rw [hr]; exact s'
            · rw [hr] at q ⊢
              show ev lt (p.2.2 ++ [2000 + GS (I0 uR) (min sz 40) a] ++ t'.2.2) (v2 :: st) = y :: st
              rw [ev_app, ev_app, hx, ho, ev_op (by omega), ← hv, hy q]
          · cases m with
            | zero => omega
            | succ m =>
              rw [hr] at hQ
              exact n_sumF s4 b (hQ v I4 L4 s4 (fun q => absurd q b))
        rcases hb with ⟨rfl, rfl⟩ | ⟨rfl, rfl⟩
        · exact ⟨fun q => absurd q (by decide), fun _ => fin _ joi_add.symm⟩
        · exact ⟨fun _ => fin _ joi_sub.symm, fun q => absurd rfl q⟩
      · omega
    refine n_here t s h0 (fun x hx => ⟨fun q => ?_, fun q => ?_⟩)
    · have q := (i_eq hx (show (43 : Int32).toInt = 43 from rfl)).mp q
      unfold f_X12_sum_b31
      refine n_here t s h0 (fun y hy => ⟨fun q2 => ?_, fun _ => go 43 1 I q (Or.inl ⟨rfl, rfl⟩) s⟩)
      exact absurd ((i_eq hy (show (43 : Int32).toInt = 43 from rfl)).mpr q) q2
    · have q := (not_congr (i_eq hx (show (43 : Int32).toInt = 43 from rfl))).mp q
      refine n_here t s h0 (fun y hy => ⟨fun q2 => ?_, fun q2 => ?_⟩)
      · have q2 := (not_congr (i_eq hy (show (45 : Int32).toInt = 45 from rfl))).mp q2
        rcases PL_i4 hp with ⟨b, -⟩ | ⟨-, hr⟩
        · omega
        · rw [hr] at hQ
          exact hQ v2 I L s (fun _ st => rfl)
      · have q2 := (i_eq hy (show (45 : Int32).toInt = 45 from rfl)).mp q2
        unfold f_X12_sum_b31
        refine n_here t s h0 (fun z hz => ⟨fun _ => go 45 0 I q2 (Or.inr ⟨rfl, rfl⟩) s, fun q3 => ?_⟩)
        exact absurd ((i_eq hz (show (43 : Int32).toInt = 43 from rfl)).mp q3) q
set_option maxHeartbeats 4000000 in
theorem MC_l5 {Z : jZ} {I0 : jI} {v0 uR : Nat} {sz : Int} {lt : Nat → Int32} {d : Nat} (t : TMl Z I0 v0 uR sz) (ih : MCa Z I0 v0 uR sz lt d) : MC5 Z I0 v0 uR sz lt (d + 1) := by
  intro D k m a r v1 v2 I L Q hp s h0 h1 ek hk hD hm hQ
  cases m with
  | zero => omega
  | succ m =>
    unfold f_X12_product_L6
    refine n_fine s (fun _ => ⟨fun q => absurd q (by decide), fun _ => ?_⟩) (fun q => absurd rfl q)
    have go : ∀ (o : Int) (b1 : Int32) (I2 : jI), GS (I0 uR) (min sz 40) a = o → (o = 42 ∧ b1 = 1 ∨ o = 47 ∧ b1 = 0) → ML Z I0 v0 sz I2 a (-1) → f_X12_product_b45 (fR12 D) (f_X12_product_L6 (fR12 D) Z Q m) Z Q v0 v1 v2 b1 I2 L := by
      intro o b1 I2 ho hb s2
      rcases PL_i5 hp with ⟨-, p, e, hp⟩ | ⟨b, -⟩
      · have l1 := GSlt (f := I0 uR) (lim := min sz 40) (x := a) (by omega)
        obtain ⟨p1, p2, p3, p4⟩ := PL_ok GSx d 3 k (a + 1) p (by omega) (by omega) l1 e
        unfold f_X12_product_b45
        intro I3 e3
        rw [e3]
        refine ih.2.2.2.1 D k (a + 1) p v1 _ L _ e (ML_at t s2 (by omega)) (by omega) l1 ek hk (by omega) (fun x I4 L4 s4 hx => ?_)
        have fin : ∀ v : Int32, v = joi o v2 x → f_X12_product_b87 (fR12 D) (f_X12_product_L6 (fR12 D) Z Q m) Z Q v0 v1 v I4 L4 := by
          intro v hv
          unfold f_X12_product_b87
          rcases hp with ⟨b, t', e', hr⟩ | ⟨b, hr⟩
          · rw [b] at s4
            have hx := hx b
            refine ih.2.2.2.2.2.2.2 D k m p.1 t' v1 v I4 L4 Q e' s4 (by omega) p2 ek hk (by have := (p4 b).1 (by omega) (by omega); omega) (by have := (p4 b).1 (by omega) (by omega); omega) (fun y I' L' s' hy => hQ y I' L' ?_ (fun q st => ?_))
            · rw [hr]; exact s'
            · rw [hr] at q ⊢
              show ev lt (p.2.2 ++ [2000 + GS (I0 uR) (min sz 40) a] ++ t'.2.2) (v2 :: st) = y :: st
              rw [ev_app, ev_app, hx, ho, ev_op (by omega), ← hv, hy q]
          · cases m with
            | zero => omega
            | succ m =>
              rw [hr] at hQ
              exact n_prodF s4 b (hQ v I4 L4 s4 (fun q => absurd q b))
        rcases hb with ⟨rfl, rfl⟩ | ⟨rfl, rfl⟩
        · exact ⟨fun q => absurd q (by decide), fun _ => fin _ joi_mul.symm⟩
        · refine ⟨fun _ => ⟨fun q => ⟨q, fin _ ?_⟩, fun q => fin _ ?_⟩, fun q => absurd rfl q⟩
          · rw [joi_div, if_neg q]
          · rw [joi_div, if_pos q]
      · omega
    refine n_here t s h0 (fun x hx => ⟨fun q => ?_, fun q => ?_⟩)
    · have q := (i_eq hx (show (42 : Int32).toInt = 42 from rfl)).mp q
      unfold f_X12_product_b31
      refine n_here t s h0 (fun y hy => ⟨fun q2 => ?_, fun _ => go 42 1 I q (Or.inl ⟨rfl, rfl⟩) s⟩)
      exact absurd ((i_eq hy (show (42 : Int32).toInt = 42 from rfl)).mpr q) q2
    · have q := (not_congr (i_eq hx (show (42 : Int32).toInt = 42 from rfl))).mp q
      refine n_here t s h0 (fun y hy => ⟨fun q2 => ?_, fun q2 => ?_⟩)
      · have q2 := (not_congr (i_eq hy (show (47 : Int32).toInt = 47 from rfl))).mp q2
        rcases PL_i5 hp with ⟨b, -⟩ | ⟨-, hr⟩
        · omega
        · rw [hr] at hQ
          exact hQ v2 I L s (fun _ st => rfl)
      · have q2 := (i_eq hy (show (47 : Int32).toInt = 47 from rfl)).mp q2
        unfold f_X12_product_b31
        refine n_here t s h0 (fun z hz => ⟨fun _ => go 47 0 I q2 (Or.inr ⟨rfl, rfl⟩) s, fun q3 => ?_⟩)
        exact absurd ((i_eq hz (show (42 : Int32).toInt = 42 from rfl)).mp q3) q
theorem ng_ng {v : Int32} : -(-v) = v := Int32.neg_neg
set_option maxHeartbeats 4000000 in
theorem MC_t3 {Z : jZ} {I0 : jI} {v0 uR : Nat} {sz : Int} {lt : Nat → Int32} {d : Nat} (t : TMl Z I0 v0 uR sz) (ih : MCa Z I0 v0 uR sz lt d) : MC1 Z I0 v0 uR sz lt (d + 1) 3 3 (fun v => v) := by
  intro D k a r v1 I L Q hp s h0 h1 ek hk hD hQ
  cases D with
  | zero => omega
  | succ D =>
    show f_X12_thing (fR12 D) v0 v1 Z I L Q
    rcases PL_i3 hp with ⟨b, e⟩ | ⟨b, e⟩
    · have l1 := GSlt (f := I0 uR) (lim := min sz 40) (x := a) (by omega)
      unfold f_X12_thing
      refine n_pass (k := 45) t s (by omega) rfl (fun _ I2 s2 => ⟨fun q => absurd q (by decide), fun _ => ?_⟩) (fun g => absurd b g)
      exact ih.2.2.2.2.1 D k (a + 1) r v1 I2 L _ e s2 (by omega) l1 ek hk (by omega) (fun v I' L' s' hv => hQ (-v) I' L' s' (fun q st => hv q st))
    · exact ih.2.2.2.2.2.1 D k a r v1 I L Q b e s h0 h1 ek hk (by omega) (fun v I' L' s' hv => hQ v I' L' s' hv)
set_option maxHeartbeats 4000000 in
theorem MC_t7 {Z : jZ} {I0 : jI} {v0 uR : Nat} {sz : Int} {lt : Nat → Int32} {d : Nat} (t : TMl Z I0 v0 uR sz) (ih : MCa Z I0 v0 uR sz lt d) : MC1 Z I0 v0 uR sz lt (d + 1) 7 3 (fun v => -v) := by
  intro D k a r v1 I L Q hp s h0 h1 ek hk hD hQ
  cases D with
  | zero => omega
  | succ D =>
    show f_X12_thing (fR12 D) v0 v1 Z I L Q
    rcases PL_i7 hp with ⟨b, e⟩ | ⟨b, p, e, hr⟩
    · have l1 := GSlt (f := I0 uR) (lim := min sz 40) (x := a) (by omega)
      unfold f_X12_thing
      refine n_pass (k := 45) t s (by omega) rfl (fun _ I2 s2 => ⟨fun q => absurd q (by decide), fun _ => ?_⟩) (fun g => absurd b g)
      exact ih.2.2.2.1 D k (a + 1) r v1 I2 L _ e s2 (by omega) l1 ek hk (by omega) (fun v I' L' s' hv => hQ (-v) I' L' s' (fun q st => by
        show ev lt r.2.2 st = (-(-v)) :: st
        rw [ng_ng]
        exact hv q st))
    · rw [hr] at hQ
      exact ih.2.2.2.2.2.1 D k a p v1 I L Q b e s h0 h1 ek hk (by omega) (fun v I' L' s' hv => hQ v I' L' s' (fun q st => by
        show ev lt (p.2.2 ++ [2000]) st = (-v) :: st
        rw [ev_app, hv q, ev_neg]))
set_option maxHeartbeats 4000000 in
theorem MC_t6 {Z : jZ} {I0 : jI} {v0 uR : Nat} {sz : Int} {lt : Nat → Int32} {d : Nat} (t : TMl Z I0 v0 uR sz) (hl : LTR Z I0 v0 sz lt) (ih : MCa Z I0 v0 uR sz lt d) : MC6 Z I0 v0 uR sz lt (d + 1) := by
  intro D k a r v1 I L Q ng hp s h0 h1 ek hk hD hQ
  have hp := PL_i6 hp
  unfold f_X12_thing
  refine n_pass (k := 45) t s (by omega) rfl (fun g => absurd g ng) (fun _ => ⟨fun _ => ?_, fun q => absurd rfl q⟩)
  refine n_fine s (fun _ => ⟨fun _ => ?_, fun q => absurd q (by decide)⟩) (fun q => absurd rfl q)
  refine n_here t s h0 (fun x hx => ?_)
  have oth : ¬ (GS (I0 uR) (min sz 40) a = 40 ∧ k < 4) → f_X12_thing_b67 (fR12 D) Z Q v0 x I L := by
    intro n4
    unfold f_X12_thing_b67
    refine s_X12_in s.1 x 48 57 (fun r16 p16 => ?_)
    rw [show (48 : Int32).toInt = 48 from rfl, show (57 : Int32).toInt = 57 from rfl] at p16
    refine ⟨fun g => ?_, fun g => ?_⟩
    · have g := (i_eq (x := r16) (y := 0) rfl (show (0 : Int32).toInt = 0 from rfl)).mp g
      have letr : 0 ≤ lix x.toInt → f_X12_thing_b140 (fR12 D) Z Q v0 x I L := by
        intro hlx
        have lr := lix_0 hlx
        rcases hp with ⟨b, -⟩ | ⟨-, -, hr⟩ | ⟨-, b, -⟩ | ⟨-, b, -⟩
        · omega
        · unfold f_X12_thing_b140
          intro I1 e1
          rw [e1]
          have s1 := ML_at t s (by omega)
          have e16 := u16_id (x := x) rfl (by omega) (by omega)
          rw [e16]
          have lg := lix_rng x.toInt
          refine hl (fR12 D) x _ L (a + 1) Q s1 hlx (fun I' L' s' => ?_)
          rw [hr] at hQ
          refine hQ _ I' L' s' (fun _ st => ?_)
          show ev lt [1000 + lix (GS (I0 uR) (min sz 40) a)] st = _
          rw [← hx, ev_let ⟨hlx, lg.2⟩]
        · rw [← hx] at b; exact absurd hlx b
        · rw [← hx] at b; exact absurd hlx b
      have nx : ∀ (c : Int32) (v : Int), c.toInt = v → ¬ x = c → ¬ x.toInt = v := fun c v hc q q2 => q ((i_eq rfl hc).mpr q2)
      have lt0 : ∀ (c : Int32) (v : Int), c.toInt = v → 0 ≤ lix v → x = c → f_X12_thing_b140 (fR12 D) Z Q v0 x I L := fun c v hc hv q => letr (by rw [(i_eq rfl hc).mp q]; exact hv)
      refine ⟨lt0 97 97 rfl (by decide), fun c1 => ⟨lt0 114 114 rfl (by decide), fun c2 => ⟨lt0 115 115 rfl (by decide), fun c3 => ⟨lt0 119 119 rfl (by decide), fun c4 => ⟨lt0 120 120 rfl (by decide), fun c5 => ⟨lt0 108 108 rfl (by decide), fun c6 => ⟨lt0 106 106 rfl (by decide), fun c7 => ?_⟩⟩⟩⟩⟩⟩⟩
      have hno : ¬ 0 ≤ lix x.toInt := by
        unfold lix
        rw [if_neg (nx 97 97 rfl c1), if_neg (nx 114 114 rfl c2), if_neg (nx 115 115 rfl c3), if_neg (nx 119 119 rfl c4), if_neg (nx 120 120 rfl c5), if_neg (nx 108 108 rfl c6), if_neg (nx 106 106 rfl c7)]
        decide
      rw [hx] at hno
      refine n_fault t s (fun I' s' => ?_)
      rw [s.2.2.1] at s'
      rcases hp with ⟨b, -⟩ | ⟨-, b, -⟩ | ⟨-, -, b, -⟩ | ⟨-, -, -, hr⟩
      · omega
      · exact absurd b hno
      · exact absurd b n4
      · rw [hr] at hQ
        exact hQ 0 I' L s' (fun q => by
          have q : a = -1 := q
          omega)
    · have g := (not_congr (i_eq (x := r16) (y := 0) rfl (show (0 : Int32).toInt = 0 from rfl))).mp g
      rcases hp with ⟨b, hr⟩ | ⟨b, -⟩ | ⟨b, -⟩ | ⟨b, -⟩
      · refine n_number t s (by omega) b (fun v I' hv s' => ?_)
        have nv := N3_val (n3_is (g := GS (I0 uR) (min sz 40)) (a := a))
        rw [hr] at hQ
        exact hQ v I' L s' (fun _ st => ev_num hv (by omega))
      · omega
      · omega
      · omega
  refine ⟨fun q => oth (fun g => ?_), fun q => ⟨fun q2 => oth (fun g => ?_), fun q2 => ?_⟩⟩
  · exact q ((i_eq hx (show (40 : Int32).toInt = 40 from rfl)).mpr g.1)
  · have q2 := (i_le (show (4 : Int32).toInt = 4 from rfl) ek).mp q2
    omega
  · have q := (i_eq hx (show (40 : Int32).toInt = 40 from rfl)).mp q
    have q2 := (not_congr (i_le (show (4 : Int32).toInt = 4 from rfl) ek)).mp q2
    have l1 := GSlt (f := I0 uR) (lim := min sz 40) (x := a) (by omega)
    intro I63 e63
    rw [e63]
    rcases hp with ⟨b, -⟩ | ⟨-, b, -⟩ | ⟨-, -, -, p, e, hp⟩ | ⟨-, -, b, -⟩
    · omega
    · have := lix_0 b
      omega
    · obtain ⟨p1, p2, p3, p4⟩ := PL_ok GSx d 0 (k + 1) (a + 1) p (by omega) (by omega) l1 e
      have ek1 : (v1 + (1 : Int32)).toInt = ((k + 1 : Nat) : Int) := (i_add ek (show (1 : Int32).toInt = 1 from rfl) (by omega) (by omega)).trans (by omega)
      refine ih.1 D (k + 1) (a + 1) p _ _ L _ e (ML_at t s (by omega)) (by omega) l1 ek1 (by omega) (by omega) (fun v I1 L1 s1 hv => ?_)
      by_cases b : p.2.1 = -1
      · rw [b] at s1
        refine n_need (k := 41) t s1 (by omega) rfl (fun g I2 s2 => ?_) (fun g I2 s2 => ?_)
        · rcases hp with ⟨-, -, hr⟩ | ⟨-, b2, -⟩ | ⟨b2, -⟩
          · rw [hr] at hQ; exact hQ v I2 L1 s2 (fun _ => hv b)
          · exact absurd g b2
          · exact absurd b b2
        · rcases hp with ⟨-, b2, -⟩ | ⟨-, -, hr⟩ | ⟨b2, -⟩
          · exact absurd b2 g
          · rw [hr] at hQ
            exact hQ v I2 L1 s2 (fun q9 => by
              have q9 : p.1 = -1 := q9
              omega)
          · exact absurd b b2
      · rcases hp with ⟨b2, -⟩ | ⟨b2, -⟩ | ⟨-, hr⟩
        · exact absurd b2 b
        · exact absurd b2 b
        · rw [hr] at hQ
          exact n_needD s1 b (hQ v I1 L1 s1 (fun q9 => absurd q9 b))
    · omega
theorem MC_all {Z : jZ} {I0 : jI} {v0 uR : Nat} {sz : Int} {lt : Nat → Int32} (t : TMl Z I0 v0 uR sz) (hl : LTR Z I0 v0 sz lt) : ∀ d, MCa Z I0 v0 uR sz lt d := by
  intro d
  induction d with
  | zero => exact ⟨fun _ _ _ _ _ _ _ _ h => (by cases h), fun _ _ _ _ _ _ _ _ h => (by cases h), fun _ _ _ _ _ _ _ _ h => (by cases h), fun _ _ _ _ _ _ _ _ h => (by cases h), fun _ _ _ _ _ _ _ _ h => (by cases h), fun _ _ _ _ _ _ _ _ _ h => (by cases h), fun _ _ _ _ _ _ _ _ _ _ h => (by cases h), fun _ _ _ _ _ _ _ _ _ _ h => (by cases h)⟩
  | succ d ih => exact ⟨MC_held t ih, MC_sum t ih, MC_prod t ih, MC_t3 t ih, MC_t7 t ih, MC_t6 t hl ih, MC_l4 t ih, MC_l5 t ih⟩
end
section
set_option maxHeartbeats 4000000 in
set_option maxRecDepth 100000 in
theorem l16_X3_read_L122 {Z : jZ} {I0 : jI} {Q : Int32 → jI → jL → Prop} (w0 : WD Z I0) (v0 : Nat) (v1 : Nat) (kv0 : jk Z v0 3) (kv1 : jk Z v1 10) (hQ : ∀ (I' : jI) (L' : jL), WD Z I' → FR Ws_X3_read Z I0 Z I' → Q (0 : Int32) I' L') : ∀ (n : Nat) (v2 : Int32) (I : jI) (L : jL), WD Z I → FR Ws_X3_read Z I0 Z I →   (0 ≤ v2.toInt ∧ v2.toInt ≤ 40) → 40 - v2.toInt < (n : Int) → fs_X3_read_L122  Z Q n v0 v2 I L := by
  intro n
  induction n with
  | zero =>
    intro v2 I L w_I q_I   li  me
    exfalso
    omega
  | succ n ih =>
    intro v2 I L w_I q_I   li  me
    unfold fs_X3_read_L122
    have rv2 := i_rng v2
    have t2 : 0 ≤ (I v0 3).toInt ∧ (I v0 3).toInt ≤ 40 := w_I.fld 3 3 kv0 (by decide)
    refine ⟨fun c3 => ?_, fun c3 => ?_⟩
    · skip
      first | (have t4 : (I v0 3).toInt ≤ v2.toInt := (i_le rfl rfl).mp c3) | (have t4 : (I v0 3).toInt ≤ v2.toInt := (i_le rfl rfl).mp c3) | skip
      have t5 : (0 : Int32).toInt = 0 := rfl
      exact hQ I L w_I q_I 
    · skip
      first | (have t6 : ¬ ((I v0 3).toInt ≤ v2.toInt) := (not_congr (i_le rfl rfl)).mp c3) | (have t6 : ¬ ((I v0 3).toInt ≤ v2.toInt) := (not_congr (i_le rfl rfl)).mp c3) | skip
      intro b7 eb7
      obtain ⟨x8, ex8, kb7, lb7⟩ := sh_f w_I.1 kv0 (j := 0) (k := 14) (m := 40) rfl
      cases eb7.symm.trans ex8
      have o9 : vp_in v2 40 := vi_of rfl (by omega) (by omega)
      refine ⟨o9, ?_⟩
      refine ⟨fun c10 => ?_, fun c10 => ?_⟩
      · skip
        first | (have t11 : (I b7 v2.toNatClampNeg).toInt < (1000) := (i_lt rfl (show (1000 : Int32).toInt = 1000 from rfl)).mp c10) | (have t11 : (I b7 v2.toNatClampNeg).toInt < (1000 : Int32).toInt := (i_lt rfl rfl).mp c10) | skip
        unfold fs_X3_read_b174
        unfold fs_X3_read_b175
        intro I12 eI12
        have w_I12 : WD Z I12 := by rw [eI12]; exact WD_putF w_I 3 4 kv0 (by decide) (by decide) trivial
        have f_I12 : FR [(3, 4)] Z I Z I12 := by rw [eI12]; exact FR_putF kv0 (by decide) List.mem_cons_self
        have q_I12 : FR Ws_X3_read Z I0 Z I12 := q_I.trans w0.1 w0.2.1 (f_I12.mono (by decide))
        have u13 : (I12 v0 3).toInt = (I v0 3).toInt := by rw [f_I12.2.2.1 v0 3 3 kv0 (by decide) (by decide)]
        first | (have u14 : (I12 v0 4).toInt = ((I v0 4) ||| (0 : Int32)).toInt := by (rw [eI12, show jpI I v0 4 ((I v0 4) ||| (0 : Int32)) v0 4 = ((I v0 4) ||| (0 : Int32)) from jpI_at] <;> exact rfl)) | skip
        intro x15 ex15
        have rx15 := i_rng x15
        first | (have tx15 : x15.toInt = v2.toInt + (1) := by (rw [ex15]; exact (i_add rfl (show (1 : Int32).toInt = 1 from rfl) (by omega) (by omega)))) | skip
        exact ih x15 I12 L w_I12 q_I12   (by omega)  (by omega)
      · skip
        first | (have t16 : ¬ ((I b7 v2.toNatClampNeg).toInt < (1000)) := (not_congr (i_lt rfl (show (1000 : Int32).toInt = 1000 from rfl))).mp c10) | (have t16 : ¬ ((I b7 v2.toNatClampNeg).toInt < (1000 : Int32).toInt) := (not_congr (i_lt rfl rfl)).mp c10) | skip
        intro b17 eb17
        obtain rfl : b7 = b17 := Option.some.inj (eb7.symm.trans eb17)
        have o18 : vp_in v2 40 := vi_of rfl (by omega) (by omega)
        refine ⟨o18, ?_⟩
        refine ⟨fun c19 => ?_, fun c19 => ?_⟩
        · skip
          first | (have t20 : (2000) ≤ (I b7 v2.toNatClampNeg).toInt := (i_le (show (2000 : Int32).toInt = 2000 from rfl) rfl).mp c19) | (have t20 : (2000 : Int32).toInt ≤ (I b7 v2.toNatClampNeg).toInt := (i_le rfl rfl).mp c19) | skip
          unfold fs_X3_read_b174
          unfold fs_X3_read_b175
          intro I21 eI21
          have w_I21 : WD Z I21 := by rw [eI21]; exact WD_putF w_I 3 4 kv0 (by decide) (by decide) trivial
          have f_I21 : FR [(3, 4)] Z I Z I21 := by rw [eI21]; exact FR_putF kv0 (by decide) List.mem_cons_self
          have q_I21 : FR Ws_X3_read Z I0 Z I21 := q_I.trans w0.1 w0.2.1 (f_I21.mono (by decide))
          have u22 : (I21 v0 3).toInt = (I v0 3).toInt := by rw [f_I21.2.2.1 v0 3 3 kv0 (by decide) (by decide)]
          first | (have u23 : (I21 v0 4).toInt = ((I v0 4) ||| (0 : Int32)).toInt := by (rw [eI21, show jpI I v0 4 ((I v0 4) ||| (0 : Int32)) v0 4 = ((I v0 4) ||| (0 : Int32)) from jpI_at] <;> exact rfl)) | skip
          intro x24 ex24
          have rx24 := i_rng x24
          first | (have tx24 : x24.toInt = v2.toInt + (1) := by (rw [ex24]; exact (i_add rfl (show (1 : Int32).toInt = 1 from rfl) (by omega) (by omega)))) | skip
          exact ih x24 I21 L w_I21 q_I21   (by omega)  (by omega)
        · skip
          first | (have t25 : ¬ ((2000) ≤ (I b7 v2.toNatClampNeg).toInt) := (not_congr (i_le (show (2000 : Int32).toInt = 2000 from rfl) rfl)).mp c19) | (have t25 : ¬ ((2000 : Int32).toInt ≤ (I b7 v2.toNatClampNeg).toInt) := (not_congr (i_le rfl rfl)).mp c19) | skip
          intro b26 eb26
          obtain rfl : b7 = b26 := Option.some.inj (eb7.symm.trans eb26)
          have o27 : vp_in v2 40 := vi_of rfl (by omega) (by omega)
          refine ⟨o27, ?_⟩
          unfold fs_X3_read_b175
          intro I28 eI28
          have w_I28 : WD Z I28 := by rw [eI28]; exact WD_putF w_I 3 4 kv0 (by decide) (by decide) trivial
          have f_I28 : FR [(3, 4)] Z I Z I28 := by rw [eI28]; exact FR_putF kv0 (by decide) List.mem_cons_self
          have q_I28 : FR Ws_X3_read Z I0 Z I28 := q_I.trans w0.1 w0.2.1 (f_I28.mono (by decide))
          have u29 : (I28 v0 3).toInt = (I v0 3).toInt := by rw [f_I28.2.2.1 v0 3 3 kv0 (by decide) (by decide)]
          first | (have u30 : (I28 v0 4).toInt = ((I v0 4) ||| ((1 : Int32) <<< (((I b7 v2.toNatClampNeg) - (1000 : Int32)) &&& 31))).toInt := by (rw [eI28, show jpI I v0 4 ((I v0 4) ||| ((1 : Int32) <<< (((I b7 v2.toNatClampNeg) - (1000 : Int32)) &&& 31))) v0 4 = ((I v0 4) ||| ((1 : Int32) <<< (((I b7 v2.toNatClampNeg) - (1000 : Int32)) &&& 31))) from jpI_at] <;> exact rfl)) | skip
          intro x31 ex31
          have rx31 := i_rng x31
          first | (have tx31 : x31.toInt = v2.toInt + (1) := by (rw [ex31]; exact (i_add rfl (show (1 : Int32).toInt = 1 from rfl) (by omega) (by omega)))) | skip
          exact ih x31 I28 L w_I28 q_I28   (by omega)  (by omega)
set_option maxHeartbeats 4000000 in
set_option maxRecDepth 100000 in
theorem l16_X12_law_L85 {B : Nat × Nat} {T : Nat} {Z0 : jZ} {I0 : jI} {Q : Int32 → jZ → jI → jL → Prop} (w0 : WD Z0 I0) (v0 : Nat) (v1 : Int32) (kv0 : jk Z0 v0 12) (v2 : Int32) (hQ : ∀ (Z' : jZ) (I' : jI) (L' : jL), WD Z' I' → BUD B Z' T → FR Ws_X12_law Z0 I0 Z' I' → CP Z0 Z' → (I' v0 19).toInt = 0 → Q (0 : Int32) Z' I' L') : ∀ (n : Nat) (v3 : Int32) (Z : jZ) (I : jI) (L : jL), WD Z I → BUD B Z T → FR Ws_X12_law Z0 I0 Z I → CP Z0 Z →   (0 ≤ v3.toInt ∧ v3.toInt ≤ 40 ∧ v2.toInt ≤ 40 ∧ 0 ≤ v2.toInt ∧ 0 ≤ v1.toInt ∧ v1.toInt ≤ 1 ∧ (I v0 19).toInt = 0) → 40 - v3.toInt < (n : Int) → f_X12_law_L85 B  Q n v0 v1 v2 v3 Z I L := by
  intro n
  induction n with
  | zero =>
    intro v3 Z I L w_I bd_Z q_I cp_Z   li  me
    exfalso
    omega
  | succ n ih =>
    intro v3 Z I L w_I bd_Z q_I cp_Z   li  me
    unfold f_X12_law_L85
    have rv3 := i_rng v3
    have rv2 := i_rng v2
    have rv1 := i_rng v1
    have kv0_0 := kv0
    have kv0 := (q_I.1 _ _ kv0).1
    have t1 : 0 ≤ (I v0 19).toInt ∧ (I v0 19).toInt ≤ 80 := w_I.fld 12 19 kv0 (by decide)
    have xq_I := q_I.1
    refine ⟨fun c2 => ?_, fun c2 => ?_⟩
    · skip
      first | (have t3 : v2.toInt ≤ v3.toInt := (i_le rfl rfl).mp c2) | (have t3 : v2.toInt ≤ v3.toInt := (i_le rfl rfl).mp c2) | skip
      intro b4 eb4
      obtain ⟨x5, ex5, kb4, lb4⟩ := sh_f w_I.1 kv0 (j := 30) (k := 14) (m := 2) rfl
      cases eb4.symm.trans ex5
      have o6 : vp_in v1 2 := vi_of rfl (by omega) (by omega)
      refine ⟨o6, ?_⟩
      intro I7 eI7
      have w_I7 : WD Z I7 := by rw [eI7]; exact WD_putA w_I 12 30 kv0 eb4 kb4 rfl rfl (by decide) (by constructor <;> omega)
      have f_I7 : FR [(12, 30)] Z I Z I7 := by rw [eI7]; exact FR_upA w_I.2.1 kv0 eb4 kb4 rfl rfl List.mem_cons_self
      have q_I7 : FR Ws_X12_law Z0 I0 Z I7 := q_I.trans w0.1 w0.2.1 (f_I7.mono (by decide))
      have u8 : (I7 v0 19).toInt = (I v0 19).toInt := by rw [f_I7.2.2.1 v0 12 19 kv0 (by decide) (by decide)]
      have t9 : (0 : Int32).toInt = 0 := rfl
      exact hQ Z I7 L w_I7 bd_Z q_I7 cp_Z (by omega)
    · skip
      first | (have t10 : ¬ (v2.toInt ≤ v3.toInt) := (not_congr (i_le rfl rfl)).mp c2) | (have t10 : ¬ (v2.toInt ≤ v3.toInt) := (not_congr (i_le rfl rfl)).mp c2) | skip
      intro b11 eb11
      obtain ⟨x12, ex12, kb11, lb11⟩ := sh_f w_I.1 kv0 (j := 29) (k := 19) (m := 2) rfl
      cases eb11.symm.trans ex12
      have o13 : vp_in v1 2 := vi_of rfl (by omega) (by omega)
      refine ⟨o13, ?_⟩
      intro b14 eb14
      obtain ⟨x16, ex16, kb14, lb14⟩ := w_I.1.2.2.2 b11 kb11 _ (vp_lt (by rw [lb11]; exact o13))
      cases eb14.symm.trans ex16
      intro b17 eb17
      obtain ⟨x18, ex18, kb17, lb17⟩ := sh_f w_I.1 kv0 (j := 18) (k := 13) (m := 80) rfl
      cases eb17.symm.trans ex18
      have o19 : vp_in v3 80 := vi_of rfl (by omega) (by omega)
      refine ⟨o19, ?_⟩
      have o20 : vp_in v3 40 := vi_of rfl (by omega) (by omega)
      refine ⟨o20, ?_⟩
      intro I21 eI21
      have w_I21 : WD Z I21 := by rw [eI21]; exact WD_putA w_I 19 v1.toNatClampNeg kb11 eb14 kb14 rfl (by simp [jsr]) (by decide) trivial
      have m_I21 : (19, v1.toNatClampNeg) ∈ Ws_X12_law := by (have h9 := i_nat (x := v1) rfl (by omega); rcases (show v1.toNatClampNeg = 0 ∨ v1.toNatClampNeg = 1 by omega) with h | h <;> rw [h] <;> decide)
      have f_I21 : FR Ws_X12_law Z I Z I21 := by rw [eI21]; exact FR_upA w_I.2.1 kb11 eb14 kb14 rfl (by simp [jsr]) m_I21
      have q_I21 : FR Ws_X12_law Z0 I0 Z I21 := q_I.trans w0.1 w0.2.1 f_I21
      have ut9 : (I21 v0 19).toInt = (I v0 19).toInt := by rw [eI21]; exact congrArg Int32.toInt ((FR_upA (W := [(19, v1.toNatClampNeg)]) w_I.2.1 kb11 eb14 kb14 rfl (by simp [jsr]) List.mem_cons_self).2.2.1 v0 12 19 kv0 (by decide) (by simp))
      intro x22 ex22
      have rx22 := i_rng x22
      first | (have tx22 : x22.toInt = v3.toInt + (1) := by (rw [ex22]; exact (i_add rfl (show (1 : Int32).toInt = 1 from rfl) (by omega) (by omega)))) | skip
      exact ih x22 Z I21 L w_I21 bd_Z q_I21 cp_Z   (by omega)  (by omega)
/-! ===== law() on both sides: the answer ===== -/
theorem lwA_cong {f g : Nat → Int32} {s : Int} (h : ∀ i : Nat, (i : Int) < s → f i = g i) : lwA f s = lwA g s := by
  unfold lwA lwR
  rw [GS_cong (lim := min s 40) (s := s) (by omega) h]
set_option maxHeartbeats 4000000 in
theorem s16_X3_read {Z : jZ} {I : jI} {L : jL} (w : WD Z I) (v0 v1 : Nat) (k0 : jk Z v0 3) (k1 : jk Z v1 10) (uB : Nat) (hB : jr Z v1 0 = some uB) (hb : BY (I uB)) {Q : Int32 → jI → jL → Prop} (hQ : ∀ (r : Int32) (I' : jI) (L' : jL), WD Z I' → FR Ws_X3_read Z I Z I' → r.toInt = lwA (I uB) (I v1 1).toInt → Q r I' L') : fs_X3_read v0 v1 Z I L Q := by
  obtain ⟨uD, hD, kD, lD⟩ := sh_f w.1 k0 (j := 1) (k := 14) (m := 40) rfl
  obtain ⟨uC, hC, kC, lC⟩ := sh_f w.1 k0 (j := 0) (k := 14) (m := 40) rfl
  obtain ⟨x, ex, kB, lB⟩ := sh_f w.1 k1 (j := 0) (k := 13) (m := 80) rfl
  cases hB.symm.trans ex
  have n10 : v1 ≠ v0 := ks_ne k1 k0 (by decide)
  have nB : uB ≠ v0 := ks_ne kB k0 (by decide)
  have sz : 0 ≤ (I v1 1).toInt ∧ (I v1 1).toInt ≤ 80 := w.fld 10 1 k1 (by decide)
  have b77 : ∀ (J : jI) (L1 : jL) (F : Int), WD Z J → FR Ws_X3_read Z I Z J → (J v0 8).toInt = F → -1 ≤ F → F ≤ 1000 → (F = -1 → lwA (I uB) (I v1 1).toInt = 0) → (F ≠ -1 → lwA (I uB) (I v1 1).toInt = -1 - F) → fs_X3_read_b77 Z Q v0 J L1 := by
    intro J L1 F wJ fJ e8 g1 g2 h1 h2
    unfold fs_X3_read_b77
    refine ⟨fun c => ?_, fun c => ?_⟩
    · have c := (i_eq e8 (show (-1 : Int32).toInt = -1 from rfl)).mp c
      intro b13 h13 b14 h14
      cases hD.symm.trans h13
      cases hC.symm.trans h14
      refine ⟨by decide, ?_⟩
      intro I16 e16 I17 e17 I18 e18
      have w16 : WD Z I16 := by rw [e16]; exact WD_cpy wJ 3 0 k0 hC kC rfl rfl (by decide) (fun _ _ _ => trivial)
      have f16 : FR Ws_X3_read Z I Z I16 := fJ.trans w.1 w.2.1 (by rw [e16]; exact FR_upA wJ.2.1 k0 hC kC rfl rfl (by decide))
      have w17 : WD Z I17 := by rw [e17]; exact WD_putF w16 3 3 k0 (by decide) (by decide) (w16.fld 3 5 k0 (by decide))
      have f17 : FR Ws_X3_read Z I Z I17 := f16.trans w.1 w.2.1 (by rw [e17]; exact FR_putF k0 (by decide) (by decide))
      have w18 : WD Z I18 := by rw [e18]; exact WD_putF w17 3 4 k0 (by decide) (by decide) trivial
      have f18 : FR Ws_X3_read Z I Z I18 := f17.trans w.1 w.2.1 (by rw [e18]; exact FR_putF k0 (by decide) (by decide))
      exact ⟨41, l16_X3_read_L122 w v0 v1 k0 k1 (fun I' L' a b => hQ 0 I' L' a b (by rw [h1 c]; rfl)) 41 0 I18 L1 w18 f18 ⟨by decide, by decide⟩ (by decide)⟩
    · have c := (not_congr (i_eq e8 (show (-1 : Int32).toInt = -1 from rfl))).mp c
      refine hQ _ J L1 wJ fJ ?_
      rw [h2 c]
      exact i_sub (show (-1 : Int32).toInt = -1 from rfl) e8 (by omega) (by omega)
  unfold fs_X3_read
  intro I21 e21 I22 e22 I23 e23 I24 e24
  have w21 : WD Z I21 := by rw [e21]; exact WD_putF w 3 5 k0 (by decide) (by decide) (show rg 0 40 _ from ⟨by decide, by decide⟩)
  have f21 : FR Ws_X3_read Z I Z I21 := by rw [e21]; exact FR_putF k0 (by decide) (by decide)
  have w22 : WD Z I22 := by rw [e22]; exact WD_putF w21 3 6 k0 (by decide) (by decide) trivial
  have f22 : FR Ws_X3_read Z I Z I22 := f21.trans w.1 w.2.1 (by rw [e22]; exact FR_putF k0 (by decide) (by decide))
  have w23 : WD Z I23 := by rw [e23]; exact WD_putF w22 3 8 k0 (by decide) (by decide) trivial
  have f23 : FR Ws_X3_read Z I Z I23 := f22.trans w.1 w.2.1 (by rw [e23]; exact FR_putF k0 (by decide) (by decide))
  have w24 : WD Z I24 := by rw [e24]; exact WD_putF w23 3 7 k0 (by decide) (by decide) trivial
  have f24 : FR Ws_X3_read Z I Z I24 := f23.trans w.1 w.2.1 (by rw [e24]; exact FR_putF k0 (by decide) (by decide))
  have y1 : I24 v1 = I v1 := by rw [e24, jpI_ne n10, e23, jpI_ne n10, e22, jpI_ne n10, e21, jpI_ne n10]
  have y3 : I23 v1 1 = I v1 1 := by rw [e23, jpI_ne n10, e22, jpI_ne n10, e21, jpI_ne n10]
  have yB : I24 uB = I uB := by rw [e24, jpI_ne nB, e23, jpI_ne nB, e22, jpI_ne nB, e21, jpI_ne nB]
  have t7 : (I24 v0 7).toInt = min (I v1 1).toInt 40 := by
    rw [e24, jpI_at, y3]
    by_cases c : (40 : Int32) < I v1 1
    · rw [if_pos c]
      have c := (i_lt (show (40 : Int32).toInt = 40 from rfl) (y := I v1 1) rfl).mp c
      show (40 : Int) = _
      omega
    · rw [if_neg c]
      have c := (not_congr (i_lt (show (40 : Int32).toInt = 40 from rfl) (y := I v1 1) rfl)).mp c
      omega
  have t8 : (I24 v0 8).toInt = -1 := by rw [e24, jpI_o (by decide), e23, jpI_at]; rfl
  have t6 : (I24 v0 6).toInt = 0 := by rw [e24, jpI_o (by decide), e23, jpI_o (by decide), e22, jpI_at]; rfl
  have t5 : (I24 v0 5).toInt = 0 := by rw [e24, jpI_o (by decide), e23, jpI_o (by decide), e22, jpI_o (by decide), e21, jpI_at]; rfl
  have ts : (I24 v1 1).toInt = (I v1 1).toInt := by rw [y1]
  refine ⟨fun c => ?_, fun c => ?_⟩
  · have c := (i_le ts (show (0 : Int32).toInt = 0 from rfl)).mp c
    refine b77 I24 L (-1) w24 f24 t8 (by omega) (by omega) (fun _ => ?_) (fun q => absurd rfl q)
    unfold lwA
    rw [if_pos c]
  have c := (not_congr (i_le ts (show (0 : Int32).toInt = 0 from rfl))).mp c
  obtain ⟨hp, o1, o2, o3, o4⟩ := lwR_is (f := I uB) (s := (I v1 1).toInt) sz.1
  have t : TLw Z I24 v0 v1 uB uD (min (I v1 1).toInt 40) := ⟨w24, k0, k1, hB, kB, ⟨by omega, by rw [ts]; omega, by rw [ts]; exact sz.2, by omega⟩, by rw [yB]; exact hb, hD, kD⟩
  have s0 : LSw Z I24 v0 uD (min (I v1 1).toInt 40) I24 0 (-1) [] := ⟨w24, FR.rf, t6, t8, t7, fun _ => ⟨t5, fun i hi => absurd hi (Nat.not_lt_zero i)⟩, fun _ _ _ => rfl⟩
  refine (LC_all t 300).1 30 0 0 (lwR (I uB) (I v1 1).toInt) [] 0 I24 L _ (by rw [yB]; exact hp) s0 (by omega) (by omega) (by show ((0 : Nat) : Int) ≤ 0; omega) rfl (by omega) (by omega) (fun I28 s28 => ?_)
  have f28 : FR Ws_X3_read Z I Z I28 := f24.trans w.1 w.2.1 (s28.2.1.mono (by decide))
  have u1 : (I28 v1 1).toInt = (I v1 1).toInt := by rw [s28.2.1.2.2.1 v1 10 1 k1 (by decide) (by decide)]; exact ts
  have b69 : (lwR (I uB) (I v1 1).toInt).2.1 = -1 → (lwR (I uB) (I v1 1).toInt).1 < (I v1 1).toInt → fs_X3_read_b69 Z Q v0 I28 L := by
    intro q1 q2
    unfold fs_X3_read_b69
    intro I20 e20
    have w20 : WD Z I20 := by rw [e20]; exact WD_putF s28.1 3 8 k0 (by decide) (by decide) trivial
    have f20 : FR Ws_X3_read Z I Z I20 := f28.trans w.1 w.2.1 (by rw [e20]; exact FR_putF k0 (by decide) (by decide))
    refine b77 I20 L (lwR (I uB) (I v1 1).toInt).1 w20 f20 (by rw [e20, jpI_at]; exact s28.2.2.1) (by omega) (by omega) (fun q => by omega) (fun _ => ?_)
    unfold lwA
    rw [if_neg (by omega), if_pos q1, if_pos q2]
  refine ⟨fun q => ?_, fun q => ⟨fun q2 => ?_, fun q2 => ⟨fun q3 => ?_, fun q3 => ?_⟩⟩⟩
  · have q := (not_congr (i_eq s28.2.2.2.1 (show (-1 : Int32).toInt = -1 from rfl))).mp q
    refine b77 I28 L _ s28.1 f28 s28.2.2.2.1 (by omega) (by omega) (fun g => absurd g q) (fun _ => ?_)
    unfold lwA
    rw [if_neg (by omega), if_neg q]
  · have q := (i_eq s28.2.2.2.1 (show (-1 : Int32).toInt = -1 from rfl)).mp q
    have q2 := (i_lt s28.2.2.1 s28.2.2.2.2.1).mp q2
    exact b69 q (by omega)
  · have q := (i_eq s28.2.2.2.1 (show (-1 : Int32).toInt = -1 from rfl)).mp q
    have q2 := (not_congr (i_lt s28.2.2.1 s28.2.2.2.2.1)).mp q2
    have q3 := (i_le u1 (show (40 : Int32).toInt = 40 from rfl)).mp q3
    refine b77 I28 L _ s28.1 f28 s28.2.2.2.1 (by omega) (by omega) (fun _ => ?_) (fun g => absurd q g)
    unfold lwA
    rw [if_neg (by omega), if_pos q, if_neg (by omega)]
  · have q := (i_eq s28.2.2.2.1 (show (-1 : Int32).toInt = -1 from rfl)).mp q
    have q3 := (not_congr (i_le u1 (show (40 : Int32).toInt = 40 from rfl))).mp q3
    exact b69 q (by omega)
def lwB (v : Int) (x : Int) : Int := if v = 0 ∨ v = 1 then x else -100
set_option maxHeartbeats 4000000 in
theorem s16_X11_law {Z : jZ} {I : jI} {L : jL} (w : WD Z I) (v0 : Nat) (v1 : Int32) (kv0 : jk Z v0 11) (uT : Nat) (huT : jr Z v0 0 = some uT) (uB : Nat) (huB : jr Z uT 0 = some uB) (hb : BY (I uB)) {Q : Int32 → jI → jL → Prop} (hQ : ∀ (r : Int32) (I' : jI) (L' : jL), WD Z I' → FR Ws_X11_law Z I Z I' → (I' uT 1).toInt = 0 → r.toInt = lwB v1.toInt (lwA (I uB) (I uT 1).toInt) → Q r I' L') : fs_X11_law v0 v1 Z I L Q := by
  obtain ⟨x, ex, kT⟩ := sh_o w.1 kv0 (j := 0) (k := 10) rfl
  cases huT.symm.trans ex
  have fin : ∀ (r : Int32) (J : jI) (L1 : jL), WD Z J → FR Ws_X11_law Z I Z J → r.toInt = lwB v1.toInt (lwA (I uB) (I uT 1).toInt) → fs_X11_law_b45 Z Q v0 r J L1 := by
    intro r J L1 wJ fJ er
    unfold fs_X11_law_b45
    intro b1 h1
    cases huT.symm.trans h1
    unfold f_X10_clear
    intro I1 e1
    refine hQ r I1 L1 ?_ ?_ ?_ er
    · rw [e1]; exact WD_putF wJ 10 1 kT (by decide) (by decide) (show rg 0 80 _ from ⟨by decide, by decide⟩)
    · exact fJ.trans w.1 w.2.1 (by rw [e1]; exact FR_putF kT (by decide) (by decide))
    · rw [e1, jpI_at]; rfl
  have rd : ∀ (b10 b11 b12 j : Nat), (j = 6 ∨ j = 7) → (v1.toInt = 0 ∨ v1.toInt = 1) → jr Z v0 2 = some b10 → jr Z b10 j = some b11 → jr Z v0 0 = some b12 → fs_X3_read b11 b12 Z I L (fun r I1 L1 => fs_X11_law_b45 Z Q v0 r I1 L1) := by
    intro b10 b11 b12 j hj hv h10 h11 h12
    cases huT.symm.trans h12
    obtain ⟨x, ex, kF⟩ := sh_o w.1 kv0 (j := 2) (k := 8) rfl
    cases h10.symm.trans ex
    have k3 : jk Z b11 3 := by
      rcases hj with rfl | rfl
      · obtain ⟨x, ex, k⟩ := sh_o w.1 kF (j := 6) (k := 3) rfl
        cases h11.symm.trans ex
        exact k
      · obtain ⟨x, ex, k⟩ := sh_o w.1 kF (j := 7) (k := 3) rfl
        cases h11.symm.trans ex
        exact k
    refine s16_X3_read w b11 uT k3 kT uB huB hb (fun r I1 L1 w1 f1 er => fin r I1 L1 w1 (f1.mono (by decide)) ?_)
    rw [er]
    unfold lwB
    rw [if_pos hv]
  unfold fs_X11_law
  refine ⟨fun c => ⟨fun c1 => ?_, fun c1 b10 h10 b11 h11 b12 h12 => ?_⟩, fun c b10 h10 b11 h11 b12 h12 => ?_⟩
  · have c := (not_congr (i_eq (x := v1) (y := 0) rfl (show (0 : Int32).toInt = 0 from rfl))).mp c
    have c1 := (not_congr (i_eq (x := v1) (y := 1) rfl (show (1 : Int32).toInt = 1 from rfl))).mp c1
    refine fin _ I L w FR.rf ?_
    unfold lwB
    rw [if_neg (by omega)]
    rfl
  · have c1 := (i_eq (x := v1) (y := 1) rfl (show (1 : Int32).toInt = 1 from rfl)).mp c1
    exact rd b10 b11 b12 7 (Or.inr rfl) (Or.inr c1) h10 h11 h12
  · have c := (i_eq (x := v1) (y := 0) rfl (show (0 : Int32).toInt = 0 from rfl)).mp c
    exact rd b10 b11 b12 6 (Or.inl rfl) (Or.inl c) h10 h11 h12
set_option maxHeartbeats 4000000 in
theorem s16_X12_law {B : Nat × Nat} {T : Nat} {Z : jZ} {I : jI} {L : jL} (w : WD Z I) (bd : BUD B Z T) (v0 : Nat) (v1 : Int32) (kv0 : jk Z v0 12) (uM : Nat) (huM : jr Z v0 18 = some uM) {Q : Int32 → jZ → jI → jL → Prop} (hQ : ∀ (r : Int32) (Z' : jZ) (I' : jI) (L' : jL), WD Z' I' → BUD B Z' T → FR Ws_X12_law Z I Z' I' → CP Z Z' → (I' v0 19).toInt = 0 → r.toInt = lwB v1.toInt (lwA (I uM) (I v0 19).toInt) → Q r Z' I' L') : f_X12_law B v0 v1 Z I L Q := by
  obtain ⟨b9, e9, kuM, l9⟩ := sh_f w.1 kv0 (j := 18) (k := 13) (m := 80) rfl
  cases huM.symm.trans e9
  have hne : uM ≠ v0 := ks_ne kuM kv0 (by decide)
  have sz : 0 ≤ (I v0 19).toInt ∧ (I v0 19).toInt ≤ 80 := w.fld 12 19 kv0 (by decide)
  unfold f_X12_law
  intro I1 e1 x23 e23 b eb
  cases huM.symm.trans eb
  have w1 : WD Z I1 := by rw [e1]; exact WD_putF w 12 22 kv0 (by decide) (by decide) trivial
  have f1 : FR Ws_X12_law Z I Z I1 := by rw [e1]; exact FR_putF kv0 (by decide) (by decide)
  have z1 : I1 v0 19 = I v0 19 := by rw [e1, jpI_o (by decide)]
  have b1 : I1 uM = I uM := by rw [e1, jpI_ne hne]
  have ex : x23.toInt = (I v0 19).toInt := by rw [e23, z1]
  refine s_X12_begin w1 bd v0 uM x23 40 kv0 kuM v0 12 18 kv0 huM (fun Z2 I2 L2 w2 bd2 f2 cp2 p2 => ?_)
  obtain ⟨r2, p24, p25, p26, p27⟩ := p2
  intro I3 e3
  have k2 : jk Z2 v0 12 := (f2.1 _ _ kv0).1
  have kM2 : jk Z2 uM 13 := (f2.1 _ _ kuM).1
  have lM2 : jlen Z2 uM = 80 := (f2.1 _ _ kuM).2.trans l9
  have h2M : jr Z2 v0 18 = some uM := (f2.2.1 v0 12 18 kv0 (by decide) (by decide)).trans huM
  have b2 : I2 uM = I1 uM := f2.2.2.2 v0 12 18 uM kv0 huM (by rw [kuM.2]; rfl) rfl (by decide)
  have w3 : WD Z2 I3 := by rw [e3]; exact WD_putF w2 12 19 k2 (by decide) (by decide) (show rg 0 80 _ from ⟨by decide, by decide⟩)
  have f2' : FR Ws_X12_law Z I Z2 I2 := f1.trans w.1 w.2.1 (f2.mono (by decide))
  have f3 : FR Ws_X12_law Z I Z2 I3 := f2'.trans w.1 w.2.1 (by rw [e3]; exact FR_putF k2 (by decide) (by decide))
  have b3 : I3 uM = I uM := by rw [e3, jpI_ne hne, b2, b1]
  have z3 : (I3 v0 19).toInt = 0 := by rw [e3, jpI_at]; rfl
  refine s_X12_in w3 v1 0 1 (fun r39 p39 => ?_)
  rw [show (0 : Int32).toInt = 0 from rfl, show (1 : Int32).toInt = 1 from rfl] at p39
  refine ⟨fun c => ?ok, fun c => ?no⟩
  case no =>
    have c := (i_eq (x := r39) (y := 0) rfl (show (0 : Int32).toInt = 0 from rfl)).mp c
    refine hQ _ Z2 I3 L2 w3 bd2 f3 cp2 z3 ?_
    unfold lwB
    rw [if_neg (by omega)]
    rfl
  have c := (not_congr (i_eq (x := r39) (y := 0) rfl (show (0 : Int32).toInt = 0 from rfl))).mp c
  have hv : v1.toInt = 0 ∨ v1.toInt = 1 := by omega
  have hv2 : 0 ≤ v1.toInt ∧ v1.toInt ≤ 1 := by omega
  have hB : lwB v1.toInt (lwA (I uM) (I v0 19).toInt) = lwA (I uM) (I v0 19).toInt := by unfold lwB; rw [if_pos hv]
  rw [hB] at hQ
  intro I41 e41
  have w41 : WD Z2 I41 := by rw [e41]; exact WD_putF w3 12 31 k2 (by decide) (by decide) trivial
  have f41 : FR Ws_X12_law Z I Z2 I41 := f3.trans w.1 w.2.1 (by rw [e41]; exact FR_putF k2 (by decide) (by decide))
  have b41 : I41 uM = I uM := by rw [e41, jpI_ne hne]; exact b3
  have z41 : (I41 v0 19).toInt = 0 := by rw [e41, jpI_o (by decide)]; exact z3
  have a41 : I41 v0 31 = (-1 : Int32) := by rw [e41, jpI_at]
  have b83 : ∀ (J : jI) (L1 : jL), WD Z2 J → FR Ws_X12_law Z I Z2 J → (J v0 19).toInt = 0 → (I v0 19).toInt ≤ 40 → lwA (I uM) (I v0 19).toInt = 0 → f_X12_law_b83 B Q v0 v1 x23 Z2 J L1 := by
    intro J L1 wJ fJ z19 h40 hA
    have z0 : (0 : Int32).toInt = 0 := rfl
    unfold f_X12_law_b83
    exact ⟨41, l16_X12_law_L85 w v0 v1 kv0 x23 (fun Z' I' L' a b c d e => hQ 0 Z' I' L' a b c d e (by rw [hA]; rfl)) 41 0 Z2 J L1 wJ bd2 fJ cp2 (by omega) (by omega)⟩
  refine ⟨fun c2 => ?_, fun c2 => ?_⟩
  · have c2 := (i_le ex (show (0 : Int32).toInt = 0 from rfl)).mp c2
    refine b83 I41 L2 w41 f41 z41 (by omega) ?_
    unfold lwA
    rw [if_pos c2]
  have c2 := (not_congr (i_le ex (show (0 : Int32).toInt = 0 from rfl))).mp c2
  have t : TMl Z2 I41 v0 uM (I v0 19).toInt := ⟨w41, k2, r2, kM2, ⟨sz.1, sz.2, by rw [lM2]; omega⟩, fun I' f => f.2.2.2 v0 12 18 uM k2 h2M (by rw [kM2.2]; rfl) rfl (by decide)⟩
  have s : ML Z2 I41 v0 (I v0 19).toInt I41 0 (-1) := by
    refine ⟨w41, FR.rf, ?_, ?_, ?_, ?_⟩
    · rw [e41, jpI_o (by decide), e3, jpI_o (by decide)]; exact p26
    · rw [e41, jpI_o (by decide), e3, jpI_o (by decide)]; exact p27
    · rw [e41, jpI_o (by decide), e3, jpI_o (by decide), p24]; exact ex
    · rw [e41, jpI_o (by decide), e3, jpI_o (by decide)]; exact p25
  have hl : LTR Z2 I41 v0 (I v0 19).toInt (fun _ => 0) := by
    intro F c I9 L9 a Q9 s9 _ hq
    have e31 : I9 v0 31 = (-1 : Int32) := by rw [s9.2.1.2.2.1 v0 12 31 k2 (by decide) (by decide)]; exact a41
    exact ⟨fun q => absurd e31 q, fun _ => hq I9 L9 s9⟩
  obtain ⟨hp, o1, o2, o3, o4⟩ := lwR_is (f := I uM) (s := (I v0 19).toInt) sz.1
  refine (MC_all t hl 300).1 100 0 0 (lwR (I uM) (I v0 19).toInt) 0 I41 L2 _ (by rw [b41]; exact hp) s (by omega) (by omega) rfl (by omega) (by omega) (fun v I45 L45 s45 _ => ?_)
  have f45 : FR Ws_X12_law Z I Z2 I45 := f41.trans w.1 w.2.1 (s45.2.1.mono (by decide))
  have z45 : (I45 v0 19).toInt = 0 := by rw [s45.2.1.2.2.1 v0 12 19 k2 (by decide) (by decide)]; exact z41
  have bad : ∀ (J : jI) (F : Int), ML Z2 I41 v0 (I v0 19).toInt J (lwR (I uM) (I v0 19).toInt).1 F → F ≠ -1 → 0 ≤ F → F ≤ 1000 → lwA (I uM) (I v0 19).toInt = -1 - F → f_X12_law_b69 B Q v0 v1 x23 Z2 J L45 := by
    intro J F sJ hF g1 g2 hA
    unfold f_X12_law_b69
    refine n_fine sJ (fun q => absurd q hF) (fun _ => ⟨fun q => absurd rfl q, fun _ => ?_⟩)
    refine hQ _ Z2 J L45 sJ.1 bd2 (f41.trans w.1 w.2.1 (sJ.2.1.mono (by decide))) cp2 ?_ ?_
    · rw [sJ.2.1.2.2.1 v0 12 19 k2 (by decide) (by decide)]; exact z41
    · rw [hA]
      exact i_sub (show (-1 : Int32).toInt = -1 from rfl) sJ.2.2.2.1 (by omega) (by omega)
  have hlw : ∀ x, (if (I v0 19).toInt ≤ 0 then (0 : Int) else x) = x := fun x => if_neg (by omega)
  by_cases q : (lwR (I uM) (I v0 19).toInt).2.1 = -1
  · refine ⟨fun c3 => ?_, fun c3 => ?_⟩
    · have c3 := (i_le ex s45.2.2.1).mp c3
      rw [q] at s45
      unfold f_X12_law_b69
      refine n_fine s45 (fun _ => ⟨fun _ => ?_, fun q9 => absurd q9 (by decide)⟩) (fun q9 => absurd rfl q9)
      refine b83 I45 L45 s45.1 f45 z45 (by omega) ?_
      unfold lwA
      rw [hlw, if_pos q, if_neg (by omega)]
    · have c3 := (not_congr (i_le ex s45.2.2.1)).mp c3
      rw [q] at s45
      refine n_fault t s45 (fun I9 s9 => bad I9 _ s9 ?_ ?_ ?_ ?_)
      · rw [s45.2.2.1]; omega
      · rw [s45.2.2.1]; omega
      · rw [s45.2.2.1]; omega
      · rw [s45.2.2.1]
        unfold lwA
        rw [hlw, if_pos q, if_pos (by omega)]
  · have hA : lwA (I uM) (I v0 19).toInt = -1 - (lwR (I uM) (I v0 19).toInt).2.1 := by
      unfold lwA
      rw [hlw, if_neg q]
    refine ⟨fun c3 => bad I45 _ s45 q (by omega) (by omega) hA, fun c3 => ?_⟩
    exact n_faultD s45 q (bad I45 _ s45 q (by omega) (by omega) hA)
end
