section
/-! ===== STATES of both sides, over all calls ===== -/
/-- what is kept of STATES -/
def KC (Z : jZ) (I : jI) (uS u62 : Nat) (n : Int) : Prop := ∀ i b a, i < 2 → jr Z uS i = some b → ¬ I b 8 = 0 → jr Z b 0 = some a → ∀ s : Nat, (s : Int) < n → I a s = I u62 (266 * i + 2 * s)
theorem KC_fr {W : List (Nat × Nat)} {Z Z' : jZ} {I I' : jI} {uS v2 u62 : Nat} {n m : Int} (f : FR W Z I Z' I') (sh : SH Z) (kS : jk Z uS 17) (lS : jlen Z uS = 2) (k2 : jk Z v2 12) (h62 : jr Z v2 62 = some u62) (k62 : jk Z u62 14) (n1 : (2, 8) ∉ W) (n2 : (2, 0) ∉ W) (n3 : (12, 62) ∉ W) (em : m = n) (h : KC Z I uS u62 n) : KC Z' I' uS u62 m := by
  intro i b a hi hb hh ha s hs
  rw [f.2.1 uS 17 i kS (by omega) (by omega)] at hb
  obtain ⟨y, ey, kb⟩ := sh.2.2.1 uS kS i (by rw [lS]; exact hi)
  cases hb.symm.trans ey
  rw [f.2.1 b 2 0 kb (by omega) (by omega)] at ha
  obtain ⟨x, ex, ka, -⟩ := sh_f sh kb (j := 0) (k := 14) (m := 24) rfl
  cases ha.symm.trans ex
  rw [f.2.2.1 b 2 8 kb (by decide) n1] at hh
  rw [f.2.2.2 b 2 0 a kb ha (by rw [ka.2]; rfl) rfl n2, f.2.2.2 v2 12 62 u62 k2 h62 (by rw [k62.2]; rfl) rfl n3]
  exact h i b a hi hb hh ha s (by omega)
theorem KC_frp {Z Z' : jZ} {I I' : jI} {uS v2 u62 : Nat} {n m : Int} (f : FRp Z I Z' I') (sh : SH Z) (kS : jk Z uS 17) (lS : jlen Z uS = 2) (k62 : jk Z u62 14) (em : m = n) (h : KC Z I uS u62 n) : KC Z' I' uS u62 m := by
  intro i b a hi hb hh ha s hs
  rw [f.1 uS 17 i kS (by decide)] at hb
  obtain ⟨y, ey, kb⟩ := sh.2.2.1 uS kS i (by rw [lS]; exact hi)
  cases hb.symm.trans ey
  rw [f.1 b 2 0 kb (by decide)] at ha
  obtain ⟨x, ex, ka, -⟩ := sh_f sh kb (j := 0) (k := 14) (m := 24) rfl
  cases ha.symm.trans ex
  rw [f.2 b 2 8 kb (by decide)] at hh
  rw [f.2 a 14 s ka (by omega), f.2 u62 14 _ k62 (by omega)]
  exact h i b a hi hb hh ha s (by omega)
theorem st_set {I0 I1 I2 : jI} {uF v2 uX uY : Nat} {A A' C C' : Nat → Int32} {a b c r1 r2 : Int32} (en : (I0 uF 9).toInt = (I0 v2 0).toInt) (eY : I1 uY = I0 uY) (eX : I2 uX = I1 uX) (e1 : I1 v2 0 = I0 v2 0) (e2 : I2 v2 0 = I1 v2 0) (p1 : SETr (I0 uF 9).toInt (I0 uX) (I1 uX) A A' a b c r1) (p2 : SETr (I1 v2 0).toInt (I1 uY) (I2 uY) C C' a b c r2) (hs : ARr (I0 v2 0).toInt (I0 uX) (I0 uY)) : ARr (I2 v2 0).toInt (I2 uX) (I2 uY) := by
  rw [eY, e1] at p2
  rw [eX, e2, e1]
  rw [en] at p1
  exact SETr_eq rfl p1 p2 hs
theorem st_wears {I0 I1 I2 : jI} {uF v2 uX uY : Nat} {a r1 r2 : Int32} (h0 : 0 ≤ (I0 v2 0).toInt) (en : (I0 uF 9).toInt = (I0 v2 0).toInt) (eY : I1 uY = I0 uY) (eX : I2 uX = I1 uX) (e1 : I1 v2 0 = I0 v2 0) (e2 : I2 v2 0 = I1 v2 0) (p1 : WEr (I0 uF 9).toInt (I0 uX) (I1 uX) a r1) (p2 : WEr (I1 v2 0).toInt (I1 uY) (I2 uY) a r2) (hs : ARr (I0 v2 0).toInt (I0 uX) (I0 uY)) : r1.toInt = r2.toInt ∧ ARr (I2 v2 0).toInt (I2 uX) (I2 uY) := by
  rw [eY, e1] at p2
  rw [eX, e2, e1]
  rw [en] at p1
  exact WEr_eq rfl h0 p1 p2 hs
theorem st_mends {I0 I1 I2 : jI} {uF v2 uX uY : Nat} {R U : Nat → Int32} {a r1 r2 : Int32} (en : (I0 uF 9).toInt = (I0 v2 0).toInt) (eY : I1 uY = I0 uY) (eX : I2 uX = I1 uX) (e1 : I1 v2 0 = I0 v2 0) (e2 : I2 v2 0 = I1 v2 0) (p1 : MEr (I0 uF 9).toInt (I0 uX) (I1 uX) R a r1) (p2 : MEr (I1 v2 0).toInt (I1 uY) (I2 uY) U a r2) (hs : ARr (I0 v2 0).toInt (I0 uX) (I0 uY)) : ARr (I2 v2 0).toInt (I2 uX) (I2 uY) := by
  rw [eY, e1] at p2
  rw [eX, e2, e1]
  rw [en] at p1
  exact MEr_st rfl p1 p2 hs
theorem st_mendsA {I0 I1 I2 : jI} {uF v2 uX uY uR vR : Nat} {a r1 r2 : Int32} (en : (I0 uF 9).toInt = (I0 v2 0).toInt) (eY : I1 uY = I0 uY) (eR : I1 vR = I0 vR) (e1 : I1 v2 0 = I0 v2 0) (p1 : MEr (I0 uF 9).toInt (I0 uX) (I1 uX) (I0 uR) a r1) (p2 : MEr (I1 v2 0).toInt (I1 uY) (I2 uY) (I1 vR) a r2) (hs : ARr (I0 v2 0).toInt (I0 uX) (I0 uY)) (hr : ARr (I0 v2 0).toInt (I0 uR) (I0 vR)) : r1.toInt = r2.toInt := by
  rw [eY, e1, eR] at p2
  rw [en] at p1
  exact MEr_eq rfl p1 p2 hs hr
theorem ARr_same {n m : Int} {S S' T T' : Nat → Int32} (e1 : S' = S) (e2 : T' = T) (e : m = n) (h : ARr n S T) : ARr m S' T' := by
  rw [e1, e2, e]; exact h
/-- stairs: a row of numbers of STEPS -/
theorem st_stairs {Z Z2 : jZ} {I0 I1 I2 : jI} {uB uT uM uF v2 uX uY j : Nat} {r1 r2 : Int} {sB sM : Int} (hj : j < 4) (hX : jr Z uF j = some uX) (er : r1 = r2) (ec : cT (I0 uB) sB = cT (I1 uM) sM) (eX : I2 uX = I1 uX) (eY : I1 uY = I0 uY) (en : (I0 uF 9).toInt = (I0 v2 0).toInt) (e1 : I1 v2 0 = I0 v2 0)
    (q1 : (0 ≤ r1 → CF (cT (I0 uB) sB) Z I1 uF r1) ∧ (r1 < 0 → ∀ j u, j < 4 → jr Z uF j = some u → I1 u = I0 u)) (q2 : (0 ≤ r2 → ∀ s : Nat, (s : Int) < r2 → (I2 uY s).toInt = cT (I1 uM) sM j s) ∧ (r2 < 0 → I2 uY = I1 uY)) (q3 : (0 ≤ r2 → (I2 v2 0).toInt = r2) ∧ (r2 < 0 → (I2 v2 0).toInt = (I1 v2 0).toInt)) (hs : ARr (I0 v2 0).toInt (I0 uX) (I0 uY)) : ARr (I2 v2 0).toInt (I2 uX) (I2 uY) := by
  subst er
  by_cases c : 0 ≤ r1
  · intro s hs2
    rw [q3.1 c] at hs2
    refine (i_eq rfl rfl).mpr ?_
    rw [eX, q1.1 c j uX hj hX s hs2, q2.1 c s hs2, ec]
  · have c' : r1 < 0 := by omega
    rw [q3.2 c', e1, eX, q1.2 c' j uX hj hX, q2.2 c', eY]
    exact hs
theorem KC_stairs {Z Z2 : jZ} {I0 I1 I2 : jI} {uS v2 u62 : Nat} {r1 r2 : Int} {n m : Int} (f1 : FR Ws_X11_stairs Z I0 Z I1) (f2 : FR Ws_X12_stairs Z I1 Z2 I2) (sh : SH Z) (kS : jk Z uS 17) (lS : jlen Z uS = 2) (k2 : jk Z v2 12) (h62 : jr Z v2 62 = some u62) (k62 : jk Z u62 14) (er : r1 = r2)
    (p1 : (r1 < 0 → ∀ b, jk Z b 2 → I1 b 8 = I0 b 8) ∧ (0 ≤ r1 → ∀ i b, i < 2 → jr Z uS i = some b → I1 b 8 = 0)) (em : r2 < 0 → m = n) (h : KC Z I0 uS u62 n) : KC Z2 I2 uS u62 m := by
  intro i b a hi hb hh ha s hs
  rw [f2.2.1 uS 17 i kS (by omega) (by omega)] at hb
  obtain ⟨y, ey, kb⟩ := sh.2.2.1 uS kS i (by rw [lS]; exact hi)
  cases hb.symm.trans ey
  rw [f2.2.1 b 2 0 kb (by omega) (by omega)] at ha
  obtain ⟨x, ex, ka, -⟩ := sh_f sh kb (j := 0) (k := 14) (m := 24) rfl
  cases ha.symm.trans ex
  rw [f2.2.2.1 b 2 8 kb (by decide) (by decide)] at hh
  by_cases c : 0 ≤ r1
  · exact absurd (p1.2 c i b hi hb) hh
  · rw [p1.1 (by omega) b kb] at hh
    rw [f2.2.2.2 b 2 0 a kb ha (by rw [ka.2]; rfl) rfl (by decide), f1.2.2.2 b 2 0 a kb ha (by rw [ka.2]; rfl) rfl (by decide), f2.2.2.2 v2 12 62 u62 k2 h62 (by rw [k62.2]; rfl) rfl (by decide), f1.2.2.2 v2 12 62 u62 k2 h62 (by rw [k62.2]; rfl) rfl (by decide)]
    exact h i b a hi hb hh ha s (by have := em (by omega); omega)
theorem KC_keep {Z : jZ} {I0 I1 I2 : jI} {v1 v2 uS uF uX uY u62 uK uC : Nat} {v : Int32} {r1 r2 n m : Int} (w : WD Z I0) (f1 : FR Ws_X11_keep Z I0 Z I1) (f2 : FR Ws_X12_keep Z I1 Z I2) (k1 : jk Z v1 11) (kS : jk Z uS 17) (lS : jlen Z uS = 2) (k2 : jk Z v2 12) (h62 : jr Z v2 62 = some u62) (k62 : jk Z u62 14) (hF : jr Z v1 2 = some uF) (kF : jk Z uF 8) (hX : jr Z uF 1 = some uX) (hY : jr Z v2 2 = some uY) (kY : jk Z uY 14) (n24 : n ≤ 24) (em : m = n)
    (p1 : KP11 Z uS v r1 I0 I1) (q1 : KBC Z v1 uS v r1 I0 I1) (p2 : KP12 v2 uK uC v r2 I1 I2) (q2 : KPM Z v2 v r2 I1 I2) (hs : ARr n (I0 uX) (I0 uY)) (h : KC Z I0 uS u62 n) : KC Z I2 uS u62 m := by
  intro i b a hi hb hh ha s hs2
  rw [em] at hs2
  obtain ⟨y, ey, kb⟩ := w.1.2.2.1 uS kS i (by rw [lS]; exact hi)
  cases hb.symm.trans ey
  obtain ⟨x, ex, ka, -⟩ := sh_f w.1 kb (j := 0) (k := 14) (m := 24) rfl
  cases ha.symm.trans ex
  obtain ⟨a1, ha1, -⟩ := sh_f w.1 kb (j := 1) (k := 14) (m := 24) rfl
  obtain ⟨a2, ha2, -⟩ := sh_f w.1 kb (j := 2) (k := 14) (m := 192) rfl
  obtain ⟨a3, ha3, -⟩ := sh_f w.1 kb (j := 3) (k := 14) (m := 8) rfl
  obtain ⟨uP, hP, kP⟩ := sh_o w.1 kF (j := 4) (k := 4) rfl
  obtain ⟨x0, hx0, -⟩ := sh_f w.1 kP (j := 0) (k := 14) (m := 192) rfl
  obtain ⟨x2, hx2, -⟩ := sh_f w.1 kF (j := 2) (k := 14) (m := 24) rfl
  obtain ⟨x5, hx5, -⟩ := sh_f w.1 k1 (j := 5) (k := 14) (m := 8) rfl
  have g1 := q1 uF uP x0 uX x2 x5 hF hP hx0 hX hx2 hx5 i b a a1 a2 a3 hi hb ha ha1 ha2 ha3
  obtain ⟨u65, h65, -⟩ := sh_f w.1 k2 (j := 65) (k := 14) (m := 2) rfl
  obtain ⟨u3, h3, -⟩ := sh_f w.1 k2 (j := 3) (k := 14) (m := 24) rfl
  obtain ⟨u5, h5, -⟩ := sh_f w.1 k2 (j := 5) (k := 14) (m := 192) rfl
  obtain ⟨u14, h14, -⟩ := sh_f w.1 k2 (j := 14) (k := 14) (m := 6) rfl
  obtain ⟨u15, h15, -⟩ := sh_f w.1 k2 (j := 15) (k := 14) (m := 6) rfl
  obtain ⟨u16, h16, -⟩ := sh_f w.1 k2 (j := 16) (k := 14) (m := 6) rfl
  obtain ⟨u17, h17, -⟩ := sh_f w.1 k2 (j := 17) (k := 14) (m := 8) rfl
  have g2 := q2 u62 u65 uY u3 u5 u14 u15 u16 u17 h62 h65 hY h3 h5 h14 h15 h16 h17
  have eY : I1 uY = I0 uY := f1.2.2.2 v2 12 2 uY k2 hY (by rw [kY.2]; rfl) rfl (by decide)
  have eK : I1 u62 = I0 u62 := f1.2.2.2 v2 12 62 u62 k2 h62 (by rw [k62.2]; rfl) rfl (by decide)
  have ea : I2 a = I1 a := f2.2.2.2 b 2 0 a kb ha (by rw [ka.2]; rfl) rfl (by decide)
  rw [f2.2.2.1 b 2 8 kb (by decide) (by decide)] at hh
  rw [ea]
  rcases p1 with ⟨hr, hv, z1⟩ | ⟨hr, hv, z1⟩
  · have hr2 : r2 = 1 := by
      rcases p2 with ⟨h9, -⟩ | ⟨-, h9, -⟩
      · exact h9
      · exact absurd hv h9
    obtain ⟨k1', k2', -, -⟩ := g2.1 hr2
    have n1 := i_nat (x := v) rfl hv.1
    by_cases c : i = v.toNatClampNeg
    · rw [(g1.1 ⟨hr, c⟩).1 s (by omega), c, k1' (2 * s) (by omega), kS_st (by omega), eY]
      exact hs s hs2
    · rw [(z1 i b hi hb).2 c] at hh
      rw [(g1.2 (fun q => c q.2)).1, k2' (266 * i + 2 * s) (by omega), eK]
      exact h i b a hi hb hh ha s hs2
  · have hr2 : r2 = 0 := by
      rcases p2 with ⟨-, h9, -⟩ | ⟨h9, -⟩
      · exact absurd h9 hv
      · exact h9
    rw [z1 b kb] at hh
    rw [(g1.2 (fun q => by omega)).1, (g2.2 hr2).1, eK]
    exact h i b a hi hb hh ha s hs2
theorem st_again {Z : jZ} {I0 I1 I2 : jI} {v1 v2 uS uF uX uY u62 uK uC : Nat} {v : Int32} {r1 r2 n m : Int} (w : WD Z I0) (f1 : FR Ws_X11_again Z I0 Z I1) (f2 : FR Ws_X12_again Z I1 Z I2) (k1 : jk Z v1 11) (kS : jk Z uS 17) (lS : jlen Z uS = 2) (k2 : jk Z v2 12) (h62 : jr Z v2 62 = some u62) (k62 : jk Z u62 14) (hF : jr Z v1 2 = some uF) (kF : jk Z uF 8) (hX : jr Z uF 1 = some uX) (kX : jk Z uX 14) (hY : jr Z v2 2 = some uY) (kY : jk Z uY 14) (n24 : n ≤ 24) (em : m = n) (er : r1 = r2)
    (p1 : YN r1 (AG11 Z I0 uS v)) (q1 : AGC Z v1 uS v r1 I0 I1) (q2 : AGM Z v2 v r2 I1 I2) (hs : ARr n (I0 uX) (I0 uY)) (h : KC Z I0 uS u62 n) : ARr m (I2 uX) (I2 uY) := by
  subst er
  obtain ⟨uP, hP, kP⟩ := sh_o w.1 kF (j := 4) (k := 4) rfl
  obtain ⟨x0, hx0, -⟩ := sh_f w.1 kP (j := 0) (k := 14) (m := 192) rfl
  obtain ⟨x2, hx2, -⟩ := sh_f w.1 kF (j := 2) (k := 14) (m := 24) rfl
  obtain ⟨x5, hx5, -⟩ := sh_f w.1 k1 (j := 5) (k := 14) (m := 8) rfl
  have g1 := q1 uF uP x0 uX x2 x5 hF hP hx0 hX hx2 hx5
  obtain ⟨u3, h3, -⟩ := sh_f w.1 k2 (j := 3) (k := 14) (m := 24) rfl
  obtain ⟨u5, h5, -⟩ := sh_f w.1 k2 (j := 5) (k := 14) (m := 192) rfl
  have g2 := q2 u62 uY u3 u5 h62 hY h3 h5
  have eX : I2 uX = I1 uX := f2.2.2.2 uF 8 1 uX kF hX (by rw [kX.2]; rfl) rfl (by decide)
  have eK : I1 u62 = I0 u62 := f1.2.2.2 v2 12 62 u62 k2 h62 (by rw [k62.2]; rfl) rfl (by decide)
  intro s hs2
  rw [em] at hs2
  rw [eX]
  rcases p1 with ⟨hr, hv, b, hb, hh⟩ | ⟨hr, -⟩
  · have n1 := i_nat (x := v) rfl hv.1
    obtain ⟨y, ey, kb⟩ := w.1.2.2.1 uS kS v.toNatClampNeg (by rw [lS]; omega)
    cases hb.symm.trans ey
    obtain ⟨a0, ha0, -⟩ := sh_f w.1 kb (j := 0) (k := 14) (m := 24) rfl
    obtain ⟨a1, ha1, -⟩ := sh_f w.1 kb (j := 1) (k := 14) (m := 24) rfl
    obtain ⟨a2, ha2, -⟩ := sh_f w.1 kb (j := 2) (k := 14) (m := 192) rfl
    obtain ⟨a3, ha3, -⟩ := sh_f w.1 kb (j := 3) (k := 14) (m := 8) rfl
    rw [(g1.1 hr b a0 a1 a2 a3 hb ha0 ha1 ha2 ha3).1 s (by omega), (g2.1 hr).1 s (by omega), eK]
    exact h v.toNatClampNeg b a0 (by omega) hb hh ha0 s hs2
  · have z := g1.2 hr
    rw [(g2.2 hr).1, z]
    exact hs s hs2
theorem MF_at {cc : Nat → Nat → Int} {Z : jZ} {I : jI} {v0 : Nat} {n : Int} (sh : SH Z) (k : jk Z v0 12) (h : MF cc Z I v0 n) {u1 u2 u3 u4 : Nat} (h1 : jr Z v0 1 = some u1) (h2 : jr Z v0 2 = some u2) (h3 : jr Z v0 3 = some u3) (h4 : jr Z v0 4 = some u4) (s : Nat) (hs : (s : Int) < n) : (I u1 s).toInt = cc 0 s ∧ (I u2 s).toInt = cc 1 s ∧ (I u3 s).toInt = cc 2 s ∧ (I u4 s).toInt = cc 3 s := by
  obtain ⟨u5, h5, -⟩ := sh_f sh k (j := 5) (k := 14) (m := 192) rfl
  obtain ⟨a, b, c, d, -⟩ := h u1 u2 u3 u4 u5 h1 h2 h3 h4 h5 s (by omega)
  exact ⟨a, b, c, d⟩
theorem MF_st {cc : Nat → Nat → Int} {Z : jZ} {I : jI} {v0 uY : Nat} {n : Int} (sh : SH Z) (k : jk Z v0 12) (hY : jr Z v0 2 = some uY) (h : MF cc Z I v0 n) (s : Nat) (hs : (s : Int) < n) : (I uY s).toInt = cc 1 s := by
  obtain ⟨u1, h1, -⟩ := sh_f sh k (j := 1) (k := 14) (m := 24) rfl
  obtain ⟨u3, h3, -⟩ := sh_f sh k (j := 3) (k := 14) (m := 24) rfl
  obtain ⟨u4, h4, -⟩ := sh_f sh k (j := 4) (k := 16) (m := 24) rfl
  exact (MF_at sh k h h1 hY h3 h4 s hs).2.1
theorem MF_ri {cc : Nat → Nat → Int} {Z : jZ} {I : jI} {v0 uY : Nat} {n : Int} (sh : SH Z) (k : jk Z v0 12) (hY : jr Z v0 1 = some uY) (h : MF cc Z I v0 n) (s : Nat) (hs : (s : Int) < n) : (I uY s).toInt = cc 0 s := by
  obtain ⟨u2, h2, -⟩ := sh_f sh k (j := 2) (k := 14) (m := 24) rfl
  obtain ⟨u3, h3, -⟩ := sh_f sh k (j := 3) (k := 14) (m := 24) rfl
  obtain ⟨u4, h4, -⟩ := sh_f sh k (j := 4) (k := 16) (m := 24) rfl
  exact (MF_at sh k h hY h2 h3 h4 s hs).1
end
section
/-! ===== PARTS of the class: what a sale, a death and undo do ===== -/
/-- n parts from a to b -/
def mvP (P : Nat → Int32) (a b : Nat) (n : Int32) : Nat → Int32 := upd (upd P a (P a - n)) b (upd P a (P a - n) b + n)
theorem s15_X4_move {Z : jZ} {I : jI} {L : jL} (w : WD Z I) (v0 : Nat) (v1 v2 v3 v4 : Int32) (kv0 : jk Z v0 4) (x0 : Nat) (h0 : jr Z v0 0 = some x0) (s f t : Nat) (e1 : v1.toInt = (s : Int)) (e2 : v2.toInt = (f : Int)) (e3 : v3.toInt = (t : Int)) (hs : s < 24) (hf : f < 8) (ht : t < 8) {Q : jI → jL → Prop} (hQ : ∀ (I' : jI) (L' : jL), WD Z I' → FR Ws_X4_move Z I Z I' → I' x0 = mvP (I x0) (8 * s + f) (8 * s + t) v4 → Q I' L') : f_X4_move v0 v1 v2 v3 v4 Z I L Q := by
  obtain ⟨x, ex, k0, l0⟩ := sh_f w.1 kv0 (j := 0) (k := 14) (m := 192) rfl
  cases h0.symm.trans ex
  have z0 : (0 : Int32).toInt = 0 := rfl
  have z24 : (24 : Int32).toInt = 24 := rfl
  have a2 : ((v1 * (8 : Int32)) + v2).toInt = 8 * (s : Int) + (f : Int) := (i_add (i_mul e1 (show (8 : Int32).toInt = 8 from rfl) (by omega) (by omega)) e2 (by omega) (by omega)).trans (by omega)
  have a3 : ((v1 * (8 : Int32)) + v3).toInt = 8 * (s : Int) + (t : Int) := (i_add (i_mul e1 (show (8 : Int32).toInt = 8 from rfl) (by omega) (by omega)) e3 (by omega) (by omega)).trans (by omega)
  have n2 := i_nat a2 (by omega)
  have n2 : ((v1 * (8 : Int32)) + v2).toNatClampNeg = 8 * s + f := by omega
  have n3 := i_nat a3 (by omega)
  have n3 : ((v1 * (8 : Int32)) + v3).toNatClampNeg = 8 * s + t := by omega
  unfold f_X4_move
  refine ⟨fun c => ?_, fun c => ⟨fun c2 => ?_, fun c2 => ?_⟩⟩
  · have c := (i_lt e1 z0).mp c
    omega
  · have c2 := (i_le z24 e1).mp c2
    omega
  refine s_X11_isFamily w v2 (fun r p => ⟨fun c3 => ?_, fun c3 => ?_⟩)
  · have c3 := yz c3
    omega
  refine s_X11_isFamily w v3 (fun r' p' => ⟨fun c4 => ?_, fun c4 => ?_⟩)
  · have c4 := yz c4
    omega
  intro b19 e19
  cases h0.symm.trans e19
  refine ⟨vi_of a2 (by omega) (by omega), vi_of a2 (by omega) (by omega), ?_⟩
  intro I22 e22
  have w22 : WD Z I22 := by rw [e22]; exact WD_putA w 4 0 kv0 h0 k0 rfl rfl (by decide) trivial
  have f22 : FR Ws_X4_move Z I Z I22 := by rw [e22]; exact FR_upA w.2.1 kv0 h0 k0 rfl rfl (by decide)
  have y22 : I22 x0 = upd (I x0) (8 * s + f) (I x0 (8 * s + f) - v4) := by rw [e22, n2]; exact va_up_self _ _ _
  intro b23 e23
  cases h0.symm.trans e23
  refine ⟨vi_of a3 (by omega) (by omega), vi_of a3 (by omega) (by omega), ?_⟩
  intro I26 e26
  have w26 : WD Z I26 := by rw [e26]; exact WD_putA w22 4 0 kv0 h0 k0 rfl rfl (by decide) trivial
  have f26 : FR Ws_X4_move Z I Z I26 := f22.trans w.1 w.2.1 (by rw [e26]; exact FR_upA w22.2.1 kv0 h0 k0 rfl rfl (by decide))
  have y26 : I26 x0 = mvP (I x0) (8 * s + f) (8 * s + t) v4 := by
    rw [e26, n3]
    refine (va_up_self _ _ _).trans ?_
    rw [y22]
    rfl
  refine s_X4_findMain w26 v0 v1 kv0 (by omega) (fun I29 L29 w29 f29 => ?_)
  refine hQ I29 L29 w29 (f26.trans w.1 w.2.1 (f29.mono (by decide))) ?_
  rw [f29.2.2.2 v0 4 0 x0 kv0 h0 (by rw [k0.2]; rfl) rfl (by decide)]
  exact y26
theorem s15_X4_shareOf {Z : jZ} {I : jI} {L : jL} (w : WD Z I) (v0 : Nat) (v1 v2 : Int32) (kv0 : jk Z v0 4) (x0 : Nat) (h0 : jr Z v0 0 = some x0) (s f : Nat) (e1 : v1.toInt = (s : Int)) (e2 : v2.toInt = (f : Int)) (hs : s < 24) (hf : f < 8) {Q : Int32 → jI → jL → Prop} (hQ : Q (I x0 (8 * s + f)) I L) : f_X4_shareOf v0 v1 v2 Z I L Q := by
  have z0 : (0 : Int32).toInt = 0 := rfl
  have z24 : (24 : Int32).toInt = 24 := rfl
  have a2 : ((v1 * (8 : Int32)) + v2).toInt = 8 * (s : Int) + (f : Int) := (i_add (i_mul e1 (show (8 : Int32).toInt = 8 from rfl) (by omega) (by omega)) e2 (by omega) (by omega)).trans (by omega)
  have n2 := i_nat a2 (by omega)
  have n2 : ((v1 * (8 : Int32)) + v2).toNatClampNeg = 8 * s + f := by omega
  unfold f_X4_shareOf
  refine ⟨fun c => ?_, fun c => ⟨fun c2 => ?_, fun c2 => ?_⟩⟩
  · have c := (i_lt e1 z0).mp c
    omega
  · have c2 := (i_le z24 e1).mp c2
    omega
  refine s_X11_isFamily w v2 (fun r p => ⟨fun c3 => ?_, fun c3 => ?_⟩)
  · have c3 := yz c3
    omega
  intro b11 e11
  cases h0.symm.trans e11
  refine ⟨vi_of a2 (by omega) (by omega), ?_⟩
  rw [n2]
  exact hQ
/-- what was ahead of the latest sales: m of them, H k q the k-th -/
def reM (m : Nat) : Nat := if m = 8 then 8 else m + 1
def reH (m : Nat) (H : Nat → Nat → Int32) (P : Nat → Int32) : Nat → Nat → Int32 := fun k q => if k = reM m - 1 then P q else if m = 8 then H (k + 1) q else H k q
/-- the class's -/
def HC (I : jI) (v0 x2 : Nat) (o : Int) : Nat → Nat → Int32 := fun k q => I x2 (192 * ((o.toNat + k) % 8) + q)
theorem cpy_at {g f : Nat → Int32} {b n q : Nat} (h1 : b ≤ q) (h2 : q < b + n) : va_cpy g f 0 b n q = g (q - b) := by
  unfold va_cpy
  rw [if_pos ⟨h1, h2⟩]
  congr 1
  omega
theorem cpy_off {g f : Nat → Int32} {a b n q : Nat} (h : ¬ (b ≤ q ∧ q < b + n)) : va_cpy g f a b n q = f q := by
  unfold va_cpy
  rw [if_neg h]
theorem cpy_to {g f : Nat → Int32} {a n q : Nat} (h : q < n) : va_cpy g f a 0 n q = g (a + q) := by
  unfold va_cpy
  rw [if_pos (by omega)]
  congr 1
theorem i_rem8 {x : Int32} {A : Int} (hx : x.toInt = A) (h0 : 0 ≤ A) : (x - x / (8 : Int32) * (8 : Int32)).toInt = A % 8 := i_rem hx (show (8 : Int32).toInt = 8 from rfl) h0 (by omega)
theorem s15_X4_remember {Z : jZ} {I : jI} {L : jL} (w : WD Z I) (v0 : Nat) (kv0 : jk Z v0 4) (x0 : Nat) (h0 : jr Z v0 0 = some x0) (x2 : Nat) (h2 : jr Z v0 2 = some x2) {Q : jI → jL → Prop} (hQ : ∀ (I' : jI) (L' : jL), WD Z I' → FR Ws_X4_remember Z I Z I' → (I' v0 4).toInt = (reM (I v0 4).toInt.toNat : Int) → (∀ k q, k < reM (I v0 4).toInt.toNat → q < 192 → HC I' v0 x2 (I' v0 3).toInt k q = reH (I v0 4).toInt.toNat (HC I v0 x2 (I v0 3).toInt) (I x0) k q) → Q I' L') : f_X4_remember v0 Z I L Q := by
  obtain ⟨x, ex, k0, l0⟩ := sh_f w.1 kv0 (j := 0) (k := 14) (m := 192) rfl
  cases h0.symm.trans ex
  obtain ⟨x, ex, k2, l2⟩ := sh_f w.1 kv0 (j := 2) (k := 14) (m := 1536) rfl
  cases h2.symm.trans ex
  have t4 : 0 ≤ (I v0 4).toInt ∧ (I v0 4).toInt ≤ 8 := w.fld 4 4 kv0 (by decide)
  have t3 : 0 ≤ (I v0 3).toInt ∧ (I v0 3).toInt ≤ 7 := w.fld 4 3 kv0 (by decide)
  have n20 : x2 ≠ v0 := ks_ne k2 kv0 (by decide)
  have n00 : x0 ≠ v0 := ks_ne k0 kv0 (by decide)
  have z1 : (1 : Int32).toInt = 1 := rfl
  have key : ∀ (J : jI) (o m : Int), WD Z J → FR Ws_X4_remember Z I Z J → J x0 = I x0 → J x2 = I x2 → (J v0 3).toInt = o → (J v0 4).toInt = m → 0 ≤ o → o ≤ 7 → 0 ≤ m → m ≤ 7 → (∀ k q, k < m.toNat → q < 192 → HC J v0 x2 o k q = (if (I v0 4).toInt.toNat = 8 then HC I v0 x2 (I v0 3).toInt (k + 1) q else HC I v0 x2 (I v0 3).toInt k q)) → reM (I v0 4).toInt.toNat = m.toNat + 1 → f_X4_remember_b32 Z Q v0 J L := by
    intro J o m wJ fJ y0 y2 e3 e4 ho0 ho7 hm0 hm7 hk hr
    have e34 : ((J v0 3) + (J v0 4)).toInt = o + m := i_add e3 e4 (by omega) (by omega)
    unfold f_X4_remember_b32
    intro x1 ex1
    have t1 : x1.toInt = (o + m) % 8 := by rw [ex1]; exact i_rem8 e34 (by omega)
    have tm : (x1 * (192 : Int32)).toInt = (o + m) % 8 * 192 := i_mul t1 (show (192 : Int32).toInt = 192 from rfl) (by omega) (by omega)
    have nm := i_nat tm (by omega)
    obtain ⟨sl, hsl⟩ : ∃ sl : Nat, (sl : Int) = (o + m) % 8 := ⟨((o + m) % 8).toNat, by omega⟩
    have nm : (x1 * (192 : Int32)).toNatClampNeg = 192 * sl := by omega
    intro b2 e2
    cases h0.symm.trans e2
    intro b3 e3'
    cases h2.symm.trans e3'
    refine ⟨⟨by decide, (not_congr (i_lt tm (show (0 : Int32).toInt = 0 from rfl))).mpr (by omega), by decide, by decide, by rw [nm, show (192 : Int32).toNatClampNeg = 192 from rfl]; omega⟩, ?_⟩
    intro I5 e5 I6 e6
    rw [nm, show (0 : Int32).toNatClampNeg = 0 from rfl, show (192 : Int32).toNatClampNeg = 192 from rfl] at e5
    have w5 : WD Z I5 := by rw [e5]; exact WD_cpy wJ 4 2 kv0 h2 k2 rfl rfl (by decide) (fun _ _ _ => trivial)
    have f5 : FR Ws_X4_remember Z I Z I5 := fJ.trans w.1 w.2.1 (by rw [e5]; exact FR_upA wJ.2.1 kv0 h2 k2 rfl rfl (by decide))
    have g4 : I5 v0 = J v0 := by rw [e5]; exact va_up_ne _ _ (fun e => n20 e.symm)
    have t6 : (I6 v0 4).toInt = m + 1 := by rw [e6, jpI_at, g4]; exact i_add e4 z1 (by omega) (by omega)
    have w6 : WD Z I6 := by rw [e6]; exact WD_putF w5 4 4 kv0 (by decide) (by decide) (show rg 0 8 _ by rw [g4]; constructor <;> rw [i_add e4 z1 (by omega) (by omega)] <;> omega)
    have f6 : FR Ws_X4_remember Z I Z I6 := f5.trans w.1 w.2.1 (by rw [e6]; exact FR_putF kv0 (by decide) (by decide))
    have y3 : (I6 v0 3).toInt = o := by rw [e6, jpI_o (by decide), g4]; exact e3
    have yx : I6 x2 = va_cpy (J x0) (J x2) 0 (192 * sl) 192 := by rw [e6, jpI_ne n20, e5]; exact va_up_self _ _ _
    refine hQ I6 L w6 f6 (by rw [t6, hr]; omega) (fun k q hk2 hq => ?_)
    rw [hr] at hk2
    rw [y3]
    unfold HC reH
    rw [yx]
    by_cases c : k = m.toNat
    · rw [if_pos (by omega), cpy_at (by omega) (by omega), y0]
      congr 1
      omega
    · rw [if_neg (by omega), cpy_off (by omega)]
      have := hk k q (by omega) hq
      unfold HC at this
      exact this
  unfold f_X4_remember
  refine ⟨fun c => ?_, fun c => ?_⟩
  · have c := (not_congr (i_eq (x := I v0 4) (y := 8) rfl (show (8 : Int32).toInt = 8 from rfl))).mp c
    refine key I (I v0 3).toInt (I v0 4).toInt w FR.rf rfl rfl rfl rfl t3.1 t3.2 t4.1 (by omega) (fun k q _ _ => by rw [if_neg (by omega)]) ?_
    unfold reM
    rw [if_neg (by omega)]
  · have c := (i_eq (x := I v0 4) (y := 8) rfl (show (8 : Int32).toInt = 8 from rfl)).mp c
    intro I8 e8 I9 e9
    have t31 : ((I v0 3) + (1 : Int32)).toInt = (I v0 3).toInt + 1 := i_add rfl z1 (by omega) (by omega)
    have t8 := i_rem8 t31 (by omega)
    have w8 : WD Z I8 := by rw [e8]; exact WD_putF w 4 3 kv0 (by decide) (by decide) (show rg 0 7 _ from ⟨by rw [t8]; omega, by rw [t8]; omega⟩)
    have f8 : FR Ws_X4_remember Z I Z I8 := by rw [e8]; exact FR_putF kv0 (by decide) (by decide)
    have g4 : (I8 v0 4).toInt = 8 := by rw [e8, jpI_o (by decide)]; exact c
    have t9 : ((I8 v0 4) - (1 : Int32)).toInt = 7 := i_sub g4 z1 (by omega) (by omega)
    have w9 : WD Z I9 := by rw [e9]; exact WD_putF w8 4 4 kv0 (by decide) (by decide) (show rg 0 8 _ from ⟨by rw [t9]; omega, by rw [t9]; omega⟩)
    have f9 : FR Ws_X4_remember Z I Z I9 := f8.trans w.1 w.2.1 (by rw [e9]; exact FR_putF kv0 (by decide) (by decide))
    refine key I9 (((I v0 3).toInt + 1) % 8) 7 w9 f9 ?_ ?_ ?_ ?_ (by omega) (by omega) (by omega) (by omega) (fun k q hk hq => ?_) ?_
    · rw [e9, jpI_ne n00, e8, jpI_ne n00]
    · rw [e9, jpI_ne n20, e8, jpI_ne n20]
    · rw [e9, jpI_o (by decide), e8, jpI_at]; exact t8
    · rw [e9, jpI_at]; exact t9
    · rw [if_pos (by omega)]
      unfold HC
      rw [e9, jpI_ne n20, e8, jpI_ne n20]
      congr 1
      omega
    · unfold reM
      rw [if_pos (by omega)]
      rfl
theorem s15_X4_takeBack {Z : jZ} {I : jI} {L : jL} (w : WD Z I) (v0 : Nat) (kv0 : jk Z v0 4) (x0 : Nat) (h0 : jr Z v0 0 = some x0) (x2 : Nat) (h2 : jr Z v0 2 = some x2) {Q : Int32 → jI → jL → Prop} (hQ : ∀ (r : Int32) (I' : jI) (L' : jL), WD Z I' → FR Ws_X4_takeBack Z I Z I' → ((r = 0 ∧ (I v0 4).toInt = 0 ∧ I' = I) ∨ (r = 1 ∧ 1 ≤ (I v0 4).toInt ∧ (I' v0 4).toInt = (I v0 4).toInt - 1 ∧ ∀ q, q < 192 → I' x0 q = HC I v0 x2 (I v0 3).toInt ((I v0 4).toInt.toNat - 1) q)) → Q r I' L') : f_X4_takeBack v0 Z I L Q := by
  obtain ⟨x, ex, k0, l0⟩ := sh_f w.1 kv0 (j := 0) (k := 14) (m := 192) rfl
  cases h0.symm.trans ex
  obtain ⟨x, ex, k2, l2⟩ := sh_f w.1 kv0 (j := 2) (k := 14) (m := 1536) rfl
  cases h2.symm.trans ex
  have t4 : 0 ≤ (I v0 4).toInt ∧ (I v0 4).toInt ≤ 8 := w.fld 4 4 kv0 (by decide)
  have t3 : 0 ≤ (I v0 3).toInt ∧ (I v0 3).toInt ≤ 7 := w.fld 4 3 kv0 (by decide)
  have n20 : x2 ≠ v0 := ks_ne k2 kv0 (by decide)
  have z1 : (1 : Int32).toInt = 1 := rfl
  unfold f_X4_takeBack
  refine ⟨fun c => ?_, fun c => hQ _ I L w FR.rf (Or.inl ⟨rfl, yz c, rfl⟩)⟩
  have c := nz c
  intro I2 e2
  have t2 : ((I v0 4) - (1 : Int32)).toInt = (I v0 4).toInt - 1 := i_sub rfl z1 (by omega) (by omega)
  have w2 : WD Z I2 := by rw [e2]; exact WD_putF w 4 4 kv0 (by decide) (by decide) (show rg 0 8 _ from ⟨by rw [t2]; omega, by rw [t2]; omega⟩)
  have f2 : FR Ws_X4_takeBack Z I Z I2 := by rw [e2]; exact FR_putF kv0 (by decide) (by decide)
  have g4 : (I2 v0 4).toInt = (I v0 4).toInt - 1 := by rw [e2, jpI_at]; exact t2
  have g3 : (I2 v0 3).toInt = (I v0 3).toInt := by rw [e2, jpI_o (by decide)]
  intro x3 e3
  have t33 : x3.toInt = ((I v0 3).toInt + ((I v0 4).toInt - 1)) % 8 := by rw [e3]; exact i_rem8 (i_add g3 g4 (by omega) (by omega)) (by omega)
  have tm : (x3 * (192 : Int32)).toInt = ((I v0 3).toInt + ((I v0 4).toInt - 1)) % 8 * 192 := i_mul t33 (show (192 : Int32).toInt = 192 from rfl) (by omega) (by omega)
  have nm := i_nat tm (by omega)
  have nm : (x3 * (192 : Int32)).toNatClampNeg = 192 * (((I v0 3).toInt.toNat + ((I v0 4).toInt.toNat - 1)) % 8) := by omega
  intro b4 e4
  cases h2.symm.trans e4
  intro b5 e5
  cases h0.symm.trans e5
  refine ⟨⟨(not_congr (i_lt tm (show (0 : Int32).toInt = 0 from rfl))).mpr (by omega), by decide, by decide, by rw [nm, show (192 : Int32).toNatClampNeg = 192 from rfl]; omega, by decide⟩, ?_⟩
  intro I7 e7
  rw [nm, show (0 : Int32).toNatClampNeg = 0 from rfl, show (192 : Int32).toNatClampNeg = 192 from rfl] at e7
  have w7 : WD Z I7 := by rw [e7]; exact WD_cpy w2 4 0 kv0 h0 k0 rfl rfl (by decide) (fun _ _ _ => trivial)
  have f7 : FR Ws_X4_takeBack Z I Z I7 := f2.trans w.1 w.2.1 (by rw [e7]; exact FR_upA w2.2.1 kv0 h0 k0 rfl rfl (by decide))
  refine s_X4_findMains w7 v0 kv0 (fun I8 L8 w8 f8 => ?_)
  refine hQ _ I8 L8 w8 (f7.trans w.1 w.2.1 (f8.mono (by decide))) (Or.inr ⟨rfl, by omega, ?_, fun q hq => ?_⟩)
  · rw [f8.2.2.1 v0 4 4 kv0 (by decide) (by decide), e7, va_up_ne _ _ (ks_ne kv0 k0 (by decide))]; exact g4
  · rw [f8.2.2.2 v0 4 0 x0 kv0 h0 (by rw [k0.2]; rfl) rfl (by decide), e7, va_up_self, cpy_to hq, e2, jpI_ne n20]
    rfl
/-- the bit of a FAMILY; how many there are ahead of it -/
def hbt (v : Int32) (k : Nat) : Bool := !decide (((v >>> (Int32.ofNat k &&& 31)) &&& (1 : Int32)) = 0)
theorem hbt_no {v : Int32} {k : Nat} (h : ((v >>> (Int32.ofNat k &&& 31)) &&& (1 : Int32)) = 0) : hbt v k = false := by
  unfold hbt
  rw [decide_eq_true h]
  rfl
theorem hbt_yes {v : Int32} {k : Nat} (h : ¬ ((v >>> (Int32.ofNat k &&& 31)) &&& (1 : Int32)) = 0) : hbt v k = true := by
  unfold hbt
  rw [decide_eq_false h]
  rfl
theorem and1 (x : Int32) : (x &&& (1 : Int32)) = 0 ∨ (x &&& (1 : Int32)) = 1 := by
  have h := i_and (x := x) (n := 1) (by omega)
  have h : 0 ≤ (x &&& (1 : Int32)).toInt ∧ (x &&& (1 : Int32)).toInt < 2 := h
  have h2 : (x &&& (1 : Int32)).toInt = 0 ∨ (x &&& (1 : Int32)).toInt = 1 := by omega
  rcases h2 with h2 | h2
  · exact Or.inl ((i_eq h2 (show (0 : Int32).toInt = 0 from rfl)).mpr rfl)
  · exact Or.inr ((i_eq h2 (show (1 : Int32).toInt = 1 from rfl)).mpr rfl)
def cnt (v : Int32) : Nat → Nat
  | 0 => 0
  | k + 1 => cnt v k + (if hbt v k = true then 1 else 0)
theorem cnt_le (v : Int32) : ∀ k, cnt v k ≤ k := by
  intro k
  induction k with
  | zero => exact Nat.le_refl 0
  | succ k ih =>
    show cnt v k + (if hbt v k = true then 1 else 0) ≤ k + 1
    split <;> omega
/-- what is left one by one to the first ones -/
def od1 (v : Int32) (rem : Int) (k : Nat) : Int32 := if (cnt v k : Int) < rem then 1 else 0
/-- a step's parts come to heirs: the class takes them away one after the other -/
def inhC (v : Int32) (B f : Nat) (q : Int32) (rem : Int) (P : Nat → Int32) : Nat → Nat → Int32
  | 0 => P
  | k + 1 => if hbt v k = true then mvP (inhC v B f q rem P k) (B + f) (B + k) (q + od1 v rem k) else inhC v B f q rem P k
theorem inhC_off {v : Int32} {B f : Nat} {q : Int32} {rem : Int} {P : Nat → Int32} (hf : f < 8) {z : Nat} (hz : z < B ∨ B + 8 ≤ z) : ∀ k, k ≤ 8 → inhC v B f q rem P k z = P z := by
  intro k
  induction k with
  | zero => intro _; rfl
  | succ k ih =>
    intro hk
    show (if hbt v k = true then mvP (inhC v B f q rem P k) (B + f) (B + k) (q + od1 v rem k) else inhC v B f q rem P k) z = P z
    split
    · unfold mvP
      refine (if_neg (by omega) : upd _ (B + k) _ z = _).trans ?_
      refine (if_neg (by omega) : upd _ (B + f) _ z = _).trans ?_
      exact ih (by omega)
    · exact ih (by omega)
theorem in_L30 {Z : jZ} {J : jI} (wJ : WD Z J) (v0 : Nat) (kv0 : jk Z v0 4) (x0 : Nat) (h0 : jr Z v0 0 = some x0) (v1 v2 v3 v4 v5 : Int32) (s f : Nat) (e1 : v1.toInt = (s : Int)) (e2 : v2.toInt = (f : Int)) (hs : s < 24) (hf : f < 8) (h5 : ¬ v5 = 0) (rem : Int) (hrem : -100 ≤ rem ∧ rem ≤ 100000) {Q : jI → jL → Prop}
    (hQ : ∀ (I : jI) (L : jL), WD Z I → FR Ws_X4_move Z J Z I → I x0 = inhC v3 (8 * s) f (v4 / v5) rem (J x0) 8 → Q I L) :
    ∀ (n k : Nat) (v6 v7 : Int32) (I : jI) (L : jL), WD Z I → FR Ws_X4_move Z J Z I → v7.toInt = (k : Int) → k ≤ 8 → v6.toInt = rem - (cnt v3 k : Int) → I x0 = inhC v3 (8 * s) f (v4 / v5) rem (J x0) k → 9 ≤ n + k → f_X4_inherit_L30 Z Q n v0 v1 v2 v3 v4 v5 v6 v7 I L := by
  have z0 : (0 : Int32).toInt = 0 := rfl
  have z1 : (1 : Int32).toInt = 1 := rfl
  intro n
  induction n with
  | zero => intro k v6 v7 I L w fr e7 hk e6 ex hn; exfalso; omega
  | succ n ih =>
    intro k v6 v7 I L w fr e7 hk e6 ex hn
    have hc := cnt_le v3 k
    unfold f_X4_inherit_L30
    refine ⟨fun c => ?_, fun c => ?_⟩
    · have c := (i_le (show (8 : Int32).toInt = 8 from rfl) e7).mp c
      have ek : k = 8 := by omega
      subst ek
      exact hQ I L w fr ex
    have c := (not_congr (i_le (show (8 : Int32).toInt = 8 from rfl) e7)).mp c
    have s7 : v7 = Int32.ofNat k := (i_eq e7 (i_nI (n := k) (by omega))).mpr rfl
    have nx : ∀ x : Int32, x = v7 + 1 → x.toInt = ((k + 1 : Nat) : Int) := fun x e => by rw [e]; exact (i_add e7 z1 (by omega) (by omega)).trans (by omega)
    refine ⟨fun c1 => ?_, fun c1 => ⟨h5, ?_⟩⟩
    · have hb := hbt_no (v := v3) (k := k) (by rw [← s7]; exact c1)
      unfold f_X4_inherit_b73
      intro x1 ex1
      refine ih (k + 1) v6 x1 I L w fr (nx x1 ex1) (by omega) ?_ ?_ (by omega)
      · rw [e6]
        show rem - (cnt v3 k : Int) = rem - ((cnt v3 k + (if hbt v3 k = true then 1 else 0) : Nat) : Int)
        rw [hb, if_neg (by decide)]
        omega
      · rw [ex]
        show _ = (if hbt v3 k = true then _ else _)
        rw [hb, if_neg (by decide)]
    · have hb := hbt_yes (v := v3) (k := k) (by rw [← s7]; exact c1)
      have go : ∀ s5 : Int32, s5 = od1 v3 rem k → f_X4_inherit_b66 (f_X4_inherit_L30 Z Q n) Z Q v0 v1 v2 v3 v4 v5 v6 v7 v0 v1 v2 v7 (v4 / v5) s5 I L := fun s5 hs5 => by
        unfold f_X4_inherit_b66
        refine s15_X4_move w v0 v1 v2 v7 _ kv0 x0 h0 s f k e1 e2 e7 hs hf (by omega) (fun I4 L4 w4 f4 y4 => ?_)
        intro x8 ex8
        unfold f_X4_inherit_b73
        intro x1 ex1
        refine ih (k + 1) x8 x1 I4 L4 w4 (fr.trans wJ.1 wJ.2.1 f4) (nx x1 ex1) (by omega) ?_ ?_ (by omega)
        · rw [ex8]
          show _ = rem - ((cnt v3 k + (if hbt v3 k = true then 1 else 0) : Nat) : Int)
          rw [hb, if_pos rfl]
          exact (i_add e6 (show (-1 : Int32).toInt = -1 from rfl) (by omega) (by omega)).trans (by omega)
        · rw [y4, ex, hs5]
          show _ = (if hbt v3 k = true then _ else _)
          rw [hb, if_pos rfl]
      refine ⟨fun c2 => go 0 ?_, fun c2 => go 1 ?_⟩
      · have c2 := (i_le e6 z0).mp c2
        unfold od1
        rw [if_neg (by omega)]
      · have c2 := (not_congr (i_le e6 z0)).mp c2
        unfold od1
        rw [if_pos (by omega)]
theorem s15_X4_inherit {Z : jZ} {I : jI} {L : jL} (w : WD Z I) (v0 : Nat) (v1 v2 v3 : Int32) (kv0 : jk Z v0 4) (x0 : Nat) (h0 : jr Z v0 0 = some x0) (s f : Nat) (e1 : v1.toInt = (s : Int)) (e2 : v2.toInt = (f : Int)) (hs : s < 24) (hf : f < 8) (h3 : 1 ≤ v3.toInt ∧ v3.toInt ≤ 255) (hb : 0 < (bcV v3).toInt ∧ (bcV v3).toInt ≤ 63) (ho : 0 ≤ (I x0 (8 * s + f)).toInt ∧ (I x0 (8 * s + f)).toInt ≤ 720) {Q : jI → jL → Prop} (hQ : ∀ (I' : jI) (L' : jL), WD Z I' → FR Ws_X4_inherit Z I Z I' → I' x0 = inhC v3 (8 * s) f (I x0 (8 * s + f) / bcV v3) ((I x0 (8 * s + f)).toInt % (bcV v3).toInt) (I x0) 8 → Q I' L') : f_X4_inherit v0 v1 v2 v3 Z I L Q := by
  unfold f_X4_inherit
  refine s15_X4_shareOf w v0 v1 v2 kv0 x0 h0 s f e1 e2 hs hf ?_
  refine s_J6_bitCount_0f7a4 w v3 (fun r26 p26 => ?_)
  obtain ⟨rfl, hne⟩ := p26
  have hn : ¬ bcV v3 = 0 := fun e => hne h3.1 h3.2 (by rw [e]; rfl)
  refine ⟨fun _ => ⟨hn, ?_⟩, fun c => absurd c hn⟩
  intro x29 e29
  have t29 : x29.toInt = (I x0 (8 * s + f)).toInt % (bcV v3).toInt := by rw [e29]; exact i_rem rfl rfl ho.1 hb.1
  have m0 := Int.emod_nonneg (I x0 (8 * s + f)).toInt (show (bcV v3).toInt ≠ 0 by omega)
  have m1 := Int.emod_lt_of_pos (I x0 (8 * s + f)).toInt hb.1
  refine ⟨9, in_L30 w v0 kv0 x0 h0 v1 v2 v3 _ _ s f e1 e2 hs hf hn _ (by omega) (fun I' L' w' f' y' => hQ I' L' w' (f'.mono (by decide)) y') 9 0 x29 0 I L w FR.rf rfl (by omega) ?_ rfl (by omega)⟩
  rw [t29]
  show _ = _ - ((0 : Nat) : Int)
  omega
/-- all STEPS -/
def diC (v : Int32) (f : Nat) (P : Nat → Int32) : Nat → Nat → Int32
  | 0 => P
  | s + 1 => inhC v (8 * s) f (diC v f P s (8 * s + f) / bcV v) ((diC v f P s (8 * s + f)).toInt % (bcV v).toInt) (diC v f P s) 8
theorem diC_off {v : Int32} {f : Nat} {P : Nat → Int32} (hf : f < 8) : ∀ (s z : Nat), 8 * s ≤ z → diC v f P s z = P z := by
  intro s
  induction s with
  | zero => intro z _; rfl
  | succ s ih =>
    intro z hz
    show inhC v (8 * s) f _ _ (diC v f P s) 8 z = P z
    rw [inhC_off hf (by omega) 8 (Nat.le_refl 8)]
    exact ih z (by omega)
theorem so_L4 {Z : jZ} {I : jI} {L : jL} (w : WD Z I) (v0 : Nat) (v1 : Int32) (kv0 : jk Z v0 4) (x0 : Nat) (h0 : jr Z v0 0 = some x0) (f : Nat) (e1 : v1.toInt = (f : Int)) (hf : f < 8) (hb : ∀ s, s < 24 → 0 ≤ (I x0 (8 * s + f)).toInt ∧ (I x0 (8 * s + f)).toInt ≤ 720) {Q : Int32 → jI → jL → Prop} (hQ : ∀ r : Int32, r.toInt = shS (fun s => (I x0 (8 * s + f)).toInt) 24 → Q r I L) :
    ∀ (n s : Nat) (v2 v3 : Int32), v3.toInt = (s : Int) → s ≤ 24 → v2.toInt = shS (fun s => (I x0 (8 * s + f)).toInt) s → 25 ≤ n + s → f_X4_sumOf_L4 Z Q n v0 v1 v2 v3 I L := by
  have hS : ∀ s : Nat, s ≤ 24 → 0 ≤ shS (fun s => (I x0 (8 * s + f)).toInt) s ∧ shS (fun s => (I x0 (8 * s + f)).toInt) s ≤ 720 * (s : Int) := by
    intro s
    induction s with
    | zero => intro _; exact ⟨by show (0 : Int) ≤ 0; omega, by show (0 : Int) ≤ 720 * 0; omega⟩
    | succ s ih =>
      intro hs
      have h1 := ih (by omega)
      have h2 := hb s (by omega)
      show 0 ≤ shS (fun s => (I x0 (8 * s + f)).toInt) s + (I x0 (8 * s + f)).toInt ∧ shS (fun s => (I x0 (8 * s + f)).toInt) s + (I x0 (8 * s + f)).toInt ≤ 720 * ((s + 1 : Nat) : Int)
      omega
  have z1 : (1 : Int32).toInt = 1 := rfl
  intro n
  induction n with
  | zero => intro s v2 v3 e3 hs e2 hn; exfalso; omega
  | succ n ih =>
    intro s v2 v3 e3 hs e2 hn
    unfold f_X4_sumOf_L4
    refine ⟨fun c => ?_, fun c => ?_⟩
    · have c := (i_le (show (24 : Int32).toInt = 24 from rfl) e3).mp c
      have es : s = 24 := by omega
      subst es
      exact hQ v2 e2
    have c := (not_congr (i_le (show (24 : Int32).toInt = 24 from rfl) e3)).mp c
    refine s15_X4_shareOf w v0 v3 v1 kv0 x0 h0 s f e3 e1 (by omega) hf ?_
    intro x9 e9 x10 e10
    have h1 := hS s (by omega)
    have h2 := hb s (by omega)
    refine ih (s + 1) x9 x10 ?_ (by omega) ?_ (by omega)
    · rw [e10]; exact (i_add e3 z1 (by omega) (by omega)).trans (by omega)
    · rw [e9]
      show _ = shS (fun s => (I x0 (8 * s + f)).toInt) s + (I x0 (8 * s + f)).toInt
      exact i_add e2 rfl (by omega) (by omega)
theorem s15_X4_sumOf {Z : jZ} {I : jI} {L : jL} (w : WD Z I) (v0 : Nat) (v1 : Int32) (kv0 : jk Z v0 4) (x0 : Nat) (h0 : jr Z v0 0 = some x0) (f : Nat) (e1 : v1.toInt = (f : Int)) (hf : f < 8) (hb : ∀ s, s < 24 → 0 ≤ (I x0 (8 * s + f)).toInt ∧ (I x0 (8 * s + f)).toInt ≤ 720) {Q : Int32 → jI → jL → Prop} (hQ : ∀ r : Int32, r.toInt = shS (fun s => (I x0 (8 * s + f)).toInt) 24 → Q r I L) : f_X4_sumOf v0 v1 Z I L Q := by
  unfold f_X4_sumOf
  exact ⟨25, so_L4 w v0 v1 kv0 x0 h0 f e1 hf hb hQ 25 0 0 0 rfl (by omega) rfl (by omega)⟩
theorem bc_cnt {v : Int32} (h1 : 1 ≤ v.toInt) (h2 : v.toInt ≤ 255) : (bcV v).toInt = (cnt v 8 : Int) := by
  have key : ∀ k : Fin 256, (bcV (Int32.ofNat k.val)).toInt = (cnt (Int32.ofNat k.val) 8 : Int) := by decide +kernel
  have hn := i_nat (x := v) rfl (by omega)
  have hk : v.toNatClampNeg < 256 := by omega
  have e : v = Int32.ofNat v.toNatClampNeg := (i_eq rfl (i_nI (n := v.toNatClampNeg) (by omega))).mpr (by omega)
  rw [e]
  exact key ⟨v.toNatClampNeg, hk⟩
theorem bc_rg {v : Int32} (h1 : 1 ≤ v.toInt) (h2 : v.toInt ≤ 255) : 0 < (bcV v).toInt ∧ (bcV v).toInt ≤ 63 := by
  have a := bc_cnt h1 h2
  have b := cnt_le v 8
  have c := bc_pos h1 h2
  omega
/-- what becomes of the class's PARTS and of its sales -/
def PSt (I : jI) (uP x0 x2 : Nat) (P : Nat → Int32) (m : Nat) (H : Nat → Nat → Int32) : Prop := I x0 = P ∧ (I uP 4).toInt = (m : Int) ∧ ∀ k q, k < m → q < 192 → HC I uP x2 (I uP 3).toInt k q = H k q
theorem d_L58 {Z : jZ} {J : jI} (wJ : WD Z J) (v0 : Nat) (kv0 : jk Z v0 11) (uF : Nat) (huF : jr Z v0 2 = some uF) (kF : jk Z uF 8) (uP : Nat) (huP : jr Z uF 4 = some uP) (kP : jk Z uP 4) (x0 : Nat) (h0 : jr Z uP 0 = some x0) (v1 v2 v3 : Int32) (f n : Nat) (en : (J uF 9).toInt = (n : Int)) (hn : n ≤ 24) (e1 : v1.toInt = (f : Int)) (hf : f < 8) (h2 : 1 ≤ v2.toInt ∧ v2.toInt ≤ 255) (ho : ∀ s, s < n → 0 ≤ (J x0 (8 * s + f)).toInt ∧ (J x0 (8 * s + f)).toInt ≤ 720) {Q : Int32 → jI → jL → Prop}
    (hQ : ∀ (I : jI) (L : jL), WD Z I → FR Ws_X4_inherit Z J Z I → I x0 = diC v2 f (J x0) n → Q v3 I L) :
    ∀ (m s : Nat) (v4 : Int32) (I : jI) (L : jL), WD Z I → FR Ws_X4_inherit Z J Z I → v4.toInt = (s : Int) → s ≤ n → I x0 = diC v2 f (J x0) s → n + 1 ≤ m + s → f_X11_dies_L58 Z Q m v0 v1 v2 v3 v4 I L := by
  intro m
  induction m with
  | zero => intro s v4 I L w fr e4 hs ex hm; exfalso; omega
  | succ m ih =>
    intro s v4 I L w fr e4 hs ex hm
    have s9 : (I uF 9).toInt = (n : Int) := by rw [fr.2.2.1 uF 8 9 kF (by decide) (by decide)]; exact en
    unfold f_X11_dies_L58
    intro b1 h1
    cases huF.symm.trans h1
    refine ⟨fun c => ?_, fun c => ?_⟩
    · have c := (i_le s9 e4).mp c
      have es : s = n := by omega
      subst es
      exact hQ I L w fr ex
    have c := (not_congr (i_le s9 e4)).mp c
    intro b3 h3
    cases huF.symm.trans h3
    intro b4 h4
    cases huP.symm.trans h4
    have eo : I x0 (8 * s + f) = J x0 (8 * s + f) := by rw [ex]; exact diC_off hf s _ (by omega)
    refine s15_X4_inherit w uP v4 v1 v2 kP x0 h0 s f e4 e1 (by omega) hf h2 (bc_rg h2.1 h2.2) (by rw [eo]; exact ho s (by omega)) (fun I7 L7 w7 f7 y7 => ?_)
    intro x11 e11
    refine ih (s + 1) x11 I7 L7 w7 (fr.trans wJ.1 wJ.2.1 f7) ?_ (by omega) ?_ (by omega)
    · rw [e11]; exact (i_add e4 (show (1 : Int32).toInt = 1 from rfl) (by omega) (by omega)).trans (by omega)
    · rw [y7, ex]; rfl
end
section
/-! ===== parts, sells, dies, undo ===== -/
/-- where PARTS are kept by the class -/
def PCs (Z : jZ) (v0 uF uP x0 x2 : Nat) : Prop := jr Z v0 2 = some uF ∧ jk Z uF 8 ∧ jr Z uF 4 = some uP ∧ jk Z uP 4 ∧ jr Z uP 0 = some x0 ∧ jk Z x0 14 ∧ jr Z uP 2 = some x2 ∧ jk Z x2 14
def PARr (n : Int) (P : Nat → Int32) (v1 v2 r : Int32) : Prop := ((0 ≤ v1.toInt ∧ v1.toInt < n ∧ 0 ≤ v2.toInt ∧ v2.toInt ≤ 7) ∧ r = P (8 * v1.toNatClampNeg + v2.toNatClampNeg)) ∨ (¬ (0 ≤ v1.toInt ∧ v1.toInt < n ∧ 0 ≤ v2.toInt ∧ v2.toInt ≤ 7) ∧ r.toInt = -1)
theorem s15_X11_parts {Z : jZ} {I : jI} {L : jL} (w : WD Z I) (v0 : Nat) (v1 v2 : Int32) (kv0 : jk Z v0 11) (uF uP x0 x2 : Nat) (pc : PCs Z v0 uF uP x0 x2) {Q : Int32 → jI → jL → Prop} (hQ : ∀ r : Int32, PARr (I uF 9).toInt (I x0) v1 v2 r → Q r I L) : f_X11_parts v0 v1 v2 Z I L Q := by
  obtain ⟨huF, kF, huP, kP, h0, k0, -⟩ := pc
  have t9 : 0 ≤ (I uF 9).toInt ∧ (I uF 9).toInt ≤ 24 := w.fld 8 9 kF (by decide)
  unfold f_X11_parts
  intro b1 e1
  cases huF.symm.trans e1
  refine s_X8_has w uF v1 kF (fun r p => ⟨fun c => hQ _ (Or.inr ⟨by have c := yz c; omega, rfl⟩), fun c => ?_⟩)
  have c := nz c
  refine s_X11_isFamily w v2 (fun r' p' => ⟨fun c' => hQ _ (Or.inr ⟨by have c' := yz c'; omega, rfl⟩), fun c' => ?_⟩)
  have c' := nz c'
  have n1 := i_nat (x := v1) rfl (by omega)
  have n2 := i_nat (x := v2) rfl (by omega)
  intro b18 e18
  cases huF.symm.trans e18
  intro b19 e19
  cases huP.symm.trans e19
  exact s15_X4_shareOf w uP v1 v2 kP x0 h0 v1.toNatClampNeg v2.toNatClampNeg (by omega) (by omega) (by omega) (by omega) (hQ _ (Or.inl ⟨by omega, rfl⟩))
def SELc (n : Int) (v1 v2 v3 v4 v5 : Int32) : Prop := (0 ≤ v1.toInt ∧ v1.toInt < n) ∧ (0 ≤ v2.toInt ∧ v2.toInt ≤ 7) ∧ (0 ≤ v3.toInt ∧ v3.toInt ≤ 7) ∧ ¬ v2.toInt = v3.toInt ∧ 1 ≤ v4.toInt ∧ v4.toInt ≤ v5.toInt ∧ v5.toInt ≤ 9
def SELr (n : Int) (P P' : Nat → Int32) (m m' : Nat) (H H' : Nat → Nat → Int32) (v1 v2 v3 v4 v5 r : Int32) : Prop :=
  (SELc n v1 v2 v3 v4 v5 ∧ r = (P (8 * v1.toNatClampNeg + v2.toNatClampNeg) * v4) / v5 ∧ ¬ r = 0 ∧ P' = mvP P (8 * v1.toNatClampNeg + v2.toNatClampNeg) (8 * v1.toNatClampNeg + v3.toNatClampNeg) r ∧ m' = reM m ∧ ∀ k q, k < m' → q < 192 → H' k q = reH m H P k q) ∨
  (¬ (SELc n v1 v2 v3 v4 v5 ∧ ¬ (P (8 * v1.toNatClampNeg + v2.toNatClampNeg) * v4) / v5 = 0) ∧ r.toInt = -1 ∧ P' = P ∧ m' = m ∧ ∀ k q, k < m' → q < 192 → H' k q = H k q)
theorem s15_X11_sells {Z : jZ} {I : jI} {L : jL} (w : WD Z I) (v0 : Nat) (v1 v2 v3 v4 v5 : Int32) (kv0 : jk Z v0 11) (uF uP x0 x2 : Nat) (pc : PCs Z v0 uF uP x0 x2) {Q : Int32 → jI → jL → Prop} (hQ : ∀ (r : Int32) (I' : jI) (L' : jL), WD Z I' → FR Ws_X11_sells Z I Z I' → SELr (I uF 9).toInt (I x0) (I' x0) (I uP 4).toInt.toNat (I' uP 4).toInt.toNat (HC I uP x2 (I uP 3).toInt) (HC I' uP x2 (I' uP 3).toInt) v1 v2 v3 v4 v5 r → Q r I' L') : f_X11_sells v0 v1 v2 v3 v4 v5 Z I L Q := by
  obtain ⟨huF, kF, huP, kP, h0, k0, h2, k2⟩ := pc
  have t9 : 0 ≤ (I uF 9).toInt ∧ (I uF 9).toInt ≤ 24 := w.fld 8 9 kF (by decide)
  have bad : ¬ SELc (I uF 9).toInt v1 v2 v3 v4 v5 → Q (-1 : Int32) I L := fun h => hQ _ I L w FR.rf (Or.inr ⟨fun g => h g.1, rfl, rfl, rfl, fun _ _ _ _ => rfl⟩)
  unfold f_X11_sells
  intro b1 e1
  cases huF.symm.trans e1
  refine s_X8_has w uF v1 kF (fun r p => ⟨fun c => bad (fun g => by have c := yz c; have := g.1; omega), fun c => ?_⟩)
  have c := nz c
  refine s_X11_isFamily w v2 (fun r2 p2 => ⟨fun c => bad (fun g => by have c := yz c; have := g.2.1; omega), fun c2 => ?_⟩)
  have c2 := nz c2
  refine s_X11_isFamily w v3 (fun r3 p3 => ⟨fun c => bad (fun g => by have c := yz c; have := g.2.2.1; omega), fun c3 => ?_⟩)
  have c3 := nz c3
  refine ⟨fun c4 => ?_, fun c4 => bad (fun g => g.2.2.2.1 (by rw [c4]))⟩
  have c4 := (not_congr (i_eq (x := v2) (y := v3) rfl rfl)).mp c4
  refine ⟨fun c5 => bad (fun g => by have c5 := (i_lt (x := v4) (y := 1) rfl (show (1 : Int32).toInt = 1 from rfl)).mp c5; have := g.2.2.2.2.1; omega), fun c5 => ?_⟩
  have c5 := (not_congr (i_lt (x := v4) (y := 1) rfl (show (1 : Int32).toInt = 1 from rfl))).mp c5
  refine ⟨fun c6 => bad (fun g => by have c6 := (i_lt (x := 9) (y := v5) (show (9 : Int32).toInt = 9 from rfl) rfl).mp c6; have := g.2.2.2.2.2.2; omega), fun c6 => ?_⟩
  have c6 := (not_congr (i_lt (x := 9) (y := v5) (show (9 : Int32).toInt = 9 from rfl) rfl)).mp c6
  refine ⟨fun c7 => ?_, fun c7 => bad (fun g => by have c7 := (not_congr (i_le (x := v4) (y := v5) rfl rfl)).mp c7; have := g.2.2.2.2.2.1; omega)⟩
  have c7 := (i_le (x := v4) (y := v5) rfl rfl).mp c7
  have n1 := i_nat (x := v1) rfl (by omega)
  have n2 := i_nat (x := v2) rfl (by omega)
  have n3 := i_nat (x := v3) rfl (by omega)
  have hC : SELc (I uF 9).toInt v1 v2 v3 v4 v5 := ⟨by omega, by omega, by omega, c4, by omega, c7, by omega⟩
  intro b30 e30
  cases huF.symm.trans e30
  intro b31 e31
  cases huP.symm.trans e31
  refine s15_X4_shareOf w uP v1 v2 kP x0 h0 v1.toNatClampNeg v2.toNatClampNeg (by omega) (by omega) (by omega) (by omega) ?_
  refine ⟨fun e => by have := congrArg Int32.toInt e; rw [show (0 : Int32).toInt = 0 from rfl] at this; omega, ?_⟩
  intro x40 e40
  refine ⟨fun c8 => ?_, fun c8 => hQ _ I L w FR.rf (Or.inr ⟨fun g => g.2 (by rw [← e40]; exact c8), rfl, rfl, rfl, fun _ _ _ _ => rfl⟩)⟩
  intro b42 e42
  cases huF.symm.trans e42
  intro b43 e43
  cases huP.symm.trans e43
  refine s15_X4_remember w uP kP x0 h0 x2 h2 (fun I1 L1 w1 f1 m1 y1 => ?_)
  have o1 : I1 x0 = I x0 := f1.2.2.2 uP 4 0 x0 kP h0 (by rw [k0.2]; rfl) rfl (by decide)
  intro b50 e50
  cases huF.symm.trans e50
  intro b51 e51
  cases huP.symm.trans e51
  refine s15_X4_move w1 uP v1 v2 v3 x40 kP x0 h0 v1.toNatClampNeg v2.toNatClampNeg v3.toNatClampNeg (by omega) (by omega) (by omega) (by omega) (by omega) (by omega) (fun I2 L2 w2 f2 y2 => ?_)
  have g4 : (I2 uP 4).toInt = (reM (I uP 4).toInt.toNat : Int) := by rw [f2.2.2.1 uP 4 4 kP (by decide) (by decide)]; exact m1
  have g3 : I2 uP 3 = I1 uP 3 := f2.2.2.1 uP 4 3 kP (by decide) (by decide)
  have gx : I2 x2 = I1 x2 := f2.2.2.2 uP 4 2 x2 kP h2 (by rw [k2.2]; rfl) rfl (by decide)
  refine hQ x40 I2 L2 w2 ((f1.mono (by decide)).trans w.1 w.2.1 (f2.mono (by decide))) (Or.inl ⟨hC, e40, c8, by rw [y2, o1], by rw [g4]; exact Int.toNat_natCast _, fun k q hk hq => ?_⟩)
  rw [g4, Int.toNat_natCast] at hk
  have := y1 k q hk hq
  unfold HC at this ⊢
  rw [g3, gx]
  exact this
def UNDr (P P' : Nat → Int32) (m m' : Nat) (H H' : Nat → Nat → Int32) (r : Int32) : Prop :=
  (m = 0 ∧ r.toInt = -1 ∧ P' = P ∧ m' = m ∧ ∀ k q, k < m' → q < 192 → H' k q = H k q) ∨ (1 ≤ m ∧ r.toInt = (m : Int) - 1 ∧ m' = m - 1 ∧ (∀ q, q < 192 → P' q = H (m - 1) q) ∧ ∀ k q, k < m' → q < 192 → H' k q = H k q)
theorem s15_X11_undo {Z : jZ} {I : jI} {L : jL} (w : WD Z I) (v0 : Nat) (kv0 : jk Z v0 11) (uF uP x0 x2 : Nat) (pc : PCs Z v0 uF uP x0 x2) {Q : Int32 → jI → jL → Prop} (hQ : ∀ (r : Int32) (I' : jI) (L' : jL), WD Z I' → FR Ws_X11_undo Z I Z I' → UNDr (I x0) (I' x0) (I uP 4).toInt.toNat (I' uP 4).toInt.toNat (HC I uP x2 (I uP 3).toInt) (HC I' uP x2 (I' uP 3).toInt) r → Q r I' L') : f_X11_undo v0 Z I L Q := by
  obtain ⟨huF, kF, huP, kP, h0, k0, h2, k2⟩ := pc
  unfold f_X11_undo
  intro b1 e1
  cases huF.symm.trans e1
  intro b2 e2
  cases huP.symm.trans e2
  refine s15_X4_takeBack w uP kP x0 h0 x2 h2 (fun r I1 L1 w1 f1 p1 => ⟨fun c => ?_, fun c => ?_⟩)
  · rcases p1 with ⟨-, hm, rfl⟩ | ⟨hr, -⟩
    · exact hQ _ I1 L1 w1 (f1.mono (by decide)) (Or.inl ⟨by omega, rfl, rfl, rfl, fun _ _ _ _ => rfl⟩)
    · rw [hr] at c; exact absurd c (by decide)
  · rcases p1 with ⟨hr, -⟩ | ⟨-, hm, h4, hx⟩
    · exact absurd hr c
    · intro b11 e11
      cases huF.symm.trans e11
      intro b12 e12
      cases huP.symm.trans e12
      refine hQ _ I1 L1 w1 (f1.mono (by decide)) (Or.inr ⟨by omega, by omega, by omega, hx, fun k q _ _ => ?_⟩)
      unfold HC
      rw [f1.2.2.1 uP 4 3 kP (by decide) (by decide), f1.2.2.2 uP 4 2 x2 kP h2 (by rw [k2.2]; rfl) rfl (by decide)]
def DIEc (v1 v2 : Int32) : Prop := (0 ≤ v1.toInt ∧ v1.toInt ≤ 7) ∧ (1 ≤ v2.toInt ∧ v2.toInt ≤ 255) ∧ hbt v2 v1.toNatClampNeg = false
def DICr (n : Nat) (P P' : Nat → Int32) (m m' : Nat) (H H' : Nat → Nat → Int32) (v1 v2 r : Int32) : Prop :=
  (¬ DIEc v1 v2 ∧ r.toInt = -1 ∧ P' = P ∧ m' = m ∧ ∀ k q, k < m' → q < 192 → H' k q = H k q) ∨
  (DIEc v1 v2 ∧ r.toInt = shS (fun s => (P (8 * s + v1.toNatClampNeg)).toInt) 24 ∧ ((r.toInt ≤ 0 ∧ P' = P ∧ m' = m ∧ ∀ k q, k < m' → q < 192 → H' k q = H k q) ∨ (0 < r.toInt ∧ P' = diC v2 v1.toNatClampNeg P n ∧ m' = reM m ∧ ∀ k q, k < m' → q < 192 → H' k q = reH m H P k q)))
theorem s15_X11_dies {Z : jZ} {I : jI} {L : jL} (w : WD Z I) (v0 : Nat) (v1 v2 : Int32) (kv0 : jk Z v0 11) (uF uP x0 x2 : Nat) (pc : PCs Z v0 uF uP x0 x2) (n : Nat) (en : (I uF 9).toInt = (n : Int)) (hb : ∀ z, z < 192 → 0 ≤ (I x0 z).toInt ∧ (I x0 z).toInt ≤ 720) {Q : Int32 → jI → jL → Prop} (hQ : ∀ (r : Int32) (I' : jI) (L' : jL), WD Z I' → FR Ws_X11_dies Z I Z I' → DICr n (I x0) (I' x0) (I uP 4).toInt.toNat (I' uP 4).toInt.toNat (HC I uP x2 (I uP 3).toInt) (HC I' uP x2 (I' uP 3).toInt) v1 v2 r → Q r I' L') : f_X11_dies v0 v1 v2 Z I L Q := by
  obtain ⟨huF, kF, huP, kP, h0, k0, h2, k2⟩ := pc
  have t9 : 0 ≤ (I uF 9).toInt ∧ (I uF 9).toInt ≤ 24 := w.fld 8 9 kF (by decide)
  have bad : ¬ DIEc v1 v2 → Q (-1 : Int32) I L := fun h => hQ _ I L w FR.rf (Or.inl ⟨h, rfl, rfl, rfl, fun _ _ _ _ => rfl⟩)
  unfold f_X11_dies
  refine s_X11_isFamily w v1 (fun r p => ⟨fun c => bad (fun g => by have c := yz c; have := g.1; omega), fun c => ?_⟩)
  have c := nz c
  have n1 := i_nat (x := v1) rfl (by omega)
  have s1 : v1 = Int32.ofNat v1.toNatClampNeg := (i_eq rfl (i_nI (n := v1.toNatClampNeg) (by omega))).mpr (by omega)
  refine ⟨fun c2 => bad (fun g => by have c2 := (i_lt (x := v2) (y := 1) rfl (show (1 : Int32).toInt = 1 from rfl)).mp c2; have := g.2.1; omega), fun c2 => ?_⟩
  have c2 := (not_congr (i_lt (x := v2) (y := 1) rfl (show (1 : Int32).toInt = 1 from rfl))).mp c2
  refine ⟨fun c3 => bad (fun g => by have c3 := (i_lt (x := 255) (y := v2) (show (255 : Int32).toInt = 255 from rfl) rfl).mp c3; have := g.2.1; omega), fun c3 => ?_⟩
  have c3 := (not_congr (i_lt (x := 255) (y := v2) (show (255 : Int32).toInt = 255 from rfl) rfl)).mp c3
  refine ⟨fun c4 => ?_, fun c4 => bad (fun g => by have h9 := hbt_yes (v := v2) (k := v1.toNatClampNeg) (by rw [← s1]; exact c4); have g3 := g.2.2; rw [h9] at g3; exact absurd g3 (by decide))⟩
  have hC : DIEc v1 v2 := ⟨by omega, by omega, hbt_no (by rw [← s1]; exact c4)⟩
  intro b23 e23
  cases huF.symm.trans e23
  intro b24 e24
  cases huP.symm.trans e24
  refine s15_X4_sumOf w uP v1 kP x0 h0 v1.toNatClampNeg (by omega) (by omega) (fun s hs => hb _ (by omega)) (fun r31 h31 => ⟨fun c5 => ?_, fun c5 => ?_⟩)
  · have c5 := (i_le (x := r31) (y := 0) rfl (show (0 : Int32).toInt = 0 from rfl)).mp c5
    exact hQ r31 I L w FR.rf (Or.inr ⟨hC, h31, Or.inl ⟨c5, rfl, rfl, fun _ _ _ _ => rfl⟩⟩)
  · have c5 := (not_congr (i_le (x := r31) (y := 0) rfl (show (0 : Int32).toInt = 0 from rfl))).mp c5
    intro b33 e33
    cases huF.symm.trans e33
    intro b34 e34
    cases huP.symm.trans e34
    refine s15_X4_remember w uP kP x0 h0 x2 h2 (fun I1 L1 w1 f1 m1 y1 => ?_)
    have o1 : I1 x0 = I x0 := f1.2.2.2 uP 4 0 x0 kP h0 (by rw [k0.2]; rfl) rfl (by decide)
    have s9 : (I1 uF 9).toInt = (n : Int) := by rw [f1.2.2.1 uF 8 9 kF (by decide) (by decide)]; exact en
    refine ⟨n + 1, d_L58 w1 v0 kv0 uF huF kF uP huP kP x0 h0 v1 v2 r31 v1.toNatClampNeg n s9 (by omega) (by omega) (by omega) ⟨by omega, by omega⟩ (fun s hs => by rw [o1]; exact hb _ (by omega)) (fun I2 L2 w2 f2 y2 => ?_) (n + 1) 0 0 I1 L1 w1 FR.rf rfl (by omega) rfl (by omega)⟩
    have g4 : (I2 uP 4).toInt = (reM (I uP 4).toInt.toNat : Int) := by rw [f2.2.2.1 uP 4 4 kP (by decide) (by decide)]; exact m1
    have g3 : I2 uP 3 = I1 uP 3 := f2.2.2.1 uP 4 3 kP (by decide) (by decide)
    have gx : I2 x2 = I1 x2 := f2.2.2.2 uP 4 2 x2 kP h2 (by rw [k2.2]; rfl) rfl (by decide)
    refine hQ r31 I2 L2 w2 ((f1.mono (by decide)).trans w.1 w.2.1 (f2.mono (by decide))) (Or.inr ⟨hC, h31, Or.inr ⟨by omega, by rw [y2, o1], by rw [g4]; exact Int.toNat_natCast _, fun k q hk hq => ?_⟩⟩)
    rw [g4, Int.toNat_natCast] at hk
    have := y1 k q hk hq
    unfold HC at this ⊢
    rw [g3, gx]
    exact this
/-! ===== PARTS of the reference ===== -/
def HM (I : jI) (u53 : Nat) : Nat → Nat → Int32 := fun k q => I u53 (192 * k + q)
theorem re_L55 {Z : jZ} {J : jI} (wJ : WD Z J) (v0 : Nat) (k0 : jk Z v0 12) (u53 : Nat) (h53 : jr Z v0 53 = some u53) (k53 : jk Z u53 14) (u54 : Nat) (h54 : jr Z v0 54 = some u54) (k54 : jk Z u54 14) (v1 : Int32) (e1 : v1.toInt = 192) (m : Nat) (em : (J v0 52).toInt = (m : Int)) (hm : m ≤ 7) {Q : jI → jL → Prop}
    (hQ : ∀ (I : jI) (L : jL), WD Z I → FR Ws_X12_rememberParts Z J Z I → (I v0 52).toInt = (m : Int) + 1 → (∀ q, q < 192 → I u53 (192 * m + q) = J u54 q) → (∀ z, z < 192 * m → I u53 z = J u53 z) → Q I L) :
    ∀ (n p : Nat) (v2 : Int32) (I : jI) (L : jL), WD Z I → FR Ws_X12_rememberParts Z J Z I → I v0 52 = J v0 52 → v2.toInt = (p : Int) → p ≤ 192 → (∀ q, q < p → I u53 (192 * m + q) = J u54 q) → (∀ z, z < 192 * m → I u53 z = J u53 z) → 193 ≤ n + p → f_X12_rememberParts_L55 Z Q n v0 v1 v2 I L := by
  have z1 : (1 : Int32).toInt = 1 := rfl
  have n5 : u53 ≠ v0 := ks_ne k53 k0 (by decide)
  intro n
  induction n with
  | zero => intro p v2 I L w f e52 e2 hp h1 h2 hn; exfalso; omega
  | succ n ih =>
    intro p v2 I L w f e52 e2 hp h1 h2 hn
    have em' : (I v0 52).toInt = (m : Int) := by rw [e52]; exact em
    unfold f_X12_rememberParts_L55
    refine ⟨fun c => ?_, fun c => ?_⟩
    · have c := (i_le e1 e2).mp c
      intro I2 ei
      have t2 : ((I v0 52) + (1 : Int32)).toInt = (m : Int) + 1 := i_add em' z1 (by omega) (by omega)
      refine hQ I2 L ?_ ?_ ?_ (fun q hq => ?_) (fun z hz => ?_)
      · rw [ei]; exact WD_putF w 12 52 k0 (by decide) (by decide) (show rg 0 8 _ from ⟨by rw [t2]; omega, by rw [t2]; omega⟩)
      · refine f.trans wJ.1 wJ.2.1 ?_
        rw [ei]; exact FR_putF k0 (by decide) (by decide)
      · rw [ei, jpI_at]; exact t2
      · rw [ei, jpI_ne n5]; exact h1 q (by omega)
      · rw [ei, jpI_ne n5]; exact h2 z hz
    have c := (not_congr (i_le e1 e2)).mp c
    have q2 := i_nat e2 (by omega)
    have q2 : v2.toNatClampNeg = p := by omega
    have ti : ((v1 * (I v0 52)) + v2).toInt = 192 * (m : Int) + (p : Int) := i_add (i_mul e1 em' (by omega) (by omega)) e2 (by omega) (by omega)
    have ni := i_nat ti (by omega)
    have ni : ((v1 * (I v0 52)) + v2).toNatClampNeg = 192 * m + p := by omega
    intro b3 e3
    cases h53.symm.trans e3
    intro b4 e4
    cases h54.symm.trans e4
    refine ⟨vi_of e2 (by omega) (by omega), vi_of ti (by omega) (by omega), ?_⟩
    intro I7 e7 x8 e8
    have g54 : I u54 = J u54 := f.2.2.2 v0 12 54 u54 k0 h54 (by rw [k54.2]; rfl) rfl (by decide)
    rw [ni, q2, g54] at e7
    have w7 : WD Z I7 := by rw [e7]; exact WD_putA w 12 53 k0 h53 k53 rfl rfl (by decide) trivial
    have f7 : FR Ws_X12_rememberParts Z J Z I7 := f.trans wJ.1 wJ.2.1 (by rw [e7]; exact FR_upA w.2.1 k0 h53 k53 rfl rfl (by decide))
    refine ih (p + 1) x8 I7 L w7 f7 ?_ ?_ (by omega) (fun q hq => ?_) (fun z hz => ?_) (by omega)
    · rw [e7, jpI_ne (fun e => n5 e.symm)]; exact e52
    · rw [e8]; exact (i_add e2 z1 (by omega) (by omega)).trans (by omega)
    · by_cases hqp : q = p
      · rw [hqp, e7, jpI_at]
      · rw [e7, jpI_off (by omega)]; exact h1 q (by omega)
    · rw [e7, jpI_off (by omega)]; exact h2 z hz
theorem re_L15 {Z : jZ} {J : jI} (wJ : WD Z J) (v0 : Nat) (k0 : jk Z v0 12) (u53 : Nat) (h53 : jr Z v0 53 = some u53) (k53 : jk Z u53 14) (u54 : Nat) (h54 : jr Z v0 54 = some u54) (k54 : jk Z u54 14) (v1 : Int32) (e1 : v1.toInt = 192) (em : (J v0 52).toInt = 8) {Q : jI → jL → Prop}
    (hQ : ∀ (I : jI) (L : jL), WD Z I → FR Ws_X12_rememberParts Z J Z I → (I v0 52).toInt = 8 → (∀ q, q < 192 → I u53 (192 * 7 + q) = J u54 q) → (∀ z, z < 192 * 7 → I u53 z = J u53 (z + 192)) → Q I L) :
    ∀ (n p : Nat) (v2 : Int32) (I : jI) (L : jL), WD Z I → FR Ws_X12_rememberParts Z J Z I → I v0 52 = J v0 52 → v2.toInt = (p : Int) → p ≤ 1344 → (∀ z, z < p → I u53 z = J u53 (z + 192)) → (∀ z, p ≤ z → I u53 z = J u53 z) → 1345 ≤ n + p → f_X12_rememberParts_L15 Z Q n v0 v1 v2 I L := by
  have z1 : (1 : Int32).toInt = 1 := rfl
  have n5 : u53 ≠ v0 := ks_ne k53 k0 (by decide)
  have t7 : (v1 * (7 : Int32)).toInt = 1344 := i_mul e1 (show (7 : Int32).toInt = 7 from rfl) (by omega) (by omega)
  intro n
  induction n with
  | zero => intro p v2 I L w f e52 e2 hp h1 h2 hn; exfalso; omega
  | succ n ih =>
    intro p v2 I L w f e52 e2 hp h1 h2 hn
    have em' : (I v0 52).toInt = 8 := by rw [e52]; exact em
    unfold f_X12_rememberParts_L15
    refine ⟨fun c => ?_, fun c => ?_⟩
    · have c := (i_le t7 e2).mp c
      intro I11 e11
      have t11 : ((I v0 52) - (1 : Int32)).toInt = ((7 : Nat) : Int) := i_sub em' z1 (by omega) (by omega)
      have w11 : WD Z I11 := by rw [e11]; exact WD_putF w 12 52 k0 (by decide) (by decide) (show rg 0 8 _ from ⟨by rw [t11]; omega, by rw [t11]; omega⟩)
      have f11 : FR Ws_X12_rememberParts Z J Z I11 := f.trans wJ.1 wJ.2.1 (by rw [e11]; exact FR_putF k0 (by decide) (by decide))
      have y53 : I11 u53 = I u53 := by rw [e11, jpI_ne n5]
      have y54 : I11 u54 = J u54 := f11.2.2.2 v0 12 54 u54 k0 h54 (by rw [k54.2]; rfl) rfl (by decide)
      have y52 : (I11 v0 52).toInt = ((7 : Nat) : Int) := by rw [e11, jpI_at]; exact t11
      unfold f_X12_rememberParts_b53
      refine ⟨193, re_L55 w11 v0 k0 u53 h53 k53 u54 h54 k54 v1 e1 7 y52 (by omega) (fun I' L' w' f' g1 g2 g3 => ?_) 193 0 0 I11 L w11 FR.rf rfl rfl (by omega) (fun q hq => absurd hq (by omega)) (fun _ _ => rfl) (by omega)⟩
      refine hQ I' L' w' (f11.trans wJ.1 wJ.2.1 f') (by rw [g1]; omega) (fun q hq => by rw [g2 q hq, y54]) (fun z hz => ?_)
      rw [g3 z hz, y53]
      exact h1 z (by omega)
    have c := (not_congr (i_le t7 e2)).mp c
    have q2 := i_nat e2 (by omega)
    have q2 : v2.toNatClampNeg = p := by omega
    have ti : (v2 + v1).toInt = (p : Int) + 192 := i_add e2 e1 (by omega) (by omega)
    have ni := i_nat ti (by omega)
    have ni : (v2 + v1).toNatClampNeg = p + 192 := by omega
    intro b12 e12
    cases h53.symm.trans e12
    intro b13 e13
    cases h53.symm.trans e13
    refine ⟨vi_of ti (by omega) (by omega), vi_of e2 (by omega) (by omega), ?_⟩
    intro I16 e16 x17 e17
    rw [ni, q2] at e16
    have w16 : WD Z I16 := by rw [e16]; exact WD_putA w 12 53 k0 h53 k53 rfl rfl (by decide) trivial
    have f16 : FR Ws_X12_rememberParts Z J Z I16 := f.trans wJ.1 wJ.2.1 (by rw [e16]; exact FR_upA w.2.1 k0 h53 k53 rfl rfl (by decide))
    refine ih (p + 1) x17 I16 L w16 f16 ?_ ?_ (by omega) (fun z hz => ?_) (fun z hz => ?_) (by omega)
    · rw [e16, jpI_ne (fun e => n5 e.symm)]; exact e52
    · rw [e17]; exact (i_add e2 z1 (by omega) (by omega)).trans (by omega)
    · by_cases hqp : z = p
      · rw [hqp, e16, jpI_at]; exact h2 (p + 192) (by omega)
      · rw [e16, jpI_off (by omega)]; exact h1 z (by omega)
    · rw [e16, jpI_off (by omega)]; exact h2 z (by omega)
theorem s15_X12_rememberParts {Z : jZ} {I : jI} {L : jL} (w : WD Z I) (v0 : Nat) (k0 : jk Z v0 12) (u53 : Nat) (h53 : jr Z v0 53 = some u53) (u54 : Nat) (h54 : jr Z v0 54 = some u54) {Q : jI → jL → Prop} (hQ : ∀ (I' : jI) (L' : jL), WD Z I' → FR Ws_X12_rememberParts Z I Z I' → (I' v0 52).toInt = (reM (I v0 52).toInt.toNat : Int) → (∀ k q, k < reM (I v0 52).toInt.toNat → q < 192 → HM I' u53 k q = reH (I v0 52).toInt.toNat (HM I u53) (I u54) k q) → Q I' L') : f_X12_rememberParts v0 Z I L Q := by
  obtain ⟨x, ex, k53, l53⟩ := sh_f w.1 k0 (j := 53) (k := 14) (m := 1536) rfl
  cases h53.symm.trans ex
  obtain ⟨x, ex, k54, l54⟩ := sh_f w.1 k0 (j := 54) (k := 14) (m := 192) rfl
  cases h54.symm.trans ex
  have t52 : 0 ≤ (I v0 52).toInt ∧ (I v0 52).toInt ≤ 8 := w.fld 12 52 k0 (by decide)
  unfold f_X12_rememberParts
  refine ⟨fun c => ?_, fun c => ?_⟩
  · have c := (not_congr (i_eq (x := I v0 52) (y := 8) rfl (show (8 : Int32).toInt = 8 from rfl))).mp c
    have em : reM (I v0 52).toInt.toNat = (I v0 52).toInt.toNat + 1 := by unfold reM; rw [if_neg (by omega)]
    unfold f_X12_rememberParts_b53
    refine ⟨193, re_L55 w v0 k0 u53 h53 k53 u54 h54 k54 192 rfl (I v0 52).toInt.toNat (by omega) (by omega) (fun I' L' w' f' g1 g2 g3 => ?_) 193 0 0 I L w FR.rf rfl rfl (by omega) (fun q hq => absurd hq (by omega)) (fun _ _ => rfl) (by omega)⟩
    refine hQ I' L' w' f' (by rw [g1, em]; omega) (fun k q hk hq => ?_)
    rw [em] at hk
    unfold HM reH
    rw [em]
    by_cases hkm : k = (I v0 52).toInt.toNat
    · rw [if_pos (by omega), hkm]; exact g2 q hq
    · rw [if_neg (by omega), if_neg (by omega)]; exact g3 _ (by omega)
  · have c := (i_eq (x := I v0 52) (y := 8) rfl (show (8 : Int32).toInt = 8 from rfl)).mp c
    have em : reM (I v0 52).toInt.toNat = 8 := by unfold reM; rw [if_pos (by omega)]
    refine ⟨1345, re_L15 w v0 k0 u53 h53 k53 u54 h54 k54 192 rfl c (fun I' L' w' f' g1 g2 g3 => ?_) 1345 0 0 I L w FR.rf rfl rfl (by omega) (fun q hq => absurd hq (by omega)) (fun _ _ => rfl) (by omega)⟩
    refine hQ I' L' w' f' (by rw [g1, em]; rfl) (fun k q hk hq => ?_)
    rw [em] at hk
    unfold HM reH
    rw [em]
    by_cases hkm : k = 7
    · rw [if_pos (by omega), hkm]; exact g2 q hq
    · rw [if_neg (by omega), if_pos (by omega), g3 _ (by omega)]
      congr 1
      omega
/-- where PARTS are kept by the reference -/
def PMs (Z : jZ) (v0 u5 u53 u54 : Nat) : Prop := jr Z v0 5 = some u5 ∧ jk Z u5 14 ∧ jr Z v0 53 = some u53 ∧ jk Z u53 14 ∧ jr Z v0 54 = some u54 ∧ jk Z u54 14
theorem s15_X12_parts {Z : jZ} {I : jI} {L : jL} (w : WD Z I) (v0 : Nat) (v1 v2 : Int32) (kv0 : jk Z v0 12) (u5 u53 u54 : Nat) (pm : PMs Z v0 u5 u53 u54) {Q : Int32 → jI → jL → Prop} (hQ : ∀ (r : Int32) (I' : jI) (L' : jL), WD Z I' → FR Ws_X12_parts Z I Z I' → PARr (I v0 0).toInt (I u5) v1 v2 r → Q r I' L') : f_X12_parts v0 v1 v2 Z I L Q := by
  obtain ⟨h5, k5, -⟩ := pm
  have t0 : 0 ≤ (I v0 0).toInt ∧ (I v0 0).toInt ≤ 24 := w.fld 12 0 kv0 (by decide)
  unfold f_X12_parts
  intro I1 e1
  have w1 : WD Z I1 := by rw [e1]; exact WD_putF w 12 22 kv0 (by decide) (by decide) trivial
  have f1 : FR Ws_X12_parts Z I Z I1 := by rw [e1]; exact FR_putF kv0 (by decide) (by decide)
  have s0 : I1 v0 0 = I v0 0 := by rw [e1]; exact jpI_o (by decide)
  have o5 : I1 u5 = I u5 := by rw [e1]; exact jpI_ne (ks_ne k5 kv0 (by decide))
  refine s_X12_isStep w1 v0 v1 kv0 (fun r p => ?_)
  rw [s0] at p
  refine ⟨fun c => hQ _ I1 L w1 f1 (Or.inr ⟨by have c := yz c; omega, rfl⟩), fun c => ?_⟩
  have c := nz c
  refine s_X12_isFamily w1 v2 (fun r' p' => ⟨fun c' => hQ _ I1 L w1 f1 (Or.inr ⟨by have c' := yz c'; omega, rfl⟩), fun c' => ?_⟩)
  have c' := nz c'
  have n1 := i_nat (x := v1) rfl (by omega)
  have n2 := i_nat (x := v2) rfl (by omega)
  have ti : (((8 : Int32) * v1) + v2).toInt = 8 * v1.toInt + v2.toInt := i_add (i_mul (show (8 : Int32).toInt = 8 from rfl) rfl (by omega) (by omega)) rfl (by omega) (by omega)
  have ni := i_nat ti (by omega)
  have ni : (((8 : Int32) * v1) + v2).toNatClampNeg = 8 * v1.toNatClampNeg + v2.toNatClampNeg := by omega
  intro b18 e18
  cases h5.symm.trans e18
  refine ⟨vi_of ti (by omega) (by omega), ?_⟩
  rw [ni, o5]
  exact hQ _ I1 L w1 f1 (Or.inl ⟨by omega, rfl⟩)
theorem se_L85 {Z : jZ} {J : jI} (wJ : WD Z J) (v0 : Nat) (k0 : jk Z v0 12) (u5 u53 u54 : Nat) (pm : PMs Z v0 u5 u53 u54) (v1 v2 v3 v6 : Int32) (s f t : Nat) (e1 : v1.toInt = (s : Int)) (e2 : v2.toInt = (f : Int)) (e3 : v3.toInt = (t : Int)) (hs : s < 24) (hf : f < 8) (ht : t < 8) {Q : Int32 → jI → jL → Prop}
    (hQ : ∀ (I : jI) (L : jL), WD Z I → FR [(12, 5), (12, 52), (12, 53), (12, 54)] Z J Z I → I u5 = mvP (J u5) (8 * s + f) (8 * s + t) v6 → (I v0 52).toInt = (reM (J v0 52).toInt.toNat : Int) → (∀ k q, k < reM (J v0 52).toInt.toNat → q < 192 → HM I u53 k q = reH (J v0 52).toInt.toNat (HM J u53) (J u5) k q) → Q v6 I L) :
    ∀ (n p : Nat) (v7 : Int32) (I : jI) (L : jL), WD Z I → FR [(12, 54)] Z J Z I → v7.toInt = (p : Int) → p ≤ 192 → (∀ q, q < p → I u54 q = J u5 q) → 193 ≤ n + p → f_X12_sells_L85 Z Q n v0 v1 v2 v3 v6 v7 I L := by
  obtain ⟨h5, k5, h53, k53, h54, k54⟩ := pm
  have z1 : (1 : Int32).toInt = 1 := rfl
  have a2 : (((8 : Int32) * v1) + v2).toInt = 8 * (s : Int) + (f : Int) := i_add (i_mul (show (8 : Int32).toInt = 8 from rfl) e1 (by omega) (by omega)) e2 (by omega) (by omega)
  have a3 : (((8 : Int32) * v1) + v3).toInt = 8 * (s : Int) + (t : Int) := i_add (i_mul (show (8 : Int32).toInt = 8 from rfl) e1 (by omega) (by omega)) e3 (by omega) (by omega)
  have n2 := i_nat a2 (by omega)
  have n2 : (((8 : Int32) * v1) + v2).toNatClampNeg = 8 * s + f := by omega
  have n3 := i_nat a3 (by omega)
  have n3 : (((8 : Int32) * v1) + v3).toNatClampNeg = 8 * s + t := by omega
  intro n
  induction n with
  | zero => intro p v7 I L w fr e7 hp h1 hn; exfalso; omega
  | succ n ih =>
    intro p v7 I L w fr e7 hp h1 hn
    have y5 : I u5 = J u5 := fr.2.2.2 v0 12 5 u5 k0 h5 (by rw [k5.2]; rfl) rfl (by decide)
    have y53 : I u53 = J u53 := fr.2.2.2 v0 12 53 u53 k0 h53 (by rw [k53.2]; rfl) rfl (by decide)
    have y52 : I v0 52 = J v0 52 := fr.2.2.1 v0 12 52 k0 (by decide) (by decide)
    unfold f_X12_sells_L85
    intro b1 eb1
    cases h54.symm.trans eb1
    refine ⟨fun c => ?_, fun c => ?_⟩
    · have c := (i_le (show (192 : Int32).toInt = 192 from rfl) e7).mp c
      refine s15_X12_rememberParts w v0 k0 u53 h53 u54 h54 (fun I5 L5 w5 f5 g1 g2 => ?_)
      have q5 : FR [(12, 5), (12, 52), (12, 53), (12, 54)] Z J Z I5 := (fr.mono (by decide)).trans wJ.1 wJ.2.1 (f5.mono (by decide))
      have x5 : I5 u5 = J u5 := (f5.2.2.2 v0 12 5 u5 k0 h5 (by rw [k5.2]; rfl) rfl (by decide)).trans y5
      intro b9 e9
      cases h5.symm.trans e9
      refine ⟨vi_of a2 (by omega) (by omega), vi_of a2 (by omega) (by omega), ?_⟩
      intro I12 e12
      have w12 : WD Z I12 := by rw [e12]; exact WD_putA w5 12 5 k0 h5 k5 rfl rfl (by decide) trivial
      have f12 : FR [(12, 5)] Z I5 Z I12 := by rw [e12]; exact FR_upA w5.2.1 k0 h5 k5 rfl rfl List.mem_cons_self
      have x12 : I12 u5 = upd (J u5) (8 * s + f) (J u5 (8 * s + f) - v6) := by rw [e12, n2]; exact (va_up_self _ _ _).trans (by rw [x5])
      intro b13 e13
      cases h5.symm.trans e13
      refine ⟨vi_of a3 (by omega) (by omega), vi_of a3 (by omega) (by omega), ?_⟩
      intro I16 e16
      have w16 : WD Z I16 := by rw [e16]; exact WD_putA w12 12 5 k0 h5 k5 rfl rfl (by decide) trivial
      have f16 : FR [(12, 5)] Z I12 Z I16 := by rw [e16]; exact FR_upA w12.2.1 k0 h5 k5 rfl rfl List.mem_cons_self
      have x16 : I16 u5 = mvP (J u5) (8 * s + f) (8 * s + t) v6 := by
        rw [e16, n3]
        refine (va_up_self _ _ _).trans ?_
        rw [x12]
        rfl
      have z53 : I16 u53 = I5 u53 := (f16.2.2.2 v0 12 53 u53 k0 h53 (by rw [k53.2]; rfl) rfl (by decide)).trans (f12.2.2.2 v0 12 53 u53 k0 h53 (by rw [k53.2]; rfl) rfl (by decide))
      refine hQ I16 L5 w16 ((q5.trans wJ.1 wJ.2.1 (f12.mono (by decide))).trans wJ.1 wJ.2.1 (f16.mono (by decide))) x16 ?_ (fun k q hk hq => ?_)
      · rw [f16.2.2.1 v0 12 52 k0 (by decide) (by decide), f12.2.2.1 v0 12 52 k0 (by decide) (by decide), g1, y52]
      · have g := g2 k q (by rw [y52]; exact hk) hq
        unfold HM reH at g ⊢
        rw [z53, g, y52, y53]
        split
        · exact h1 q (by omega)
        · rfl
    have c := (not_congr (i_le (show (192 : Int32).toInt = 192 from rfl) e7)).mp c
    have q7 := i_nat e7 (by omega)
    have q7 : v7.toNatClampNeg = p := by omega
    intro b17 e17
    cases h54.symm.trans e17
    intro b18 e18
    cases h5.symm.trans e18
    refine ⟨vi_of e7 (by omega) (by omega), vi_of e7 (by omega) (by omega), ?_⟩
    intro I21 e21 x22 e22
    rw [q7, y5] at e21
    refine ih (p + 1) x22 I21 L ?_ ?_ ?_ (by omega) (fun q hq => ?_) (by omega)
    · rw [e21]; exact WD_putA w 12 54 k0 h54 k54 rfl rfl (by decide) trivial
    · refine fr.trans wJ.1 wJ.2.1 ?_
      rw [e21]; exact FR_upA w.2.1 k0 h54 k54 rfl rfl List.mem_cons_self
    · rw [e22]; exact (i_add e7 z1 (by omega) (by omega)).trans (by omega)
    · by_cases hqp : q = p
      · rw [hqp, e21, jpI_at]
      · rw [e21, jpI_off hqp]; exact h1 q (by omega)
theorem s15_X12_sells {Z : jZ} {I : jI} {L : jL} (w : WD Z I) (v0 : Nat) (v1 v2 v3 v4 v5 : Int32) (kv0 : jk Z v0 12) (u5 u53 u54 : Nat) (pm : PMs Z v0 u5 u53 u54) {Q : Int32 → jI → jL → Prop} (hQ : ∀ (r : Int32) (I' : jI) (L' : jL), WD Z I' → FR Ws_X12_sells Z I Z I' → SELr (I v0 0).toInt (I u5) (I' u5) (I v0 52).toInt.toNat (I' v0 52).toInt.toNat (HM I u53) (HM I' u53) v1 v2 v3 v4 v5 r → Q r I' L') : f_X12_sells v0 v1 v2 v3 v4 v5 Z I L Q := by
  have pm' := pm
  obtain ⟨h5, k5, h53, k53, h54, k54⟩ := pm
  have t0 : 0 ≤ (I v0 0).toInt ∧ (I v0 0).toInt ≤ 24 := w.fld 12 0 kv0 (by decide)
  have z1 : (1 : Int32).toInt = 1 := rfl
  have z9 : (9 : Int32).toInt = 9 := rfl
  unfold f_X12_sells
  intro I1 e1
  have w1 : WD Z I1 := by rw [e1]; exact WD_putF w 12 22 kv0 (by decide) (by decide) trivial
  have f1 : FR Ws_X12_sells Z I Z I1 := by rw [e1]; exact FR_putF kv0 (by decide) (by decide)
  have s0 : I1 v0 0 = I v0 0 := by rw [e1]; exact jpI_o (by decide)
  have s52 : I1 v0 52 = I v0 52 := by rw [e1]; exact jpI_o (by decide)
  have o5 : I1 u5 = I u5 := by rw [e1]; exact jpI_ne (ks_ne k5 kv0 (by decide))
  have o53 : I1 u53 = I u53 := by rw [e1]; exact jpI_ne (ks_ne k53 kv0 (by decide))
  have same : ∀ k q, HM I1 u53 k q = HM I u53 k q := fun k q => by unfold HM; rw [o53]
  have bad : ¬ SELc (I v0 0).toInt v1 v2 v3 v4 v5 → Q (-1 : Int32) I1 L := fun h => hQ _ I1 L w1 f1 (Or.inr ⟨fun g => h g.1, rfl, o5, by rw [s52], fun k q _ _ => same k q⟩)
  refine s_X12_isStep w1 v0 v1 kv0 (fun r p => ?_)
  rw [s0] at p
  refine ⟨fun c => bad (fun g => by have c := yz c; have := g.1; omega), fun c => ?_⟩
  have c := nz c
  refine s_X12_isFamily w1 v2 (fun r2 p2 => ⟨fun c => bad (fun g => by have c := yz c; have := g.2.1; omega), fun c2 => ?_⟩)
  have c2 := nz c2
  refine s_X12_isFamily w1 v3 (fun r3 p3 => ⟨fun c => bad (fun g => by have c := yz c; have := g.2.2.1; omega), fun c3 => ?_⟩)
  have c3 := nz c3
  refine ⟨fun c4 => bad (fun g => g.2.2.2.1 (by rw [c4])), fun c4 => ?_⟩
  have c4 := (not_congr (i_eq (x := v2) (y := v3) rfl rfl)).mp c4
  refine s_X12_in w1 _ _ _ (fun r5 p5 => ⟨fun c => bad (fun g => by have c := yz c; have := g.2.2.2.2; omega), fun c5 => ?_⟩)
  have c5 := nz c5
  refine s_X12_in w1 _ _ _ (fun r6 p6 => ⟨fun c6 => ?_, fun c6 => bad (fun g => by have c6 := yz c6; have := g.2.2.2.2; omega)⟩)
  have c6 := nz c6
  have n1 := i_nat (x := v1) rfl (by omega)
  have n2 := i_nat (x := v2) rfl (by omega)
  have n3 := i_nat (x := v3) rfl (by omega)
  have hC : SELc (I v0 0).toInt v1 v2 v3 v4 v5 := ⟨by omega, by omega, by omega, c4, by omega, by omega, by omega⟩
  have ti : (((8 : Int32) * v1) + v2).toInt = 8 * v1.toInt + v2.toInt := i_add (i_mul (show (8 : Int32).toInt = 8 from rfl) rfl (by omega) (by omega)) rfl (by omega) (by omega)
  have ni := i_nat ti (by omega)
  have ni : (((8 : Int32) * v1) + v2).toNatClampNeg = 8 * v1.toNatClampNeg + v2.toNatClampNeg := by omega
  intro b65 e65
  cases h5.symm.trans e65
  refine ⟨vi_of ti (by omega) (by omega), fun e => by have := congrArg Int32.toInt e; rw [show (0 : Int32).toInt = 0 from rfl] at this; omega, ?_⟩
  intro x68 e68
  rw [ni, o5] at e68
  refine ⟨fun c8 => ?_, fun c8 => hQ _ I1 L w1 f1 (Or.inr ⟨fun g => g.2 (by rw [← e68]; exact c8), rfl, o5, by rw [s52], fun k q _ _ => same k q⟩)⟩
  refine ⟨193, se_L85 w1 v0 kv0 u5 u53 u54 pm' v1 v2 v3 x68 v1.toNatClampNeg v2.toNatClampNeg v3.toNatClampNeg (by omega) (by omega) (by omega) (by omega) (by omega) (by omega) (fun I' L' w' f' g1 g2 g3 => ?_) 193 0 0 I1 L w1 FR.rf rfl (by omega) (fun q hq => absurd hq (by omega)) (by omega)⟩
  rw [o5] at g1
  rw [s52] at g2
  refine hQ x68 I' L' w' (f1.trans w.1 w.2.1 (f'.mono (by decide))) (Or.inl ⟨hC, e68, c8, g1, by rw [g2]; exact Int.toNat_natCast _, fun k q hk hq => ?_⟩)
  rw [g2, Int.toNat_natCast] at hk
  have g := g3 k q (by rw [s52]; exact hk) hq
  rw [g, s52]
  unfold reH
  rw [o5]
  split
  · rfl
  · split
    · exact same _ _
    · exact same _ _
theorem un_L26 {Z : jZ} {J : jI} (wJ : WD Z J) (v0 : Nat) (k0 : jk Z v0 12) (u5 u53 u54 : Nat) (pm : PMs Z v0 u5 u53 u54) (m : Nat) (em : (J v0 52).toInt = (m : Int)) (hm : m ≤ 7) {Q : Int32 → jI → jL → Prop}
    (hQ : ∀ (I : jI) (L : jL), WD Z I → FR [(12, 5)] Z J Z I → (∀ q, q < 192 → I u5 q = J u53 (192 * m + q)) → Q (I v0 52) I L) :
    ∀ (n p : Nat) (v1 : Int32) (I : jI) (L : jL), WD Z I → FR [(12, 5)] Z J Z I → v1.toInt = (p : Int) → p ≤ 192 → (∀ q, q < p → I u5 q = J u53 (192 * m + q)) → 193 ≤ n + p → f_X12_undo_L26 Z Q n v0 v1 I L := by
  obtain ⟨h5, k5, h53, k53, h54, k54⟩ := pm
  have z1 : (1 : Int32).toInt = 1 := rfl
  intro n
  induction n with
  | zero => intro p v1 I L w fr e1 hp h1 hn; exfalso; omega
  | succ n ih =>
    intro p v1 I L w fr e1 hp h1 hn
    have y53 : I u53 = J u53 := fr.2.2.2 v0 12 53 u53 k0 h53 (by rw [k53.2]; rfl) rfl (by decide)
    have y52 : (I v0 52).toInt = (m : Int) := by rw [fr.2.2.1 v0 12 52 k0 (by decide) (by decide)]; exact em
    unfold f_X12_undo_L26
    refine ⟨fun c => ?_, fun c => ?_⟩
    · have c := (i_le (show (192 : Int32).toInt = 192 from rfl) e1).mp c
      exact hQ I L w fr (fun q hq => h1 q (by omega))
    have c := (not_congr (i_le (show (192 : Int32).toInt = 192 from rfl) e1)).mp c
    have q1 := i_nat e1 (by omega)
    have q1 : v1.toNatClampNeg = p := by omega
    have ti : (((192 : Int32) * (I v0 52)) + v1).toInt = 192 * (m : Int) + (p : Int) := i_add (i_mul (show (192 : Int32).toInt = 192 from rfl) y52 (by omega) (by omega)) e1 (by omega) (by omega)
    have ni := i_nat ti (by omega)
    have ni : (((192 : Int32) * (I v0 52)) + v1).toNatClampNeg = 192 * m + p := by omega
    intro b2 e2
    cases h5.symm.trans e2
    intro b3 e3
    cases h53.symm.trans e3
    refine ⟨vi_of ti (by omega) (by omega), vi_of e1 (by omega) (by omega), ?_⟩
    intro I6 e6 x7 e7
    rw [q1, ni, y53] at e6
    refine ih (p + 1) x7 I6 L ?_ ?_ ?_ (by omega) (fun q hq => ?_) (by omega)
    · rw [e6]; exact WD_putA w 12 5 k0 h5 k5 rfl rfl (by decide) trivial
    · refine fr.trans wJ.1 wJ.2.1 ?_
      rw [e6]; exact FR_upA w.2.1 k0 h5 k5 rfl rfl List.mem_cons_self
    · rw [e7]; exact (i_add e1 z1 (by omega) (by omega)).trans (by omega)
    · by_cases hqp : q = p
      · rw [hqp, e6, jpI_at]
      · rw [e6, jpI_off hqp]; exact h1 q (by omega)
theorem s15_X12_undo {Z : jZ} {I : jI} {L : jL} (w : WD Z I) (v0 : Nat) (kv0 : jk Z v0 12) (u5 u53 u54 : Nat) (pm : PMs Z v0 u5 u53 u54) {Q : Int32 → jI → jL → Prop} (hQ : ∀ (r : Int32) (I' : jI) (L' : jL), WD Z I' → FR Ws_X12_undo Z I Z I' → UNDr (I u5) (I' u5) (I v0 52).toInt.toNat (I' v0 52).toInt.toNat (HM I u53) (HM I' u53) r → Q r I' L') : f_X12_undo v0 Z I L Q := by
  have pm' := pm
  obtain ⟨h5, k5, h53, k53, h54, k54⟩ := pm
  have z1 : (1 : Int32).toInt = 1 := rfl
  have t52 : 0 ≤ (I v0 52).toInt ∧ (I v0 52).toInt ≤ 8 := w.fld 12 52 kv0 (by decide)
  unfold f_X12_undo
  intro I8 e8
  have w8 : WD Z I8 := by rw [e8]; exact WD_putF w 12 22 kv0 (by decide) (by decide) trivial
  have f8 : FR Ws_X12_undo Z I Z I8 := by rw [e8]; exact FR_putF kv0 (by decide) (by decide)
  have s52 : I8 v0 52 = I v0 52 := by rw [e8]; exact jpI_o (by decide)
  have o5 : I8 u5 = I u5 := by rw [e8]; exact jpI_ne (ks_ne k5 kv0 (by decide))
  have o53 : I8 u53 = I u53 := by rw [e8]; exact jpI_ne (ks_ne k53 kv0 (by decide))
  refine ⟨fun c => ?_, fun c => ?_⟩
  · rw [s52] at c
    have c := nz c
    intro I10 e10
    have t10 : ((I8 v0 52) - (1 : Int32)).toInt = (I v0 52).toInt - 1 := by rw [s52]; exact i_sub rfl z1 (by omega) (by omega)
    have w10 : WD Z I10 := by rw [e10]; exact WD_putF w8 12 52 kv0 (by decide) (by decide) (show rg 0 8 _ from ⟨by rw [t10]; omega, by rw [t10]; omega⟩)
    have f10 : FR Ws_X12_undo Z I Z I10 := f8.trans w.1 w.2.1 (by rw [e10]; exact FR_putF kv0 (by decide) (by decide))
    have y52 : (I10 v0 52).toInt = (((I v0 52).toInt.toNat - 1 : Nat) : Int) := by rw [e10, jpI_at, t10]; omega
    have y53 : I10 u53 = I u53 := by rw [e10, jpI_ne (ks_ne k53 kv0 (by decide)), o53]
    refine ⟨193, un_L26 w10 v0 kv0 u5 u53 u54 pm' _ y52 (by omega) (fun I' L' w' f' g1 => ?_) 193 0 0 I10 L w10 FR.rf rfl (by omega) (fun q hq => absurd hq (by omega)) (by omega)⟩
    have z52 : (I' v0 52).toInt = (((I v0 52).toInt.toNat - 1 : Nat) : Int) := by rw [f'.2.2.1 v0 12 52 kv0 (by decide) (by decide)]; exact y52
    refine hQ _ I' L' w' (f10.trans w.1 w.2.1 (f'.mono (by decide))) (Or.inr ⟨by omega, by omega, by omega, fun q hq => by rw [g1 q hq, y53]; rfl, fun k q _ _ => ?_⟩)
    unfold HM
    rw [f'.2.2.2 v0 12 53 u53 kv0 h53 (by rw [k53.2]; rfl) rfl (by decide), y53]
  · rw [s52] at c
    have c := yz c
    exact hQ _ I8 L w8 f8 (Or.inl ⟨by omega, rfl, o5, by rw [s52], fun k q _ _ => by unfold HM; rw [o53]⟩)
end
section
/-! ===== a death, as the reference does it ===== -/
def inhM (v : Int32) (B : Nat) (q : Int32) (rem : Int) (P : Nat → Int32) : Nat → Nat → Int32
  | 0 => P
  | k + 1 => if hbt v k = true then upd (inhM v B q rem P k) (B + k) (inhM v B q rem P k (B + k) + (q + od1 v rem k)) else inhM v B q rem P k
def diM (v : Int32) (f : Nat) (P : Nat → Int32) : Nat → Nat → Int32
  | 0 => P
  | s + 1 => inhM v (8 * s) (diM v f P s (8 * s + f) / bcV v) ((diM v f P s (8 * s + f)).toInt % (bcV v).toInt) (upd (diM v f P s) (8 * s + f) 0) 8
theorem x12_has {Z : jZ} {I : jI} {L : jL} {v0 v1 : Int32} {k : Nat} (e : v1 = Int32.ofNat k) {Q : Int32 → jI → jL → Prop} (h1 : hbt v0 k = true → Q 1 I L) (h2 : hbt v0 k = false → Q 0 I L) : f_X12_has v0 v1 Z I L Q := by
  unfold f_X12_has
  subst e
  refine ⟨fun c => h2 (hbt_no ?_), fun c => h1 (hbt_yes (fun e => ?_))⟩
  · rcases and1 (v0 >>> (Int32.ofNat k &&& 31)) with h | h
    · exact h
    · exact absurd h c
  · rw [e] at c
    exact absurd c (by decide)
theorem dm_L115 {Z : jZ} {J : jI} (wJ : WD Z J) (v0 : Nat) (k0 : jk Z v0 12) (u5 : Nat) (h5 : jr Z v0 5 = some u5) (k5 : jk Z u5 14) (l5 : jlen Z u5 = 192) (v1 v2 v3 v4 v5 v6 : Int32) (s : Nat) (e5 : v5.toInt = (s : Int)) (hs : s < 24) (h3 : 0 < v3.toInt ∧ v3.toInt ≤ 63) (h4 : 0 ≤ v4.toInt ∧ v4.toInt ≤ 100000) (h6 : 0 ≤ v6.toInt ∧ v6.toInt ≤ 720) {K : Nat → Int32 → Int32 → Int32 → Int32 → Int32 → jI → jL → Prop} {Q : Int32 → jI → jL → Prop}
    (hK : ∀ (I : jI) (L : jL) (x6 x7 : Int32), WD Z I → FR [(12, 5)] Z J Z I → I u5 = inhM v2 (8 * s) (v6 / v3) (v6.toInt % v3.toInt) (J u5) 8 → x6.toInt = v4.toInt + v6.toInt → x7.toInt = ((s + 1 : Nat) : Int) → K v0 v1 v2 v3 x6 x7 I L) :
    ∀ (n k : Nat) (v7 v8 : Int32) (I : jI) (L : jL), WD Z I → FR [(12, 5)] Z J Z I → v8.toInt = (k : Int) → k ≤ 8 → v7.toInt = (cnt v2 k : Int) → I u5 = inhM v2 (8 * s) (v6 / v3) (v6.toInt % v3.toInt) (J u5) k → 9 ≤ n + k → f_X12_dies_L115 K Z Q n v0 v1 v2 v3 v4 v5 v6 v7 v8 I L := by
  have z1 : (1 : Int32).toInt = 1 := rfl
  have hn3 : ¬ v3 = 0 := fun e => by have := congrArg Int32.toInt e; rw [show (0 : Int32).toInt = 0 from rfl] at this; omega
  have hr : (v6 - v6 / v3 * v3).toInt = v6.toInt % v3.toInt := i_rem rfl rfl h6.1 h3.1
  intro n
  induction n with
  | zero => intro k v7 v8 I L w fr e8 hk e7 ex hn; exfalso; omega
  | succ n ih =>
    intro k v7 v8 I L w fr e8 hk e7 ex hn
    have hc := cnt_le v2 k
    unfold f_X12_dies_L115
    refine ⟨fun c => ?_, fun c => ?_⟩
    · have c := (i_le (show (8 : Int32).toInt = 8 from rfl) e8).mp c
      have ek : k = 8 := by omega
      subst ek
      intro x6 e6 x7 e7'
      refine hK I L x6 x7 w fr ex ?_ ?_
      · rw [e6]; exact i_add rfl rfl (by omega) (by omega)
      · rw [e7']; exact (i_add e5 z1 (by omega) (by omega)).trans (by omega)
    have c := (not_congr (i_le (show (8 : Int32).toInt = 8 from rfl) e8)).mp c
    have s8 : v8 = Int32.ofNat k := (i_eq e8 (i_nI (n := k) (by omega))).mpr rfl
    have nx : ∀ x : Int32, x = v8 + 1 → x.toInt = ((k + 1 : Nat) : Int) := fun x e => by rw [e]; exact (i_add e8 z1 (by omega) (by omega)).trans (by omega)
    have ti : (((8 : Int32) * v5) + v8).toInt = 8 * (s : Int) + (k : Int) := i_add (i_mul (show (8 : Int32).toInt = 8 from rfl) e5 (by omega) (by omega)) e8 (by omega) (by omega)
    have ni := i_nat ti (by omega)
    have ni : (((8 : Int32) * v5) + v8).toNatClampNeg = 8 * s + k := by omega
    refine x12_has s8 (fun hb => ⟨fun _ => ?_, fun c => absurd c (by decide)⟩) (fun hb => ⟨fun c => absurd rfl c, fun _ => ?_⟩)
    · intro b16 e16
      cases h5.symm.trans e16
      refine ⟨vi_of ti (by omega) (by omega), hn3, hn3, ?_⟩
      have go : ∀ s4 : Int32, s4 = od1 v2 (v6.toInt % v3.toInt) k → f_X12_dies_b166 K (f_X12_dies_L115 K Z Q n) Z Q v0 v1 v2 v3 v4 v5 v6 v7 v8 u5 (((8 : Int32) * v5) + v8) (I u5 (((8 : Int32) * v5) + v8).toNatClampNeg) (v6 / v3) s4 I L := fun s4 hs4 => by
        unfold f_X12_dies_b166
        refine ⟨by rw [l5]; exact vi_of ti (by omega) (by omega), ?_⟩
        intro I3 e3 x4 e4
        rw [ni] at e3
        unfold f_X12_dies_b172
        intro x1 ex1
        refine ih (k + 1) x4 x1 I3 L ?_ ?_ (nx x1 ex1) (by omega) ?_ ?_ (by omega)
        · rw [e3]; exact WD_putA w 12 5 k0 h5 k5 rfl rfl (by decide) trivial
        · refine fr.trans wJ.1 wJ.2.1 ?_
          rw [e3]; exact FR_upA w.2.1 k0 h5 k5 rfl rfl List.mem_cons_self
        · rw [e4]
          show _ = ((cnt v2 k + (if hbt v2 k = true then 1 else 0) : Nat) : Int)
          rw [hb, if_pos rfl]
          exact (i_add e7 z1 (by omega) (by omega)).trans (by omega)
        · rw [e3, hs4]
          refine (va_up_self _ _ _).trans ?_
          show _ = (if hbt v2 k = true then _ else _)
          rw [hb, if_pos rfl, ex]
      refine ⟨fun c2 => go 0 ?_, fun c2 => go 1 ?_⟩
      · have c2 := (i_le hr e7).mp c2
        unfold od1
        rw [if_neg (by omega)]
      · have c2 := (not_congr (i_le hr e7)).mp c2
        unfold od1
        rw [if_pos (by omega)]
    · unfold f_X12_dies_b172
      intro x1 ex1
      refine ih (k + 1) v7 x1 I L w fr (nx x1 ex1) (by omega) ?_ ?_ (by omega)
      · rw [e7]
        show _ = ((cnt v2 k + (if hbt v2 k = true then 1 else 0) : Nat) : Int)
        rw [hb, if_neg (by decide)]
        omega
      · rw [ex]
        show _ = (if hbt v2 k = true then _ else _)
        rw [hb, if_neg (by decide)]
/-- both ways come to the same -/
def tk (v : Int32) (Q rem : Int) : Nat → Int
  | 0 => 0
  | k + 1 => tk v Q rem k + (if hbt v k = true then Q + (if (cnt v k : Int) < rem then 1 else 0) else 0)
theorem tk_eq (v : Int32) (Q rem : Int) (hr : 0 ≤ rem) : ∀ k, tk v Q rem k = (cnt v k : Int) * Q + min (cnt v k : Int) rem := by
  intro k
  induction k with
  | zero =>
    show (0 : Int) = ((0 : Nat) : Int) * Q + min ((0 : Nat) : Int) rem
    rw [show ((0 : Nat) : Int) = 0 from rfl, Int.zero_mul]
    omega
  | succ k ih =>
    show tk v Q rem k + (if hbt v k = true then Q + (if (cnt v k : Int) < rem then 1 else 0) else 0) = ((cnt v k + (if hbt v k = true then 1 else 0) : Nat) : Int) * Q + min ((cnt v k + (if hbt v k = true then 1 else 0) : Nat) : Int) rem
    rw [ih]
    by_cases c : hbt v k = true
    · rw [if_pos c, if_pos c, show ((cnt v k + 1 : Nat) : Int) = (cnt v k : Int) + 1 from rfl, Int.add_mul, Int.one_mul]
      generalize (cnt v k : Int) * Q = T
      split <;> omega
    · rw [if_neg c, if_neg c]
      show _ + 0 = ((cnt v k : Nat) : Int) * Q + min ((cnt v k : Nat) : Int) rem
      omega
theorem tk_le (v : Int32) (Q rem : Int) (h0 : 0 ≤ Q) : ∀ k, 0 ≤ tk v Q rem k ∧ tk v Q rem k ≤ tk v Q rem (k + 1) := by
  intro k
  have st : ∀ j, tk v Q rem j ≤ tk v Q rem (j + 1) := fun j => by
    show _ ≤ tk v Q rem j + (if hbt v j = true then Q + (if (cnt v j : Int) < rem then 1 else 0) else 0)
    split
    · split <;> omega
    · omega
  refine ⟨?_, st k⟩
  induction k with
  | zero => exact Int.le_refl 0
  | succ k ih => exact Int.le_trans ih (st k)
theorem tk_mono (v : Int32) (Q rem : Int) (h0 : 0 ≤ Q) : ∀ k n, tk v Q rem k ≤ tk v Q rem (k + n) := by
  intro k n
  induction n with
  | zero => exact Int.le_refl _
  | succ n ih => exact Int.le_trans ih (tk_le v Q rem h0 (k + n)).2
theorem inh_eq {v : Int32} {B f : Nat} {P : Nat → Int32} (hf : f < 8) (hv : 1 ≤ v.toInt ∧ v.toInt ≤ 255) (hb : hbt v f = false) (ho : 0 ≤ (P (B + f)).toInt ∧ (P (B + f)).toInt ≤ 720) : inhC v B f (P (B + f) / bcV v) ((P (B + f)).toInt % (bcV v).toInt) P 8 = inhM v B (P (B + f) / bcV v) ((P (B + f)).toInt % (bcV v).toInt) (upd P (B + f) 0) 8 := by
  have bc := bc_rg hv.1 hv.2
  have hq : (P (B + f) / bcV v).toInt = (P (B + f)).toInt / (bcV v).toInt := i_div rfl rfl ho.1 bc.1
  have m0 := Int.emod_nonneg (P (B + f)).toInt (show (bcV v).toInt ≠ 0 by omega)
  have m1 := Int.emod_lt_of_pos (P (B + f)).toInt bc.1
  have q0 : 0 ≤ (P (B + f)).toInt / (bcV v).toInt := Int.ediv_nonneg ho.1 (by omega)
  have hdm := Int.mul_ediv_add_emod (P (B + f)).toInt (bcV v).toInt
  generalize hQ : (P (B + f)).toInt / (bcV v).toInt = QQ at hq q0 hdm
  generalize hR : (P (B + f)).toInt % (bcV v).toInt = RR at m0 m1 hdm
  generalize hq' : P (B + f) / bcV v = qq at hq
  have total : tk v QQ RR 8 = (P (B + f)).toInt := by
    rw [tk_eq v QQ RR m0 8, ← bc_cnt hv.1 hv.2]
    generalize hT : (bcV v).toInt * QQ = T at hdm
    omega
  have key : ∀ k, k ≤ 8 → (∀ z, z ≠ B + f → inhC v B f qq RR P k z = inhM v B qq RR (upd P (B + f) 0) k z) ∧ inhM v B qq RR (upd P (B + f) 0) k (B + f) = 0 ∧ (inhC v B f qq RR P k (B + f)).toInt = (P (B + f)).toInt - tk v QQ RR k := by
    intro k
    induction k with
    | zero =>
      intro _
      refine ⟨fun z hz => (if_neg hz : upd P (B + f) 0 z = P z).symm, (if_pos rfl : upd P (B + f) 0 (B + f) = 0), ?_⟩
      show (P (B + f)).toInt = (P (B + f)).toInt - 0
      omega
    | succ k ih =>
      intro hk
      obtain ⟨i1, i2, i3⟩ := ih (by omega)
      have tm := tk_mono v QQ RR q0 (k + 1) (8 - (k + 1))
      rw [show k + 1 + (8 - (k + 1)) = 8 by omega, total] at tm
      have t0 := (tk_le v QQ RR q0 k).1
      by_cases c : hbt v k = true
      · have hkf : B + k ≠ B + f := fun e => by
          have : k = f := by omega
          rw [this, hb] at c
          exact absurd c (by decide)
        have c1 : inhC v B f qq RR P (k + 1) = mvP (inhC v B f qq RR P k) (B + f) (B + k) (qq + od1 v RR k) := by show (if _ then _ else _) = _; rw [if_pos c]
        have c2 : inhM v B qq RR (upd P (B + f) 0) (k + 1) = upd (inhM v B qq RR (upd P (B + f) 0) k) (B + k) (inhM v B qq RR (upd P (B + f) 0) k (B + k) + (qq + od1 v RR k)) := by show (if _ then _ else _) = _; rw [if_pos c]
        have tS : tk v QQ RR (k + 1) = tk v QQ RR k + (QQ + (if (cnt v k : Int) < RR then 1 else 0)) := by show _ + (if _ then _ else _) = _; rw [if_pos c]
        have ox : (od1 v RR k).toInt = (if (cnt v k : Int) < RR then 1 else 0) := by unfold od1; split <;> rfl
        have hx : (qq + od1 v RR k).toInt = QQ + (if (cnt v k : Int) < RR then 1 else 0) := i_add hq ox (by split <;> omega) (by split <;> omega)
        rw [c1, c2]
        refine ⟨fun z hz => ?_, ?_, ?_⟩
        · by_cases hzk : z = B + k
          · rw [hzk]
            unfold mvP
            refine (if_pos rfl : upd _ (B + k) _ (B + k) = _).trans ?_
            refine Eq.trans ?_ (if_pos rfl : upd (inhM v B qq RR (upd P (B + f) 0) k) (B + k) _ (B + k) = _).symm
            rw [show upd (inhC v B f qq RR P k) (B + f) (inhC v B f qq RR P k (B + f) - (qq + od1 v RR k)) (B + k) = inhC v B f qq RR P k (B + k) from if_neg hkf, i1 (B + k) hkf]
          · unfold mvP
            refine (if_neg hzk : upd _ (B + k) _ z = _).trans ?_
            refine (if_neg hz : upd _ (B + f) _ z = _).trans ?_
            exact (i1 z hz).trans (if_neg hzk : upd (inhM v B qq RR (upd P (B + f) 0) k) (B + k) _ z = _).symm
        · exact (if_neg (fun e => hkf e.symm) : upd (inhM v B qq RR (upd P (B + f) 0) k) (B + k) _ (B + f) = _).trans i2
        · unfold mvP
          rw [show upd (upd (inhC v B f qq RR P k) (B + f) (inhC v B f qq RR P k (B + f) - (qq + od1 v RR k))) (B + k) (upd (inhC v B f qq RR P k) (B + f) (inhC v B f qq RR P k (B + f) - (qq + od1 v RR k)) (B + k) + (qq + od1 v RR k)) (B + f) = inhC v B f qq RR P k (B + f) - (qq + od1 v RR k) from (if_neg (fun e => hkf e.symm)).trans (if_pos rfl)]
          rw [i_sub i3 hx (by omega) (by omega)]
          omega
      · have c1 : inhC v B f qq RR P (k + 1) = inhC v B f qq RR P k := by show (if _ then _ else _) = _; rw [if_neg c]
        have c2 : inhM v B qq RR (upd P (B + f) 0) (k + 1) = inhM v B qq RR (upd P (B + f) 0) k := by show (if _ then _ else _) = _; rw [if_neg c]
        have tS : tk v QQ RR (k + 1) = tk v QQ RR k := by show _ + (if _ then _ else _) = _; rw [if_neg c]; omega
        rw [c1, c2, tS]
        exact ⟨i1, i2, i3⟩
  obtain ⟨i1, i2, i3⟩ := key 8 (Nat.le_refl 8)
  funext z
  by_cases hz : z = B + f
  · rw [hz, i2]
    refine (i_eq rfl (show (0 : Int32).toInt = 0 from rfl)).mpr ?_
    rw [i3, total]
    omega
  · exact i1 z hz
theorem di_eq {v : Int32} {f : Nat} {P : Nat → Int32} (hf : f < 8) (hv : 1 ≤ v.toInt ∧ v.toInt ≤ 255) (hb : hbt v f = false) : ∀ n, (∀ s, s < n → 0 ≤ (P (8 * s + f)).toInt ∧ (P (8 * s + f)).toInt ≤ 720) → diC v f P n = diM v f P n := by
  intro n
  induction n with
  | zero => intro _; rfl
  | succ n ih =>
    intro h
    have e := ih (fun s hs => h s (by omega))
    have eo : diC v f P n (8 * n + f) = P (8 * n + f) := diC_off hf n _ (by omega)
    show inhC v (8 * n) f (diC v f P n (8 * n + f) / bcV v) ((diC v f P n (8 * n + f)).toInt % (bcV v).toInt) (diC v f P n) 8 = inhM v (8 * n) (diM v f P n (8 * n + f) / bcV v) ((diM v f P n (8 * n + f)).toInt % (bcV v).toInt) (upd (diM v f P n) (8 * n + f) 0) 8
    rw [← e]
    exact inh_eq hf hv hb (by rw [eo]; exact h n (by omega))
/-- dies of the reference -/
def DIMr (n : Nat) (P P' : Nat → Int32) (m m' : Nat) (H H' : Nat → Nat → Int32) (v1 v2 r : Int32) : Prop :=
  (¬ DIEc v1 v2 ∧ r.toInt = -1 ∧ P' = P ∧ m' = m ∧ ∀ k q, k < m' → q < 192 → H' k q = H k q) ∨
  (DIEc v1 v2 ∧ r.toInt = shS (fun s => (P (8 * s + v1.toNatClampNeg)).toInt) n ∧ P' = diM v2 v1.toNatClampNeg P n ∧ ((r.toInt ≤ 0 ∧ m' = m ∧ ∀ k q, k < m' → q < 192 → H' k q = H k q) ∨ (0 < r.toInt ∧ m' = reM m ∧ ∀ k q, k < m' → q < 192 → H' k q = reH m H P k q)))
theorem inhM_off {v : Int32} {B : Nat} {q : Int32} {rem : Int} {P : Nat → Int32} {z : Nat} (hz : z < B ∨ B + 8 ≤ z) : ∀ k, k ≤ 8 → inhM v B q rem P k z = P z := by
  intro k
  induction k with
  | zero => intro _; rfl
  | succ k ih =>
    intro hk
    show (if hbt v k = true then upd (inhM v B q rem P k) (B + k) _ else inhM v B q rem P k) z = P z
    split
    · exact (if_neg (by omega) : upd _ (B + k) _ z = _).trans (ih (by omega))
    · exact ih (by omega)
theorem diM_off {v : Int32} {f : Nat} {P : Nat → Int32} (hf : f < 8) : ∀ (s z : Nat), 8 * s ≤ z → diM v f P s z = P z := by
  intro s
  induction s with
  | zero => intro z _; rfl
  | succ s ih =>
    intro z hz
    show inhM v (8 * s) _ _ (upd (diM v f P s) (8 * s + f) 0) 8 z = P z
    rw [inhM_off (by omega) 8 (Nat.le_refl 8)]
    exact (if_neg (by omega) : upd _ (8 * s + f) _ z = _).trans (ih z (by omega))
theorem shS_bd {g : Nat → Int} {n : Nat} (h : ∀ i, i < n → 0 ≤ g i ∧ g i ≤ 720) : ∀ i, i ≤ n → 0 ≤ shS g i ∧ shS g i ≤ 720 * (i : Int) := by
  intro i
  induction i with
  | zero => intro _; exact ⟨by show (0 : Int) ≤ 0; omega, by show (0 : Int) ≤ 720 * 0; omega⟩
  | succ i ih =>
    intro hi
    have h1 := ih (by omega)
    have h2 := h i (by omega)
    show 0 ≤ shS g i + g i ∧ shS g i + g i ≤ 720 * ((i + 1 : Nat) : Int)
    omega
theorem dm_L73 {Z : jZ} {J : jI} (wJ : WD Z J) (v0 : Nat) (k0 : jk Z v0 12) (u5 u53 u54 : Nat) (pm : PMs Z v0 u5 u53 u54) (v1 v2 : Int32) (f n : Nat) (en : (J v0 0).toInt = (n : Int)) (hn : n ≤ 24) (e1 : v1.toInt = (f : Int)) (hf : f < 8) (h2 : 1 ≤ v2.toInt ∧ v2.toInt ≤ 255) (ho : ∀ s, s < n → 0 ≤ (J u5 (8 * s + f)).toInt ∧ (J u5 (8 * s + f)).toInt ≤ 720) {Q : Int32 → jI → jL → Prop}
    (hQ : ∀ (r : Int32) (I : jI) (L : jL), WD Z I → FR [(12, 5), (12, 52), (12, 53)] Z J Z I → I u5 = diM v2 f (J u5) n → r.toInt = shS (fun s => (J u5 (8 * s + f)).toInt) n → ((r.toInt ≤ 0 ∧ I v0 52 = J v0 52 ∧ I u53 = J u53) ∨ (0 < r.toInt ∧ (I v0 52).toInt = (reM (J v0 52).toInt.toNat : Int) ∧ ∀ k q, k < reM (J v0 52).toInt.toNat → q < 192 → HM I u53 k q = reH (J v0 52).toInt.toNat (HM J u53) (J u54) k q)) → Q r I L) :
    ∀ (m s : Nat) (v4 v5 : Int32) (I : jI) (L : jL), WD Z I → FR [(12, 5)] Z J Z I → v5.toInt = (s : Int) → s ≤ n → v4.toInt = shS (fun s => (J u5 (8 * s + f)).toInt) s → I u5 = diM v2 f (J u5) s → n + 1 ≤ m + s → f_X12_dies_L73 Z Q m v0 v1 v2 (bcV v2) v4 v5 I L := by
  have pm' := pm
  obtain ⟨h5, k5, h53, k53, h54, k54⟩ := pm
  obtain ⟨x, ex, -, l5⟩ := sh_f wJ.1 k0 (j := 5) (k := 14) (m := 192) rfl
  cases h5.symm.trans ex
  have hS := shS_bd (g := fun s => (J u5 (8 * s + f)).toInt) (n := n) ho
  intro m
  induction m with
  | zero => intro s v4 v5 I L w fr e5 hs e4 ex hm; exfalso; omega
  | succ m ih =>
    intro s v4 v5 I L w fr e5 hs e4 ex hm
    have s0 : (I v0 0).toInt = (n : Int) := by rw [fr.2.2.1 v0 12 0 k0 (by decide) (by decide)]; exact en
    have y52 : I v0 52 = J v0 52 := fr.2.2.1 v0 12 52 k0 (by decide) (by decide)
    have y53 : I u53 = J u53 := fr.2.2.2 v0 12 53 u53 k0 h53 (by rw [k53.2]; rfl) rfl (by decide)
    have y54 : I u54 = J u54 := fr.2.2.2 v0 12 54 u54 k0 h54 (by rw [k54.2]; rfl) rfl (by decide)
    have hb4 := hS s hs
    unfold f_X12_dies_L73
    refine ⟨fun c => ?_, fun c => ?_⟩
    · have c := (i_le s0 e5).mp c
      have es : s = n := by omega
      subst es
      refine ⟨fun c2 => ?_, fun c2 => ?_⟩
      · have c2 := (i_le (x := v4) (y := 0) rfl (show (0 : Int32).toInt = 0 from rfl)).mp c2
        exact hQ v4 I L w (fr.mono (by decide)) ex e4 (Or.inl ⟨c2, y52, y53⟩)
      · have c2 := (not_congr (i_le (x := v4) (y := 0) rfl (show (0 : Int32).toInt = 0 from rfl))).mp c2
        refine s15_X12_rememberParts w v0 k0 u53 h53 u54 h54 (fun I' L' w' f' g1 g2 => ?_)
        refine hQ v4 I' L' w' ((fr.mono (by decide)).trans wJ.1 wJ.2.1 (f'.mono (by decide))) ?_ e4 (Or.inr ⟨by omega, by rw [g1, y52], fun k q hk hq => ?_⟩)
        · rw [f'.2.2.2 v0 12 5 u5 k0 h5 (by rw [k5.2]; rfl) rfl (by decide)]; exact ex
        · have g := g2 k q (by rw [y52]; exact hk) hq
          rw [g, y52, y54]
          unfold reH HM
          rw [y53]
    have c := (not_congr (i_le s0 e5)).mp c
    have ti : (((8 : Int32) * v5) + v1).toInt = 8 * (s : Int) + (f : Int) := i_add (i_mul (show (8 : Int32).toInt = 8 from rfl) e5 (by omega) (by omega)) e1 (by omega) (by omega)
    have ni := i_nat ti (by omega)
    have ni : (((8 : Int32) * v5) + v1).toNatClampNeg = 8 * s + f := by omega
    have eo : I u5 (8 * s + f) = J u5 (8 * s + f) := by rw [ex]; exact diM_off hf s _ (by omega)
    have hos := ho s (by omega)
    intro b29 e29
    cases h5.symm.trans e29
    refine ⟨vi_of ti (by omega) (by omega), ?_⟩
    intro x31 e31 b32 e32
    cases h5.symm.trans e32
    rw [ni] at e31
    refine ⟨vi_of ti (by omega) (by omega), ?_⟩
    intro I34 e34
    rw [ni] at e34
    have w34 : WD Z I34 := by rw [e34]; exact WD_putA w 12 5 k0 h5 k5 rfl rfl (by decide) trivial
    have f34 : FR [(12, 5)] Z I Z I34 := by rw [e34]; exact FR_upA w.2.1 k0 h5 k5 rfl rfl List.mem_cons_self
    have y34 : I34 u5 = upd (diM v2 f (J u5) s) (8 * s + f) 0 := by rw [e34]; exact (va_up_self _ _ _).trans (by rw [ex])
    have x31e : x31 = diM v2 f (J u5) s (8 * s + f) := by rw [e31, ex]
    have h6 : 0 ≤ x31.toInt ∧ x31.toInt ≤ 720 := by rw [e31, eo]; exact hos
    refine ⟨9, dm_L115 w34 v0 k0 u5 h5 k5 l5 v1 v2 (bcV v2) v4 v5 x31 s e5 (by omega) (bc_rg h2.1 h2.2) (by omega) h6 (fun I' L' x6 x7 w' f' g1 g2 g3 => ?_) 9 0 0 0 I34 L w34 FR.rf rfl (by omega) rfl rfl (by omega)⟩
    refine ih (s + 1) x6 x7 I' L' w' ((fr.trans wJ.1 wJ.2.1 f34).trans wJ.1 wJ.2.1 f') g3 (by omega) ?_ ?_ (by omega)
    · rw [g2, e4, e31, eo]; rfl
    · rw [g1, y34, x31e]; rfl
theorem dm_L35 {Z : jZ} {J : jI} (wJ : WD Z J) (v0 : Nat) (k0 : jk Z v0 12) (u5 u53 u54 : Nat) (pm : PMs Z v0 u5 u53 u54) (v1 v2 : Int32) (f n : Nat) (en : (J v0 0).toInt = (n : Int)) (hn : n ≤ 24) (e1 : v1.toInt = (f : Int)) (hf : f < 8) (h2 : 1 ≤ v2.toInt ∧ v2.toInt ≤ 255) (ho : ∀ s, s < n → 0 ≤ (J u5 (8 * s + f)).toInt ∧ (J u5 (8 * s + f)).toInt ≤ 720) {Q : Int32 → jI → jL → Prop}
    (hQ : ∀ (r : Int32) (I : jI) (L : jL), WD Z I → FR [(12, 5), (12, 52), (12, 53), (12, 54)] Z J Z I → I u5 = diM v2 f (J u5) n → r.toInt = shS (fun s => (J u5 (8 * s + f)).toInt) n → ((r.toInt ≤ 0 ∧ I v0 52 = J v0 52 ∧ I u53 = J u53) ∨ (0 < r.toInt ∧ (I v0 52).toInt = (reM (J v0 52).toInt.toNat : Int) ∧ ∀ k q, k < reM (J v0 52).toInt.toNat → q < 192 → HM I u53 k q = reH (J v0 52).toInt.toNat (HM J u53) (J u5) k q)) → Q r I L) :
    ∀ (m p : Nat) (v3 : Int32) (I : jI) (L : jL), WD Z I → FR [(12, 54)] Z J Z I → v3.toInt = (p : Int) → p ≤ 192 → (∀ q, q < p → I u54 q = J u5 q) → 193 ≤ m + p → f_X12_dies_L35 Z Q m v0 v1 v2 v3 I L := by
  have pm' := pm
  obtain ⟨h5, k5, h53, k53, h54, k54⟩ := pm
  have z1 : (1 : Int32).toInt = 1 := rfl
  intro m
  induction m with
  | zero => intro p v3 I L w fr e3 hp h1 hm; exfalso; omega
  | succ m ih =>
    intro p v3 I L w fr e3 hp h1 hm
    have y5 : I u5 = J u5 := fr.2.2.2 v0 12 5 u5 k0 h5 (by rw [k5.2]; rfl) rfl (by decide)
    have y53 : I u53 = J u53 := fr.2.2.2 v0 12 53 u53 k0 h53 (by rw [k53.2]; rfl) rfl (by decide)
    have y52 : I v0 52 = J v0 52 := fr.2.2.1 v0 12 52 k0 (by decide) (by decide)
    have y0 : (I v0 0).toInt = (n : Int) := by rw [fr.2.2.1 v0 12 0 k0 (by decide) (by decide)]; exact en
    unfold f_X12_dies_L35
    intro b36 e36
    cases h54.symm.trans e36
    refine ⟨fun c => ?_, fun c => ?_⟩
    · have c := (i_le (show (192 : Int32).toInt = 192 from rfl) e3).mp c
      refine s_J6_bitCount_0f7a4 w v2 (fun r44 p44 => ?_)
      obtain ⟨rfl, -⟩ := p44
      refine ⟨n + 1, dm_L73 w v0 k0 u5 u53 u54 pm' v1 v2 f n y0 hn e1 hf h2 (fun s hs => by rw [y5]; exact ho s hs) (fun r I' L' w' f' g1 g2 g3 => ?_) (n + 1) 0 0 0 I L w FR.rf rfl (by omega) rfl rfl (by omega)⟩
      rw [y5] at g1 g2
      refine hQ r I' L' w' ((fr.mono (by decide)).trans wJ.1 wJ.2.1 (f'.mono (by decide))) g1 g2 ?_
      rcases g3 with ⟨a1, a2, a3⟩ | ⟨a1, a2, a3⟩
      · exact Or.inl ⟨a1, by rw [a2, y52], by rw [a3, y53]⟩
      · refine Or.inr ⟨a1, by rw [a2, y52], fun k q hk hq => ?_⟩
        rw [a3 k q (by rw [y52]; exact hk) hq, y52]
        unfold reH HM
        rw [y53]
        split
        · exact h1 q (by omega)
        · rfl
    have c := (not_congr (i_le (show (192 : Int32).toInt = 192 from rfl) e3)).mp c
    have q3 := i_nat e3 (by omega)
    have q3 : v3.toNatClampNeg = p := by omega
    intro b46 e46
    cases h54.symm.trans e46
    intro b47 e47
    cases h5.symm.trans e47
    refine ⟨vi_of e3 (by omega) (by omega), vi_of e3 (by omega) (by omega), ?_⟩
    intro I50 e50 x51 e51
    rw [q3, y5] at e50
    refine ih (p + 1) x51 I50 L ?_ ?_ ?_ (by omega) (fun q hq => ?_) (by omega)
    · rw [e50]; exact WD_putA w 12 54 k0 h54 k54 rfl rfl (by decide) trivial
    · refine fr.trans wJ.1 wJ.2.1 ?_
      rw [e50]; exact FR_upA w.2.1 k0 h54 k54 rfl rfl List.mem_cons_self
    · rw [e51]; exact (i_add e3 z1 (by omega) (by omega)).trans (by omega)
    · by_cases hqp : q = p
      · rw [hqp, e50, jpI_at]
      · rw [e50, jpI_off hqp]; exact h1 q (by omega)
theorem s15_X12_dies {Z : jZ} {I : jI} {L : jL} (w : WD Z I) (v0 : Nat) (v1 v2 : Int32) (kv0 : jk Z v0 12) (u5 u53 u54 : Nat) (pm : PMs Z v0 u5 u53 u54) (n : Nat) (en : (I v0 0).toInt = (n : Int)) (hb : ∀ z, z < 8 * n → 0 ≤ (I u5 z).toInt ∧ (I u5 z).toInt ≤ 720) {Q : Int32 → jI → jL → Prop} (hQ : ∀ (r : Int32) (I' : jI) (L' : jL), WD Z I' → FR Ws_X12_dies Z I Z I' → DIMr n (I u5) (I' u5) (I v0 52).toInt.toNat (I' v0 52).toInt.toNat (HM I u53) (HM I' u53) v1 v2 r → Q r I' L') : f_X12_dies v0 v1 v2 Z I L Q := by
  have pm' := pm
  obtain ⟨h5, k5, h53, k53, h54, k54⟩ := pm
  have t0 : 0 ≤ (I v0 0).toInt ∧ (I v0 0).toInt ≤ 24 := w.fld 12 0 kv0 (by decide)
  have z1 : (1 : Int32).toInt = 1 := rfl
  have z255 : (255 : Int32).toInt = 255 := rfl
  unfold f_X12_dies
  intro I1 e1
  have w1 : WD Z I1 := by rw [e1]; exact WD_putF w 12 22 kv0 (by decide) (by decide) trivial
  have f1 : FR Ws_X12_dies Z I Z I1 := by rw [e1]; exact FR_putF kv0 (by decide) (by decide)
  have s0 : (I1 v0 0).toInt = (n : Int) := by rw [e1, jpI_o (by decide)]; exact en
  have s52 : I1 v0 52 = I v0 52 := by rw [e1]; exact jpI_o (by decide)
  have o5 : I1 u5 = I u5 := by rw [e1]; exact jpI_ne (ks_ne k5 kv0 (by decide))
  have o53 : I1 u53 = I u53 := by rw [e1]; exact jpI_ne (ks_ne k53 kv0 (by decide))
  have same : ∀ k q, HM I1 u53 k q = HM I u53 k q := fun k q => by unfold HM; rw [o53]
  have bad : ¬ DIEc v1 v2 → Q (-1 : Int32) I1 L := fun h => hQ _ I1 L w1 f1 (Or.inl ⟨h, rfl, o5, by rw [s52], fun k q _ _ => same k q⟩)
  refine s_X12_isFamily w1 v1 (fun r p => ⟨fun c => bad (fun g => by have c := yz c; have := g.1; omega), fun c => ?_⟩)
  have c := nz c
  have n1 := i_nat (x := v1) rfl (by omega)
  have s1 : v1 = Int32.ofNat v1.toNatClampNeg := (i_eq rfl (i_nI (n := v1.toNatClampNeg) (by omega))).mpr (by omega)
  refine s_X12_in w1 _ _ _ (fun r2 p2 => ⟨fun c => bad (fun g => by have c := yz c; have := g.2.1; omega), fun c2 => ?_⟩)
  have c2 := nz c2
  refine x12_has s1 (fun hbv => ⟨fun c => absurd c (by decide), fun _ => bad (fun g => by have g3 := g.2.2; rw [hbv] at g3; exact absurd g3 (by decide))⟩) (fun hbv => ⟨fun _ => ?_, fun c => absurd rfl c⟩)
  have hC : DIEc v1 v2 := ⟨by omega, by omega, hbv⟩
  refine ⟨193, dm_L35 w1 v0 kv0 u5 u53 u54 pm' v1 v2 v1.toNatClampNeg n s0 (by omega) (by omega) (by omega) ⟨by omega, by omega⟩ (fun s hs => by rw [o5]; exact hb _ (by omega)) (fun r I' L' w' f' g1 g2 g3 => ?_) 193 0 0 I1 L w1 FR.rf rfl (by omega) (fun q hq => absurd hq (by omega)) (by omega)⟩
  rw [o5] at g1 g2
  refine hQ r I' L' w' (f1.trans w.1 w.2.1 (f'.mono (by decide))) (Or.inr ⟨hC, g2, g1, ?_⟩)
  rcases g3 with ⟨a1, a2, a3⟩ | ⟨a1, a2, a3⟩
  · exact Or.inl ⟨a1, by rw [a2, s52], fun k q _ _ => by unfold HM; rw [a3, o53]⟩
  · rw [s52] at a2
    refine Or.inr ⟨a1, by rw [a2]; exact Int.toNat_natCast _, fun k q hk hq => ?_⟩
    rw [a2, Int.toNat_natCast] at hk
    rw [a3 k q (by rw [s52]; exact hk) hq, s52]
    unfold reH
    rw [o5]
    split
    · rfl
    · split
      · exact same _ _
      · exact same _ _
end
section
/-! ===== PARTS as THE STAIRS tell them ===== -/
theorem fl_L5 {Z : jZ} {J : jI} (wJ : WD Z J) (v0 : Nat) (k0 : jk Z v0 4) (x0 : Nat) (h0 : jr Z v0 0 = some x0) (kx : jk Z x0 14) (l0 : jlen Z x0 = 192) (v3 : Int32) (e3 : v3.toInt = 192) {Q : jI → jL → Prop} (hQ : ∀ (I : jI) (L : jL), WD Z I → FR [(4, 0)] Z J Z I → (∀ q, q < 192 → I x0 q = 0) → Q I L) :
    ∀ (n p : Nat) (v2 : Int32) (I : jI) (L : jL), WD Z I → FR [(4, 0)] Z J Z I → v2.toInt = (p : Int) → p ≤ 192 → (∀ q, q < p → I x0 q = 0) → 193 ≤ n + p → f_J7_fill_53178_L5 Z Q n x0 0 v2 v3 I L := by
  intro n
  induction n with
  | zero => intro p v2 I L w f e2 hp h1 hn; exfalso; omega
  | succ n ih =>
    intro p v2 I L w f e2 hp h1 hn
    unfold f_J7_fill_53178_L5
    refine ⟨fun c => ?_, fun c => ?_⟩
    · have c := (i_le e3 e2).mp c
      exact hQ I L w f (fun q hq => h1 q (by omega))
    have c := (not_congr (i_le e3 e2)).mp c
    have q2 := i_nat e2 (by omega)
    have q2 : v2.toNatClampNeg = p := by omega
    refine ⟨by rw [l0]; exact vi_of e2 (by omega) (by omega), ?_⟩
    intro I3 ei x4 e4
    rw [q2] at ei
    refine ih (p + 1) x4 I3 L ?_ ?_ ?_ (by omega) (fun q hq => ?_) (by omega)
    · rw [ei]; exact WD_putA w 4 0 k0 h0 kx rfl rfl (by decide) trivial
    · refine f.trans wJ.1 wJ.2.1 ?_
      rw [ei]; exact FR_upA w.2.1 k0 h0 kx rfl rfl List.mem_cons_self
    · rw [e4]; exact (i_add e2 (show (1 : Int32).toInt = 1 from rfl) (by omega) (by omega)).trans (by omega)
    · by_cases hqp : q = p
      · rw [hqp, ei, jpI_at]
      · rw [ei, jpI_off hqp]; exact h1 q (by omega)
def DLc (n : Int) (W : Nat → Int32) (P : Nat → Int32) (i : Nat) : Prop := ∀ s g : Nat, s < 24 → g < 8 → (P (8 * s + g)).toInt = if (s < i ∧ (s : Int) < n) ∧ (g : Int) = (W s).toInt then 720 else 0
theorem de_L10 {Z : jZ} {J : jI} (wJ : WD Z J) (v0 : Nat) (k0 : jk Z v0 4) (x0 : Nat) (h0 : jr Z v0 0 = some x0) (kx : jk Z x0 14) (v1 : Nat) (k1 : jk Z v1 14) (l1 : jlen Z v1 = 24) (n1 : v1 ≠ x0) (v2 : Int32) {Q : jI → jL → Prop}
    (hQ : ∀ (I : jI) (L : jL), WD Z I → FR Ws_X4_deal Z J Z I → (I v0 4).toInt = 0 → DLc v2.toInt (J v1) (I x0) 24 → Q I L) :
    ∀ (m i : Nat) (v3 : Int32) (I : jI) (L : jL), WD Z I → FR [(4, 0)] Z J Z I → I v1 = J v1 → v3.toInt = (i : Int) → i ≤ 24 → DLc v2.toInt (J v1) (I x0) i → 25 ≤ m + i → f_X4_deal_L10 Z Q m v0 v1 v2 v3 I L := by
  have z24 : (24 : Int32).toInt = 24 := rfl
  have zn : (nI (jlen Z v1)).toInt = 24 := by rw [l1]; exact i_nI (n := 24) (by omega)
  intro m
  induction m with
  | zero => intro i v3 I L w f ey e3 hi hd hm; exfalso; omega
  | succ m ih =>
    intro i v3 I L w f ey e3 hi hd hm
    have last : (24 ≤ i ∨ v2.toInt ≤ (i : Int)) → f_X4_deal_b58 Z Q v0 I L := fun hc => by
      unfold f_X4_deal_b58
      intro I1 e1
      have w1 : WD Z I1 := by rw [e1]; exact WD_putF w 4 4 k0 (by decide) (by decide) (show rg 0 8 _ from ⟨by decide, by decide⟩)
      have f1 : FR Ws_X4_deal Z J Z I1 := (f.mono (by decide)).trans wJ.1 wJ.2.1 (by rw [e1]; exact FR_putF k0 (by decide) (by decide))
      refine s_X4_findMains w1 v0 k0 (fun I4 L4 w4 f4 => ?_)
      refine hQ I4 L4 w4 (f1.trans wJ.1 wJ.2.1 (f4.mono (by decide))) ?_ (fun s g hs hg => ?_)
      · rw [f4.2.2.1 v0 4 4 k0 (by decide) (by decide), e1, jpI_at]; rfl
      · rw [f4.2.2.2 v0 4 0 x0 k0 h0 (by rw [kx.2]; rfl) rfl (by decide), e1, jpI_ne (ks_ne kx k0 (by decide)), hd s g hs hg]
        have : ((s < i ∧ (s : Int) < v2.toInt) ∧ (g : Int) = (J v1 s).toInt) ↔ ((s < 24 ∧ (s : Int) < v2.toInt) ∧ (g : Int) = (J v1 s).toInt) := by
          constructor
          · rintro ⟨⟨a, b⟩, c⟩; exact ⟨⟨hs, b⟩, c⟩
          · rintro ⟨⟨a, b⟩, c⟩; exact ⟨⟨by omega, b⟩, c⟩
        by_cases q : (s < i ∧ (s : Int) < v2.toInt) ∧ (g : Int) = (J v1 s).toInt
        · rw [if_pos q, if_pos (this.mp q)]
        · rw [if_neg q, if_neg (fun h => q (this.mpr h))]
    unfold f_X4_deal_L10
    refine ⟨fun c => last (Or.inr ((i_le rfl e3).mp c)), fun c => ⟨fun c2 => last (Or.inl (by have := (i_le zn e3).mp c2; omega)), fun c2 => ⟨fun c3 => last (Or.inl (by have := (i_le z24 e3).mp c3; omega)), fun c3 => ?_⟩⟩⟩
    have c := (not_congr (i_le (x := v2) (y := v3) rfl e3)).mp c
    have c3 := (not_congr (i_le z24 e3)).mp c3
    have q3 := i_nat e3 (by omega)
    have q3 : v3.toNatClampNeg = i := by omega
    have nx : ∀ x : Int32, x = v3 + 1 → x.toInt = ((i + 1 : Nat) : Int) := fun x e => by rw [e]; exact (i_add e3 (show (1 : Int32).toInt = 1 from rfl) (by omega) (by omega)).trans (by omega)
    refine ⟨by rw [l1]; exact vi_of e3 (by omega) (by omega), ?_⟩
    rw [q3, ey]
    refine s_X11_isFamily w _ (fun r p => ⟨fun c4 => ?_, fun c4 => ?_⟩)
    · have c4 := yz c4
      unfold f_X4_deal_b52
      intro x8 e8
      refine ih (i + 1) x8 I L w f ey (nx x8 e8) (by omega) (fun s g hs hg => ?_) (by omega)
      rw [hd s g hs hg]
      by_cases q : (s < i ∧ (s : Int) < v2.toInt) ∧ (g : Int) = (J v1 s).toInt
      · rw [if_pos q, if_pos ⟨⟨by omega, q.1.2⟩, q.2⟩]
      · rw [if_neg q, if_neg (fun h => q ⟨⟨by
          by_cases hsi : s = i
          · rw [hsi] at h; omega
          · omega, h.1.2⟩, h.2⟩)]
    · have c4 := nz c4
      have ti : ((v3 * (8 : Int32)) + (J v1 i)).toInt = 8 * (i : Int) + (J v1 i).toInt := (i_add (i_mul e3 (show (8 : Int32).toInt = 8 from rfl) (by omega) (by omega)) rfl (by omega) (by omega)).trans (by omega)
      have ni := i_nat ti (by omega)
      have ni : ((v3 * (8 : Int32)) + (J v1 i)).toNatClampNeg = 8 * i + (J v1 i).toInt.toNat := by omega
      intro b21 e21
      cases h0.symm.trans e21
      refine ⟨by rw [l1]; exact vi_of e3 (by omega) (by omega), ?_⟩
      rw [ey]
      refine ⟨vi_of ti (by omega) (by omega), ?_⟩
      intro I24 e24
      rw [ni] at e24
      unfold f_X4_deal_b52
      intro x8 e8
      refine ih (i + 1) x8 I24 L ?_ ?_ ?_ (nx x8 e8) (by omega) (fun s g hs hg => ?_) (by omega)
      · rw [e24]; exact WD_putA w 4 0 k0 h0 kx rfl rfl (by decide) trivial
      · refine f.trans wJ.1 wJ.2.1 ?_
        rw [e24]; exact FR_upA w.2.1 k0 h0 kx rfl rfl List.mem_cons_self
      · rw [e24, jpI_ne n1]; exact ey
      · by_cases hz : 8 * s + g = 8 * i + (J v1 i).toInt.toNat
        · have hsi : s = i := by omega
          have hgi : (g : Int) = (J v1 i).toInt := by omega
          rw [hz, e24, jpI_at, if_pos (by rw [hsi]; exact ⟨⟨by omega, by omega⟩, hgi⟩)]
          rfl
        · rw [e24, jpI_off hz, hd s g hs hg]
          by_cases q : (s < i ∧ (s : Int) < v2.toInt) ∧ (g : Int) = (J v1 s).toInt
          · rw [if_pos q, if_pos ⟨⟨by omega, q.1.2⟩, q.2⟩]
          · rw [if_neg q, if_neg (fun h => q ⟨⟨by
              by_cases hsi : s = i
              · rw [hsi] at h
                have := h.2
                omega
              · omega, h.1.2⟩, h.2⟩)]
theorem s15_X4_deal {Z : jZ} {I : jI} {L : jL} (w : WD Z I) (v0 v1 : Nat) (v2 : Int32) (kv0 : jk Z v0 4) (x0 : Nat) (h0 : jr Z v0 0 = some x0) (k1 : jk Z v1 14) (l1 : jlen Z v1 = 24) (n1 : v1 ≠ x0) (oN : Nat) (kN : jk Z oN 9) (hN : jr Z oN 4 = some v1) {Q : jI → jL → Prop} (hQ : ∀ (I' : jI) (L' : jL), WD Z I' → FR Ws_X4_deal Z I Z I' → (I' v0 4).toInt = 0 → DLc v2.toInt (I v1) (I' x0) 24 → Q I' L') : f_X4_deal v0 v1 v2 Z I L Q := by
  obtain ⟨x, ex, kx, l0⟩ := sh_f w.1 kv0 (j := 0) (k := 14) (m := 192) rfl
  cases h0.symm.trans ex
  unfold f_X4_deal
  intro b25 e25
  cases h0.symm.trans e25
  unfold f_J7_fill_53178
  intro x5 e5
  refine ⟨193, fl_L5 w v0 kv0 x0 h0 kx l0 x5 (by rw [e5, l0]; exact i_nI (n := 192) (by omega)) (fun I1 L1 w1 f1 y1 => ?_) 193 0 0 I L w FR.rf rfl (by omega) (fun q hq => absurd hq (by omega)) (by omega)⟩
  have e1 : I1 v1 = I v1 := f1.2.2.2 oN 9 4 v1 kN hN (by rw [k1.2]; rfl) rfl (by decide)
  refine ⟨25, de_L10 w1 v0 kv0 x0 h0 kx v1 k1 l1 n1 v2 (fun I2 L2 w2 f2 g1 g2 => ?_) 25 0 0 I1 L1 w1 FR.rf rfl rfl (by omega) (fun s g hs hg => ?_) (by omega)⟩
  · rw [e1] at g2
    exact hQ I2 L2 w2 ((f1.mono (by decide)).trans w.1 w.2.1 f2) g1 g2
  · rw [y1 (8 * s + g) (by omega), if_neg (fun h => absurd h.1.1 (by omega))]
    rfl
theorem lnA_fam {g : Int → Int} {a n : Int} (h0 : 0 ≤ a) (h : (lnA g a n).1 = -1) : 0 ≤ lnV g a 4 ∧ lnV g a 4 ≤ 7 := by
  have nb0 := nbad_eq g a
  have nr0 := nd_rng g a
  unfold lnA at h
  by_cases c1 : 1 ≤ nd g a ∧ 1 ≤ nv g a ∧ nv g a ≤ 30
  · rw [if_pos c1] at h
    by_cases d1 : g (a + nd g a) = 44
    · rw [if_pos d1] at h
      have nb1 := nbad_eq g (a + nd g a + 1)
      have nr1 := nd_rng g (a + nd g a + 1)
      unfold lnB at h
      by_cases c2 : 1 ≤ nd g (a + nd g a + 1) ∧ 0 ≤ nv g (a + nd g a + 1) ∧ nv g (a + nd g a + 1) ≤ 9
      · rw [if_pos c2] at h
        by_cases d2 : g (a + nd g a + 1 + nd g (a + nd g a + 1)) = 44
        · rw [if_pos d2] at h
          have nb2 := nbad_eq g (a + nd g a + 1 + nd g (a + nd g a + 1) + 1)
          have nr2 := nd_rng g (a + nd g a + 1 + nd g (a + nd g a + 1) + 1)
          unfold lnC at h
          by_cases c3 : 1 ≤ nd g (a + nd g a + 1 + nd g (a + nd g a + 1) + 1) ∧ 0 ≤ nv g (a + nd g a + 1 + nd g (a + nd g a + 1) + 1) ∧ nv g (a + nd g a + 1 + nd g (a + nd g a + 1) + 1) ≤ 20
          · rw [if_pos c3] at h
            by_cases d3 : g (a + nd g a + 1 + nd g (a + nd g a + 1) + 1 + nd g (a + nd g a + 1 + nd g (a + nd g a + 1) + 1)) = 64
            · rw [if_pos d3] at h
              unfold lnD at h
              by_cases c4 : 48 ≤ g (a + nd g a + 1 + nd g (a + nd g a + 1) + 1 + nd g (a + nd g a + 1 + nd g (a + nd g a + 1) + 1) + 1) ∧ g (a + nd g a + 1 + nd g (a + nd g a + 1) + 1 + nd g (a + nd g a + 1 + nd g (a + nd g a + 1) + 1) + 1) ≤ 55
              · show 0 ≤ g (a + nd g a + 1 + nd g (a + nd g a + 1) + 1 + nd g (a + nd g a + 1 + nd g (a + nd g a + 1) + 1) + 1) - 48 ∧ g (a + nd g a + 1 + nd g (a + nd g a + 1) + 1 + nd g (a + nd g a + 1 + nd g (a + nd g a + 1) + 1) + 1) - 48 ≤ 7
                omega
              · rw [if_neg c4] at h
                have h : a + nd g a + 1 + nd g (a + nd g a + 1) + 1 + nd g (a + nd g a + 1 + nd g (a + nd g a + 1) + 1) + 1 = -1 := h
                omega
            · rw [if_neg d3] at h
              have h : a + nd g a + 1 + nd g (a + nd g a + 1) + 1 + nd g (a + nd g a + 1 + nd g (a + nd g a + 1) + 1) = -1 := h
              omega
          · rw [if_neg c3] at h
            have h : nbad g (a + nd g a + 1 + nd g (a + nd g a + 1) + 1) = -1 := h
            omega
        · rw [if_neg d2] at h
          have h : a + nd g a + 1 + nd g (a + nd g a + 1) = -1 := h
          omega
      · rw [if_neg c2] at h
        have h : nbad g (a + nd g a + 1) = -1 := h
        omega
    · rw [if_neg d1] at h
      have h : a + nd g a = -1 := h
      omega
  · rw [if_neg c1] at h
    have h : nbad g a = -1 := h
    omega
theorem cS_fam {g : Int → Int} {lim : Int} : ∀ (k : Nat) (a n N : Int), 0 ≤ a → rdS g lim k a n = (-1, N) → ∀ s : Nat, n ≤ (s : Int) → (s : Int) < N → 0 ≤ cS g k a n 4 s ∧ cS g k a n 4 s ≤ 7 := by
  intro k
  induction k with
  | zero =>
    intro a n N h0 h s h1 h2
    have h : (a, n) = (-1, N) := h
    have := (Prod.mk.inj h).1
    omega
  | succ k ih =>
    intro a n N h0 h s h1 h2
    unfold rdS at h
    by_cases c : n < 24
    · rw [if_pos c] at h
      by_cases d : (lnA g a n).1 = -1
      · rw [if_pos d] at h
        have ok := lnA_ok c d h0
        by_cases hs : (s : Int) < n + (lnA g a n).2.2
        · rw [cS_here hs]; exact lnA_fam h0 d
        · rw [cS_step hs]
          by_cases e : (lnA g a n).2.1 < lim
          · rw [if_pos e] at h
            by_cases f : g (lnA g a n).2.1 = 59
            · rw [if_pos f] at h
              exact ih _ _ N (by omega) h s (by omega) h2
            · rw [if_neg f] at h
              have := (Prod.mk.inj h).1
              omega
          · rw [if_neg e] at h
            have := (Prod.mk.inj h).2
            omega
      · rw [if_neg d] at h
        exact absurd (Prod.mk.inj h).1 d
    · rw [if_neg c] at h
      have := (Prod.mk.inj h).1
      omega
theorem stA_ok {f : Nat → Int32} {s : Int} (h : 0 ≤ stA f s) : rdS (GS f (min s 76)) (min s 76) 77 0 0 = (-1, stA f s) := by
  have hlo := rdS_lo (g := GS f (min s 76)) (lim := min s 76) 77 0 0 (by omega)
  unfold stA at h ⊢
  by_cases c : s ≤ 0
  · rw [if_pos c] at h
    exact absurd h (by decide)
  · rw [if_neg c] at h ⊢
    by_cases d : (rdS (GS f (min s 76)) (min s 76) 77 0 0).1 = -1
    · rw [if_pos d] at h ⊢
      by_cases e : s ≤ 76
      · rw [if_pos e] at h ⊢
        by_cases q : 2 ≤ (rdS (GS f (min s 76)) (min s 76) 77 0 0).2
        · rw [if_pos q]
          exact Prod.ext d rfl
        · rw [if_neg q] at h
          exact absurd h (by decide)
      · rw [if_neg e] at h
        exact absurd h (by decide)
    · rw [if_neg d] at h
      omega
theorem cT_fam {f : Nat → Int32} {s : Int} (h : 0 ≤ stA f s) (q : Nat) (hq : (q : Int) < stA f s) : 0 ≤ cT f s 4 q ∧ cT f s 4 q ≤ 7 := cS_fam 77 0 0 (stA f s) (by omega) (stA_ok h) q (by omega) hq
def EQC (I I' : jI) (uP x0 x2 : Nat) : Prop := I' x0 = I x0 ∧ I' uP 4 = I uP 4 ∧ I' uP 3 = I uP 3 ∧ I' x2 = I x2
theorem EQC_fr {W : List (Nat × Nat)} {Z Z' : jZ} {I I' : jI} {v0 uF uP x0 x2 : Nat} (f : FR W Z I Z' I') (pc : PCs Z v0 uF uP x0 x2) (n : (4, 0) ∉ W ∧ (4, 2) ∉ W ∧ (4, 3) ∉ W ∧ (4, 4) ∉ W) : EQC I I' uP x0 x2 := by
  obtain ⟨huF, kF, huP, kP, h0, k0, h2, k2⟩ := pc
  exact ⟨f.2.2.2 uP 4 0 x0 kP h0 (by rw [k0.2]; rfl) rfl n.1, f.2.2.1 uP 4 4 kP (by decide) n.2.2.2, f.2.2.1 uP 4 3 kP (by decide) n.2.2.1, f.2.2.2 uP 4 2 x2 kP h2 (by rw [k2.2]; rfl) rfl n.2.1⟩
set_option maxHeartbeats 1000000 in
theorem s15_X8_build {Z : jZ} {I : jI} {L : jL} (w : WD Z I) (v0 v1 : Nat) (kv0 : jk Z v0 8) (kv1 : jk Z v1 9) {Q : jI → jL → Prop} (hQ : ∀ (I' : jI) (L' : jL), WD Z I' → FR Ws_X8_build Z I Z I' → (I' v0 9).toInt = (I v1 5).toInt → (∀ j u u', j < 4 → jr Z v1 j = some u → jr Z v0 j = some u' → ∀ s : Nat, s < 24 → I' u' s = I u s) → (∀ uP x0 u, jr Z v0 4 = some uP → jr Z uP 0 = some x0 → jr Z v1 4 = some u → (I' uP 4).toInt = 0 ∧ DLc (I v1 5).toInt (I u) (I' x0) 24) → Q I' L') : f_X8_build v0 v1 Z I L Q := by
  obtain ⟨r0, hr0, kr0, -⟩ := sh_f w.1 kv1 (j := 0) (k := 14) (m := 24) rfl
  obtain ⟨r1, hr1, kr1, -⟩ := sh_f w.1 kv1 (j := 1) (k := 14) (m := 24) rfl
  obtain ⟨r2, hr2, kr2, -⟩ := sh_f w.1 kv1 (j := 2) (k := 14) (m := 24) rfl
  obtain ⟨r3, hr3, kr3, -⟩ := sh_f w.1 kv1 (j := 3) (k := 14) (m := 24) rfl
  obtain ⟨r4, hr4, kr4, lr4⟩ := sh_f w.1 kv1 (j := 4) (k := 14) (m := 24) rfl
  obtain ⟨a0, ha0, ka0, -⟩ := sh_f w.1 kv0 (j := 0) (k := 14) (m := 24) rfl
  obtain ⟨a1, ha1, ka1, -⟩ := sh_f w.1 kv0 (j := 1) (k := 14) (m := 24) rfl
  obtain ⟨a2, ha2, ka2, -⟩ := sh_f w.1 kv0 (j := 2) (k := 14) (m := 24) rfl
  obtain ⟨a3, ha3, ka3, -⟩ := sh_f w.1 kv0 (j := 3) (k := 14) (m := 24) rfl
  obtain ⟨a4, ha4, ka4⟩ := sh_o w.1 kv0 (j := 4) (k := 4) rfl
  have x89 : ∀ {j j' a r}, jr Z v0 j = some a → jr Z v1 j' = some r → jsr 8 j = false → jsr 9 j' = false → r ≠ a := fun ha hr s s' e => by
    subst e
    have := (w.2.1.2.2 _ _ _ _ _ _ _ kv0 kv1 ha hr s s').1
    exact ks_ne kv0 kv1 (by decide) this
  have t5 : 0 ≤ (I v1 5).toInt ∧ (I v1 5).toInt ≤ 24 := w.fld 9 5 kv1 (by decide)
  unfold f_X8_build
  intro I1 e1
  have w1 : WD Z I1 := by rw [e1]; exact WD_putF w 8 9 kv0 (by decide) (by decide) ⟨by omega, by omega⟩
  have f1 : FR Ws_X8_build Z I Z I1 := by rw [e1]; exact FR_putF kv0 (by decide) (by decide)
  have o1 : ∀ a, a ≠ v0 → I1 a = I a := fun a ha => by rw [e1]; exact jpI_ne ha
  intro b2 e2
  cases hr0.symm.trans e2
  intro b3 e3
  cases ha0.symm.trans e3
  refine ⟨by decide, ?_⟩
  intro I5 e5
  have w5 : WD Z I5 := by rw [e5]; exact WD_cpy w1 8 0 kv0 ha0 ka0 rfl rfl (by decide) (fun _ _ _ => trivial)
  have f5 : FR Ws_X8_build Z I Z I5 := f1.trans w.1 w.2.1 (by rw [e5]; exact FR_upA w1.2.1 kv0 ha0 ka0 rfl rfl (by decide))
  have o5 : ∀ a, a ≠ a0 → I5 a = I1 a := fun a ha => by rw [e5]; exact va_up_ne _ _ ha
  intro b6 e6
  cases hr1.symm.trans e6
  intro b7 e7
  cases ha1.symm.trans e7
  refine ⟨by decide, ?_⟩
  intro I9 e9
  have w9 : WD Z I9 := by rw [e9]; exact WD_cpy w5 8 1 kv0 ha1 ka1 rfl rfl (by decide) (fun _ _ _ => trivial)
  have f9 : FR Ws_X8_build Z I Z I9 := f5.trans w.1 w.2.1 (by rw [e9]; exact FR_upA w5.2.1 kv0 ha1 ka1 rfl rfl (by decide))
  have o9 : ∀ a, a ≠ a1 → I9 a = I5 a := fun a ha => by rw [e9]; exact va_up_ne _ _ ha
  intro b10 e10
  cases hr2.symm.trans e10
  intro b11 e11
  cases ha2.symm.trans e11
  refine ⟨by decide, ?_⟩
  intro I13 e13
  have g2 : ∀ q, rg 0 20 (I9 r2 q) := fun q => w9.arr 9 2 kv1 hr2 kr2 rfl rfl q
  have w13 : WD Z I13 := by rw [e13]; exact WD_cpy w9 8 2 kv0 ha2 ka2 rfl rfl (by decide) (fun q _ _ => g2 _)
  have f13 : FR Ws_X8_build Z I Z I13 := f9.trans w.1 w.2.1 (by rw [e13]; exact FR_upA w9.2.1 kv0 ha2 ka2 rfl rfl (by decide))
  have o13 : ∀ a, a ≠ a2 → I13 a = I9 a := fun a ha => by rw [e13]; exact va_up_ne _ _ ha
  intro b14 e14
  cases hr3.symm.trans e14
  intro b15 e15
  cases ha3.symm.trans e15
  refine ⟨by decide, ?_⟩
  intro I17 e17
  have w17 : WD Z I17 := by rw [e17]; exact WD_cpy w13 8 3 kv0 ha3 ka3 rfl rfl (by decide) (fun _ _ _ => trivial)
  have f17 : FR Ws_X8_build Z I Z I17 := f13.trans w.1 w.2.1 (by rw [e17]; exact FR_upA w13.2.1 kv0 ha3 ka3 rfl rfl (by decide))
  have o17 : ∀ a, a ≠ a3 → I17 a = I13 a := fun a ha => by rw [e17]; exact va_up_ne _ _ ha
  intro b18 e18
  cases ha4.symm.trans e18
  intro b19 e19
  cases hr4.symm.trans e19
  have d : ∀ {j j' b b'}, jr Z v0 j = some b → jr Z v0 j' = some b' → jsr 8 j = false → jsr 8 j' = false → j ≠ j' → b ≠ b' := fun h h' s s' n => ds_ne w.2.1 kv0 h h' s s' n
  have y0 : ∀ s : Nat, s < 24 → I17 a0 s = I r0 s := fun s hs => by
    rw [o17 a0 (d ha0 ha3 rfl rfl (by decide)), o13 a0 (d ha0 ha2 rfl rfl (by decide)), o9 a0 (d ha0 ha1 rfl rfl (by decide)), e5, va_up_self, z24, cpy_all hs, o1 r0 (ks_ne kr0 kv0 (by decide))]
  have y1 : ∀ s : Nat, s < 24 → I17 a1 s = I r1 s := fun s hs => by
    rw [o17 a1 (d ha1 ha3 rfl rfl (by decide)), o13 a1 (d ha1 ha2 rfl rfl (by decide)), e9, va_up_self, z24, cpy_all hs, o5 r1 (x89 ha0 hr1 rfl rfl), o1 r1 (ks_ne kr1 kv0 (by decide))]
  have y2 : ∀ s : Nat, s < 24 → I17 a2 s = I r2 s := fun s hs => by
    rw [o17 a2 (d ha2 ha3 rfl rfl (by decide)), e13, va_up_self, z24, cpy_all hs, o9 r2 (x89 ha1 hr2 rfl rfl), o5 r2 (x89 ha0 hr2 rfl rfl), o1 r2 (ks_ne kr2 kv0 (by decide))]
  have y3 : ∀ s : Nat, s < 24 → I17 a3 s = I r3 s := fun s hs => by
    rw [e17, va_up_self, z24, cpy_all hs, o13 r3 (x89 ha2 hr3 rfl rfl), o9 r3 (x89 ha1 hr3 rfl rfl), o5 r3 (x89 ha0 hr3 rfl rfl), o1 r3 (ks_ne kr3 kv0 (by decide))]
  obtain ⟨p0, hp0, kp0, -⟩ := sh_f w.1 ka4 (j := 0) (k := 14) (m := 192) rfl
  have np : r4 ≠ p0 := fun e => by
    subst e
    have := (w.2.1.2.2 _ _ _ _ _ _ _ ka4 kv1 hp0 hr4 rfl rfl).1
    exact ks_ne ka4 kv1 (by decide) this
  refine s15_X4_deal w17 a4 r4 _ ka4 p0 hp0 kr4 lr4 np v1 kv1 hr4 (fun I22 L22 w22 f22 g4 gd => ?_)
  refine hQ I22 L22 w22 (f17.trans w.1 w.2.1 (f22.mono (by decide))) ?_ (fun j u u' hj hu hu' s hs => ?_) (fun q0 q1 q2 c0 c1 c2 => ?_)
  · rw [f22.2.2.1 v0 8 9 kv0 (by decide) (by decide), o17 v0 (ks_ne kv0 ka3 (by decide)), o13 v0 (ks_ne kv0 ka2 (by decide)), o9 v0 (ks_ne kv0 ka1 (by decide)), o5 v0 (ks_ne kv0 ka0 (by decide)), e1, jpI_at]
  · have hj : j = 0 ∨ j = 1 ∨ j = 2 ∨ j = 3 := by omega
    rcases hj with rfl | rfl | rfl | rfl
    · cases hr0.symm.trans hu; cases ha0.symm.trans hu'
      rw [f22.2.2.2 v0 8 0 a0 kv0 ha0 (by rw [ka0.2]; rfl) rfl (by decide)]; exact y0 s hs
    · cases hr1.symm.trans hu; cases ha1.symm.trans hu'
      rw [f22.2.2.2 v0 8 1 a1 kv0 ha1 (by rw [ka1.2]; rfl) rfl (by decide)]; exact y1 s hs
    · cases hr2.symm.trans hu; cases ha2.symm.trans hu'
      rw [f22.2.2.2 v0 8 2 a2 kv0 ha2 (by rw [ka2.2]; rfl) rfl (by decide)]; exact y2 s hs
    · cases hr3.symm.trans hu; cases ha3.symm.trans hu'
      rw [f22.2.2.2 v0 8 3 a3 kv0 ha3 (by rw [ka3.2]; rfl) rfl (by decide)]; exact y3 s hs
  · cases ha4.symm.trans c0; cases hp0.symm.trans c1; cases hr4.symm.trans c2
    have y9 : (I17 v0 9).toInt = (I v1 5).toInt := by rw [o17 v0 (ks_ne kv0 ka3 (by decide)), o13 v0 (ks_ne kv0 ka2 (by decide)), o9 v0 (ks_ne kv0 ka1 (by decide)), o5 v0 (ks_ne kv0 ka0 (by decide)), e1, jpI_at]
    have yr : I17 r4 = I r4 := by rw [o17 r4 (x89 ha3 hr4 rfl rfl), o13 r4 (x89 ha2 hr4 rfl rfl), o9 r4 (x89 ha1 hr4 rfl rfl), o5 r4 (x89 ha0 hr4 rfl rfl), o1 r4 (ks_ne kr4 kv0 (by decide))]
    rw [y9, yr] at gd
    exact ⟨g4, gd⟩
theorem s15_X11_stairs {Z : jZ} {I : jI} {L : jL} (w : WD Z I) (v0 : Nat) (kv0 : jk Z v0 11) (uT : Nat) (huT : jr Z v0 0 = some uT) (uB : Nat) (huB : jr Z uT 0 = some uB) (uF : Nat) (huF : jr Z v0 2 = some uF) (uN : Nat) (huN : jr Z v0 1 = some uN) (p0 : BY (I uB)) (uS : Nat) (huS : jr Z v0 8 = some uS) {Q : Int32 → jI → jL → Prop}
    (hQ : ∀ (r : Int32) (I' : jI) (L' : jL), WD Z I' → FR Ws_X11_stairs Z I Z I' → ((I' uT 1).toInt = 0 ∧ r.toInt = stA (I uB) (I uT 1).toInt ∧ (0 ≤ r.toInt → (I' uF 9).toInt = r.toInt) ∧ (r.toInt < 0 → (I' uF 9).toInt = (I uF 9).toInt) ∧ (r.toInt < 0 → ∀ b, jk Z b 2 → I' b 8 = I b 8) ∧ (0 ≤ r.toInt → ∀ i b, i < 2 → jr Z uS i = some b → I' b 8 = 0)) → ((0 ≤ r.toInt → CF (cT (I uB) (I uT 1).toInt) Z I' uF r.toInt) ∧ (r.toInt < 0 → ∀ j u, j < 4 → jr Z uF j = some u → I' u = I u)) → ((0 ≤ r.toInt → ∀ uP x0, jr Z uF 4 = some uP → jr Z uP 0 = some x0 → (I' uP 4).toInt = 0 ∧ ∀ s g : Nat, s < 24 → g < 8 → (I' x0 (8 * s + g)).toInt = if (s : Int) < r.toInt ∧ (g : Int) = cT (I uB) (I uT 1).toInt 4 s then 720 else 0) ∧ (r.toInt < 0 → ∀ uP x0 x2, jr Z uF 4 = some uP → jr Z uP 0 = some x0 → jr Z uP 2 = some x2 → EQC I I' uP x0 x2)) → Q r I' L') : f_X11_stairs v0 Z I L Q := by
  have kT : jk Z uT 10 := by obtain ⟨b9, e9, k9⟩ := sh_o w.1 kv0 (j := 0) (k := 10) rfl; cases huT.symm.trans e9; exact k9
  have kF : jk Z uF 8 := by obtain ⟨b9, e9, k9⟩ := sh_o w.1 kv0 (j := 2) (k := 8) rfl; cases huF.symm.trans e9; exact k9
  have kN : jk Z uN 9 := by obtain ⟨b9, e9, k9⟩ := sh_o w.1 kv0 (j := 1) (k := 9) rfl; cases huN.symm.trans e9; exact k9
  obtain ⟨x, ex, kS, lS⟩ := sh_f w.1 kv0 (j := 8) (k := 17) (m := 2) rfl
  cases huS.symm.trans ex
  obtain ⟨uE, hE, kE, lE⟩ := sh_f w.1 kv0 (j := 5) (k := 14) (m := 8) rfl
  have kj : ∀ j u, j < 4 → jr Z uF j = some u → jk Z u 14 := fun j u hj hu => by
    have hj : j = 0 ∨ j = 1 ∨ j = 2 ∨ j = 3 := by omega
    rcases hj with rfl | rfl | rfl | rfl
    · obtain ⟨b, e, kb, -⟩ := sh_f w.1 kF (j := 0) (k := 14) (m := 24) rfl; cases hu.symm.trans e; exact kb
    · obtain ⟨b, e, kb, -⟩ := sh_f w.1 kF (j := 1) (k := 14) (m := 24) rfl; cases hu.symm.trans e; exact kb
    · obtain ⟨b, e, kb, -⟩ := sh_f w.1 kF (j := 2) (k := 14) (m := 24) rfl; cases hu.symm.trans e; exact kb
    · obtain ⟨b, e, kb, -⟩ := sh_f w.1 kF (j := 3) (k := 14) (m := 24) rfl; cases hu.symm.trans e; exact kb
  have fk : ∀ {W : List (Nat × Nat)} {A C : jI}, FR W Z A Z C → ((8, 0) ∉ W ∧ (8, 1) ∉ W ∧ (8, 2) ∉ W ∧ (8, 3) ∉ W) → ∀ j u, j < 4 → jr Z uF j = some u → C u = A u := fun f hn j u hj hu => by
    refine f.2.2.2 uF 8 j u kF hu (by rw [(kj j u hj hu).2]; rfl) ?_ ?_
    · have hj : j = 0 ∨ j = 1 ∨ j = 2 ∨ j = 3 := by omega
      rcases hj with rfl | rfl | rfl | rfl <;> rfl
    · have hj : j = 0 ∨ j = 1 ∨ j = 2 ∨ j = 3 := by omega
      rcases hj with rfl | rfl | rfl | rfl
      · exact hn.1
      · exact hn.2.1
      · exact hn.2.2.1
      · exact hn.2.2.2
  unfold f_X11_stairs
  intro b33 e33
  cases huN.symm.trans e33
  intro b34 e34
  cases huT.symm.trans e34
  refine s13_X9_read w uN uT kN kT uB huB p0 (fun r I1 L1 w1 f1 p1 => ?_)
  intro b42 e42
  cases huT.symm.trans e42
  refine s9_X10_clear w1 uT kT (fun I2 L2 w2 f2 p2 => ?_)
  have g2 : FR Ws_X11_stairs Z I Z I2 := (f1.mono (by decide)).trans w.1 w.2.1 (f2.mono (by decide))
  refine ⟨fun c => ?_, fun c => ?_⟩
  · have c := (i_le (x := 0) (y := r) (show (0 : Int32).toInt = 0 from rfl) rfl).mp c
    intro b50 e50
    cases huF.symm.trans e50
    intro b51 e51
    cases huN.symm.trans e51
    refine s15_X8_build w2 uF uN kF kN (fun I3 L3 w3 f3 p3 y3 y4 => ?_)
    have g3 : FR Ws_X11_stairs Z I Z I3 := g2.trans w.1 w.2.1 (f3.mono (by decide))
    have s3 : (I3 uF 9).toInt = r.toInt := by rw [p3, f2.2.2.1 uN 9 5 kN (by decide) (by decide)]; exact p1.2.1 c
    have t3 : (I3 uT 1).toInt = 0 := by rw [f3.2.2.1 uT 10 1 kT (by decide) (by decide)]; exact p2
    have r24 : r.toInt ≤ 24 := by have := (show rg 0 24 (I3 uF 9) from w3.fld 8 9 kF (by decide)).2; omega
    have c3 : CF (cT (I uB) (I uT 1).toInt) Z I3 uF r.toInt := by
      intro j u hj hu s hs
      have hj5 : j = 0 ∨ j = 1 ∨ j = 2 ∨ j = 3 := by omega
      obtain ⟨a, ha, ka⟩ : ∃ a, jr Z uN j = some a ∧ jk Z a 14 := by
        rcases hj5 with rfl | rfl | rfl | rfl
        · obtain ⟨b, e, kb, -⟩ := sh_f w.1 kN (j := 0) (k := 14) (m := 24) rfl; exact ⟨b, e, kb⟩
        · obtain ⟨b, e, kb, -⟩ := sh_f w.1 kN (j := 1) (k := 14) (m := 24) rfl; exact ⟨b, e, kb⟩
        · obtain ⟨b, e, kb, -⟩ := sh_f w.1 kN (j := 2) (k := 14) (m := 24) rfl; exact ⟨b, e, kb⟩
        · obtain ⟨b, e, kb, -⟩ := sh_f w.1 kN (j := 3) (k := 14) (m := 24) rfl; exact ⟨b, e, kb⟩
      rw [y3 j a u hj ha hu s (by omega)]
      have e2 : I2 a = I1 a := by
        refine f2.2.2.2 uN 9 j a kN ha (by rw [ka.2]; rfl) ?_ ?_
        · rcases hj5 with rfl | rfl | rfl | rfl <;> rfl
        · rcases hj5 with rfl | rfl | rfl | rfl <;> decide
      rw [e2]
      exact p1.2.2 c j a (by omega) ha s hs
    refine ⟨7, hk_L38 w3 v0 kv0 r (fun I4 L4 w4 f4 => ?_) 7 0 I3 L3 w3 FR.rf (by decide) (by decide) (by decide)⟩
    intro b10 e10
    cases hE.symm.trans e10
    have g4 : FR Ws_X11_stairs Z I Z I4 := g3.trans w.1 w.2.1 (f4.mono (by decide))
    refine s_J7_fill_53178 w4 uE 0 kE v0 11 5 kv0 hE (by decide) rfl (by rw [lE]; omega) (fun _ => trivial) (fun I5 L5 w5 f5 => ?_)
    have g5 : FR Ws_X11_stairs Z I Z I5 := g4.trans w.1 w.2.1 (f5.mono (by decide))
    refine ⟨3, hk_L76 w5 v0 r uS huS kS lS (fun I6 L6 w6 f6 z6 => ?_) 3 0 0 I5 L5 w5 FR.rf rfl (by omega) (fun k b hk => absurd hk (Nat.not_lt_zero k)) (by omega)⟩
    refine hQ r I6 L6 w6 (g5.trans w.1 w.2.1 (f6.mono (by decide))) ⟨?_, p1.1, fun _ => ?_, fun h => absurd c (by omega), fun h => absurd c (by omega), fun _ => z6⟩ ⟨fun _ => ?_, fun h => absurd c (by omega)⟩ ⟨fun _ uP x0 hP h0 => ?_, fun h => absurd c (by omega)⟩
    · rw [f6.2.2.1 uT 10 1 kT (by decide) (by decide), f5.2.2.1 uT 10 1 kT (by decide) (by decide), f4.2.2.1 uT 10 1 kT (by decide) (by decide)]; exact t3
    · rw [f6.2.2.1 uF 8 9 kF (by decide) (by decide), f5.2.2.1 uF 8 9 kF (by decide) (by decide), f4.2.2.1 uF 8 9 kF (by decide) (by decide)]; exact s3
    · intro j u hj hu s hs
      rw [fk f6 (by decide) j u hj hu, fk f5 (by decide) j u hj hu, fk f4 (by decide) j u hj hu]
      exact c3 j u hj hu s hs
    · obtain ⟨x, ex, kP⟩ := sh_o w.1 kF (j := 4) (k := 4) rfl
      cases hP.symm.trans ex
      obtain ⟨x, ex, k0, -⟩ := sh_f w.1 kP (j := 0) (k := 14) (m := 192) rfl
      cases h0.symm.trans ex
      obtain ⟨u, hu, ku, -⟩ := sh_f w.1 kN (j := 4) (k := 14) (m := 24) rfl
      obtain ⟨g4', gd⟩ := y4 uP x0 u hP h0 hu
      have z6 : I6 x0 = I3 x0 := by rw [f6.2.2.2 uP 4 0 x0 kP h0 (by rw [k0.2]; rfl) rfl (by decide), f5.2.2.2 uP 4 0 x0 kP h0 (by rw [k0.2]; rfl) rfl (by decide), f4.2.2.2 uP 4 0 x0 kP h0 (by rw [k0.2]; rfl) rfl (by decide)]
      have e5 : (I2 uN 5).toInt = r.toInt := by rw [f2.2.2.1 uN 9 5 kN (by decide) (by decide)]; exact p1.2.1 c
      have eu : I2 u = I1 u := f2.2.2.2 uN 9 4 u kN hu (by rw [ku.2]; rfl) rfl (by decide)
      rw [e5, eu] at gd
      refine ⟨by rw [f6.2.2.1 uP 4 4 kP (by decide) (by decide), f5.2.2.1 uP 4 4 kP (by decide) (by decide), f4.2.2.1 uP 4 4 kP (by decide) (by decide)]; exact g4', fun s g hs hg => ?_⟩
      rw [z6, gd s g hs hg]
      by_cases q : (s : Int) < r.toInt
      · have hv := p1.2.2 c 4 u (by omega) hu s q
        by_cases q2 : (g : Int) = (I1 u s).toInt
        · rw [if_pos ⟨⟨hs, q⟩, q2⟩, if_pos ⟨q, q2.trans hv⟩]
        · rw [if_neg (fun h => q2 h.2), if_neg (fun h => q2 (h.2.trans hv.symm))]
      · rw [if_neg (fun h => q h.1.2), if_neg (fun h => q h.1)]
  · have c := (not_congr (i_le (x := 0) (y := r) (show (0 : Int32).toInt = 0 from rfl) rfl)).mp c
    refine hQ r I2 L2 w2 g2 ⟨p2, p1.1, fun h => absurd h c, fun _ => ?_, fun _ b kb => ?_, fun h => absurd h c⟩ ⟨fun h => absurd h c, fun _ j u hj hu => ?_⟩ ⟨fun h => absurd h c, fun _ uP x0 x2 hP h0 h2 => ?_⟩
    · rw [f2.2.2.1 uF 8 9 kF (by decide) (by decide), f1.2.2.1 uF 8 9 kF (by decide) (by decide)]
    · rw [f2.2.2.1 b 2 8 kb (by decide) (by decide), f1.2.2.1 b 2 8 kb (by decide) (by decide)]
    · rw [fk f2 (by decide) j u hj hu, fk f1 (by decide) j u hj hu]
    · obtain ⟨x, ex, kP⟩ := sh_o w.1 kF (j := 4) (k := 4) rfl
      cases hP.symm.trans ex
      obtain ⟨x, ex, k0, -⟩ := sh_f w.1 kP (j := 0) (k := 14) (m := 192) rfl
      cases h0.symm.trans ex
      obtain ⟨x, ex, k2, -⟩ := sh_f w.1 kP (j := 2) (k := 14) (m := 1536) rfl
      cases h2.symm.trans ex
      have pc : PCs Z v0 uF uP x0 x2 := ⟨huF, kF, hP, kP, h0, k0, h2, k2⟩
      have a := EQC_fr f1 pc (by decide)
      have b := EQC_fr f2 pc (by decide)
      exact ⟨b.1.trans a.1, b.2.1.trans a.2.1, b.2.2.1.trans a.2.2.1, b.2.2.2.trans a.2.2.2⟩
end
section
/-! ===== PARTS of both sides ===== -/
/-- of each of n STEPS the PARTS are 720 together, none below 0 -/
def OWP (n : Nat) (P : Nat → Int32) : Prop := ∀ s, s < n → (∀ g, g < 8 → 0 ≤ (P (8 * s + g)).toInt) ∧ shS (fun g => (P (8 * s + g)).toInt) 8 = 720
theorem shS_ge {g : Nat → Int} {n : Nat} (h : ∀ i, i < n → 0 ≤ g i) : ∀ k, k ≤ n → 0 ≤ shS g k ∧ ∀ i, i < k → g i ≤ shS g k := by
  intro k
  induction k with
  | zero => intro _; exact ⟨Int.le_refl 0, fun i hi => absurd hi (Nat.not_lt_zero i)⟩
  | succ k ih =>
    intro hk
    obtain ⟨a, b⟩ := ih (by omega)
    have hg := h k (by omega)
    refine ⟨by show 0 ≤ shS g k + g k; omega, fun i hi => ?_⟩
    show g i ≤ shS g k + g k
    by_cases c : i = k
    · rw [c]; omega
    · have := b i (by omega)
      omega
theorem OWP_le {n : Nat} {P : Nat → Int32} (h : OWP n P) {z : Nat} (hz : z < 8 * n) : 0 ≤ (P z).toInt ∧ (P z).toInt ≤ 720 := by
  obtain ⟨a, b⟩ := h (z / 8) (by omega)
  have c := (shS_ge (g := fun g => (P (8 * (z / 8) + g)).toInt) (n := 8) a 8 (Nat.le_refl 8)).2 (z % 8) (by omega)
  have d := a (z % 8) (by omega)
  rw [b] at c
  have c : (P (8 * (z / 8) + z % 8)).toInt ≤ 720 := c
  rw [show 8 * (z / 8) + z % 8 = z by omega] at c d
  exact ⟨d, c⟩
theorem shS_upd {g : Nat → Int} {a : Nat} {y : Int} : ∀ n, shS (fun i => if i = a then y else g i) n = shS g n + (if a < n then y - g a else 0) := by
  intro n
  induction n with
  | zero =>
    show (0 : Int) = 0 + (if a < 0 then y - g a else 0)
    rw [if_neg (by omega)]
    rfl
  | succ n ih =>
    show shS (fun i => if i = a then y else g i) n + (if n = a then y else g n) = shS g n + g n + (if a < n + 1 then y - g a else 0)
    rw [ih]
    by_cases c : n = a
    · subst c
      rw [if_pos rfl, if_neg (by omega), if_pos (by omega)]
      omega
    · rw [if_neg c]
      by_cases d : a < n
      · rw [if_pos d, if_pos (by omega)]; omega
      · rw [if_neg d, if_neg (by omega)]; omega
theorem OWP_cg {n : Nat} {P P' : Nat → Int32} (h : OWP n P) (e : ∀ z, z < 8 * n → P' z = P z) : OWP n P' := fun s hs => by
  obtain ⟨a, b⟩ := h s hs
  refine ⟨fun g hg => by rw [e _ (by omega)]; exact a g hg, ?_⟩
  rw [← b]
  exact shS_cg 8 (fun i hi => by rw [e _ (by omega)])
/-- a sale within a STEP -/
theorem OWP_mv {n : Nat} {P : Nat → Int32} {s f t : Nat} {x : Int32} (h : OWP n P) (hs : s < n) (hf : f < 8) (ht : t < 8) (hft : f ≠ t) (hx : 0 ≤ x.toInt ∧ x.toInt ≤ (P (8 * s + f)).toInt) : OWP n (mvP P (8 * s + f) (8 * s + t) x) := by
  have lf := OWP_le h (z := 8 * s + f) (by omega)
  have lt := OWP_le h (z := 8 * s + t) (by omega)
  have e1 : (P (8 * s + f) - x).toInt = (P (8 * s + f)).toInt - x.toInt := i_sub rfl rfl (by omega) (by omega)
  have e2 : (P (8 * s + t) + x).toInt = (P (8 * s + t)).toInt + x.toInt := i_add rfl rfl (by omega) (by omega)
  have off : ∀ z, z ≠ 8 * s + f → z ≠ 8 * s + t → mvP P (8 * s + f) (8 * s + t) x z = P z := fun z h1 h2 => by
    unfold mvP
    exact (if_neg h2 : upd _ (8 * s + t) _ z = _).trans (if_neg h1)
  have atf : mvP P (8 * s + f) (8 * s + t) x (8 * s + f) = P (8 * s + f) - x := by
    unfold mvP
    exact (if_neg (by omega) : upd _ (8 * s + t) _ (8 * s + f) = _).trans (if_pos rfl)
  have att : mvP P (8 * s + f) (8 * s + t) x (8 * s + t) = P (8 * s + t) + x := by
    unfold mvP
    refine (if_pos rfl : upd _ (8 * s + t) _ (8 * s + t) = _).trans ?_
    rw [show upd P (8 * s + f) (P (8 * s + f) - x) (8 * s + t) = P (8 * s + t) from if_neg (by omega)]
  intro q hq
  obtain ⟨a, b⟩ := h q hq
  by_cases c : q = s
  · subst c
    refine ⟨fun g hg => ?_, ?_⟩
    · by_cases g1 : g = f
      · rw [g1, atf, e1]; omega
      · by_cases g2 : g = t
        · rw [g2, att, e2]; omega
        · rw [off _ (by omega) (by omega)]; exact a g hg
    · have ef : ∀ g, g < 8 → (mvP P (8 * q + f) (8 * q + t) x (8 * q + g)).toInt = (fun i => if i = t then (P (8 * q + t)).toInt + x.toInt else (fun j => if j = f then (P (8 * q + f)).toInt - x.toInt else (P (8 * q + j)).toInt) i) g := fun g hg => by
        show _ = if g = t then _ else (if g = f then _ else _)
        by_cases g2 : g = t
        · rw [if_pos g2, g2, att, e2]
        · rw [if_neg g2]
          by_cases g1 : g = f
          · rw [if_pos g1, g1, atf, e1]
          · rw [if_neg g1, off _ (by omega) (by omega)]
      rw [shS_cg 8 ef, shS_upd 8, shS_upd 8, if_pos ht, if_pos hf, b]
      show 720 + ((P (8 * q + f)).toInt - x.toInt - (P (8 * q + f)).toInt) + ((P (8 * q + t)).toInt + x.toInt - (if t = f then (P (8 * q + f)).toInt - x.toInt else (P (8 * q + t)).toInt)) = 720
      rw [if_neg (fun e => hft e.symm)]
      omega
  · refine ⟨fun g hg => by rw [off _ (by omega) (by omega)]; exact a g hg, ?_⟩
    rw [← b]
    exact shS_cg 8 (fun i hi => by rw [off _ (by omega) (by omega)])
theorem ARr_mv {R : Int} {P T : Nat → Int32} {a b : Nat} {x : Int32} (h : ARr R P T) (ha : (a : Int) < R) (hb : (b : Int) < R) : ARr R (mvP P a b x) (mvP T a b x) := by
  have h1 : ARr R (upd P a (P a - x)) (upd T a (T a - x)) := by rw [h a ha]; exact ARr_upd h
  unfold mvP
  rw [h1 b hb]
  exact ARr_upd h1
theorem mv_off {P : Nat → Int32} {a b z : Nat} {x : Int32} (h1 : z ≠ a) (h2 : z ≠ b) : mvP P a b x z = P z := by
  unfold mvP
  exact (if_neg h2 : upd _ b _ z = _).trans (if_neg h1)
/-- class and reference: the STEPS there are alike; behind them the class has none; the sums are right -/
def PP (n : Nat) (P T : Nat → Int32) : Prop := ARr (8 * (n : Int)) P T ∧ (∀ z, 8 * n ≤ z → z < 192 → P z = 0) ∧ OWP n T
theorem PP_cg {n : Nat} {P P' T T' : Nat → Int32} (hn : n ≤ 24) (h : PP n P T) (e1 : ∀ z, z < 192 → P' z = P z) (e2 : ∀ z, z < 192 → T' z = T z) : PP n P' T' :=
  ⟨fun s hs => by rw [e1 s (by omega), e2 s (by omega)]; exact h.1 s hs, fun z h1 h2 => by rw [e1 z h2]; exact h.2.1 z h1 h2, OWP_cg h.2.2 (fun z hz => e2 z (by omega))⟩
theorem PP_le {n : Nat} {P T : Nat → Int32} (h : PP n P T) {z : Nat} (hz : z < 192) : 0 ≤ (P z).toInt ∧ (P z).toInt ≤ 720 := by
  by_cases c : z < 8 * n
  · rw [h.1 z (by omega)]; exact OWP_le h.2.2 c
  · rw [h.2.1 z (by omega) hz]; decide
/-- and so the sales -/
def PQ (n : Nat) (P T : Nat → Int32) (m m' : Nat) (H G : Nat → Nat → Int32) : Prop := PP n P T ∧ m = m' ∧ ∀ k, k < m → PP n (H k) (G k)
theorem PQ_re {n m : Nat} {P T : Nat → Int32} {H G H' G' : Nat → Nat → Int32} (hn : n ≤ 24) (hp : PP n P T) (h : ∀ k, k < m → PP n (H k) (G k)) (hm : m ≤ 8) (e1 : ∀ k q, k < reM m → q < 192 → H' k q = reH m H P k q) (e2 : ∀ k q, k < reM m → q < 192 → G' k q = reH m G T k q) : ∀ k, k < reM m → PP n (H' k) (G' k) := by
  intro k hk
  by_cases c : k = reM m - 1
  · refine PP_cg hn hp (fun z hz => ?_) (fun z hz => ?_)
    · rw [e1 k z hk hz]; unfold reH; rw [if_pos c]
    · rw [e2 k z hk hz]; unfold reH; rw [if_pos c]
  · by_cases d : m = 8
    · have hk8 : k + 1 < m := by unfold reM at hk c; rw [if_pos d] at hk c; omega
      refine PP_cg hn (h (k + 1) hk8) (fun z hz => ?_) (fun z hz => ?_)
      · rw [e1 k z hk hz]; unfold reH; rw [if_neg c, if_pos d]
      · rw [e2 k z hk hz]; unfold reH; rw [if_neg c, if_pos d]
    · have hk8 : k < m := by unfold reM at hk c; rw [if_neg d] at hk c; omega
      refine PP_cg hn (h k hk8) (fun z hz => ?_) (fun z hz => ?_)
      · rw [e1 k z hk hz]; unfold reH; rw [if_neg c, if_neg d]
      · rw [e2 k z hk hz]; unfold reH; rw [if_neg c, if_neg d]
theorem PARr_eq {n : Nat} {P T : Nat → Int32} {v1 v2 r q : Int32} (h : PP n P T) (p : PARr (n : Int) P v1 v2 r) (g : PARr (n : Int) T v1 v2 q) : r.toInt = q.toInt := by
  rcases p with ⟨p1, p2⟩ | ⟨p1, p2⟩
  · rcases g with ⟨g1, g2⟩ | ⟨g1, g2⟩
    · have n1 := i_nat (x := v1) rfl p1.1
      have n2 := i_nat (x := v2) rfl p1.2.2.1
      rw [p2, g2, h.1 (8 * v1.toNatClampNeg + v2.toNatClampNeg) (by omega)]
    · exact absurd p1 g1
  · rcases g with ⟨g1, g2⟩ | ⟨g1, g2⟩
    · exact absurd g1 p1
    · rw [p2, g2]
theorem SELr_eq {n m m2 m' m2' : Nat} {P P' T T' : Nat → Int32} {H H' G G' : Nat → Nat → Int32} {v1 v2 v3 v4 v5 r q : Int32} (hn : n ≤ 24) (hm : m ≤ 8) (h : PQ n P T m m2 H G) (p : SELr (n : Int) P P' m m' H H' v1 v2 v3 v4 v5 r) (g : SELr (n : Int) T T' m2 m2' G G' v1 v2 v3 v4 v5 q) : r.toInt = q.toInt ∧ PQ n P' T' m' m2' H' G' := by
  obtain ⟨hp, rfl, hh⟩ := h
  have ei : SELc (n : Int) v1 v2 v3 v4 v5 → P (8 * v1.toNatClampNeg + v2.toNatClampNeg) = T (8 * v1.toNatClampNeg + v2.toNatClampNeg) := fun c => by
    have n1 := i_nat (x := v1) rfl c.1.1
    have n2 := i_nat (x := v2) rfl c.2.1.1
    have c1 := c.1
    have c2 := c.2.1
    exact hp.1 _ (by omega)
  rcases p with ⟨p1, p2, p3, p4, p5, p6⟩ | ⟨p1, p2, p3, p4, p5⟩
  · rcases g with ⟨g1, g2, g3, g4, g5, g6⟩ | ⟨g1, g2, g3, g4, g5⟩
    · have er : r = q := by rw [p2, g2, ei p1]
      subst er
      obtain ⟨a1, a2, a3, a4, a5, a6, a7⟩ := p1
      have n1 := i_nat (x := v1) rfl a1.1
      have n2 := i_nat (x := v2) rfl a2.1
      have n3 := i_nat (x := v3) rfl a3.1
      have lt := OWP_le hp.2.2 (z := 8 * v1.toNatClampNeg + v2.toNatClampNeg) (by omega)
      have mul0 : 0 ≤ (T (8 * v1.toNatClampNeg + v2.toNatClampNeg)).toInt * v4.toInt := Int.mul_nonneg lt.1 (by omega)
      have mul1 : (T (8 * v1.toNatClampNeg + v2.toNatClampNeg)).toInt * v4.toInt ≤ 720 * 9 := Int.mul_le_mul lt.2 (by omega) (by omega) (by omega)
      have tm : (T (8 * v1.toNatClampNeg + v2.toNatClampNeg) * v4).toInt = (T (8 * v1.toNatClampNeg + v2.toNatClampNeg)).toInt * v4.toInt := i_mul rfl rfl (by omega) (by omega)
      have td : r.toInt = (T (8 * v1.toNatClampNeg + v2.toNatClampNeg)).toInt * v4.toInt / v5.toInt := by rw [g2]; exact i_div tm rfl mul0 (by omega)
      have r0 : 0 ≤ r.toInt := by rw [td]; exact Int.ediv_nonneg mul0 (by omega)
      have r1 : r.toInt ≤ (T (8 * v1.toNatClampNeg + v2.toNatClampNeg)).toInt := by
        rw [td]
        exact Int.ediv_le_of_le_mul (by omega) (Int.mul_le_mul_of_nonneg_left (by omega) lt.1)
      refine ⟨rfl, ⟨?_, fun z h1 h2 => ?_, ?_⟩, by rw [p5, g5], fun k hk => ?_⟩
      · rw [p4, g4]; exact ARr_mv hp.1 (by omega) (by omega)
      · rw [p4, mv_off (by omega) (by omega)]; exact hp.2.1 z h1 h2
      · rw [g4]; exact OWP_mv hp.2.2 (by omega) (by omega) (by omega) (by omega) ⟨r0, r1⟩
      · rw [p5] at hk p6
        rw [g5] at g6
        exact PQ_re hn hp hh hm p6 g6 k hk
    · exact absurd ⟨p1, by rw [← ei p1, ← p2]; exact p3⟩ g1
  · rcases g with ⟨g1, g2, g3, g4, g5, g6⟩ | ⟨g1, g2, g3, g4, g5⟩
    · exact absurd ⟨g1, by rw [ei g1, ← g2]; exact g3⟩ p1
    · refine ⟨p2.trans g2.symm, ⟨by rw [p3, g3]; exact hp.1, by rw [p3]; exact hp.2.1, by rw [g3]; exact hp.2.2⟩, by rw [p4, g4], fun k hk => ?_⟩
      exact PP_cg hn (hh k (by omega)) (fun z hz => p5 k z hk hz) (fun z hz => g5 k z (by omega) hz)
theorem UNDr_eq {n m m2 m' m2' : Nat} {P P' T T' : Nat → Int32} {H H' G G' : Nat → Nat → Int32} {r q : Int32} (hn : n ≤ 24) (h : PQ n P T m m2 H G) (p : UNDr P P' m m' H H' r) (g : UNDr T T' m2 m2' G G' q) : r.toInt = q.toInt ∧ PQ n P' T' m' m2' H' G' := by
  obtain ⟨hp, rfl, hh⟩ := h
  rcases p with ⟨p1, p2, p3, p4, p5⟩ | ⟨p1, p2, p3, p4, p5⟩
  · rcases g with ⟨g1, g2, g3, g4, g5⟩ | ⟨g1, g2, g3, g4, g5⟩
    · exact ⟨p2.trans g2.symm, ⟨by rw [p3, g3]; exact hp.1, by rw [p3]; exact hp.2.1, by rw [g3]; exact hp.2.2⟩, by rw [p4, g4], fun k hk => PP_cg hn (hh k (by omega)) (fun z hz => p5 k z hk hz) (fun z hz => g5 k z (by omega) hz)⟩
    · omega
  · rcases g with ⟨g1, g2, g3, g4, g5⟩ | ⟨g1, g2, g3, g4, g5⟩
    · omega
    · exact ⟨p2.trans g2.symm, PP_cg hn (hh (m - 1) (by omega)) p4 g4, by rw [p3, g3], fun k hk => PP_cg hn (hh k (by omega)) (fun z hz => p5 k z hk hz) (fun z hz => g5 k z (by omega) hz)⟩
/-! ===== a death on both sides; what is kept of PARTS ===== -/
theorem shS_tail {g : Nat → Int} {n : Nat} : ∀ k, (∀ i, n ≤ i → i < n + k → g i = 0) → shS g (n + k) = shS g n := by
  intro k
  induction k with
  | zero => intro _; rfl
  | succ k ih =>
    intro h
    show shS g (n + k) + g (n + k) = shS g n
    rw [ih (fun i h1 h2 => h i h1 (by omega)), h (n + k) (by omega) (by omega)]
    omega
theorem inhC_cg {v : Int32} {B f : Nat} {q : Int32} {rem R : Int} {P T : Nat → Int32} (h : ARr R P T) (hf : f < 8) (hR : (B : Int) + 8 ≤ R) : ∀ k, k ≤ 8 → ARr R (inhC v B f q rem P k) (inhC v B f q rem T k) := by
  intro k
  induction k with
  | zero => intro _; exact h
  | succ k ih =>
    intro hk
    show ARr R (if hbt v k = true then _ else _) (if hbt v k = true then _ else _)
    by_cases c : hbt v k = true
    · rw [if_pos c, if_pos c]; exact ARr_mv (ih (by omega)) (by omega) (by omega)
    · rw [if_neg c, if_neg c]; exact ih (by omega)
theorem diC_cg {v : Int32} {f : Nat} {R : Int} {P T : Nat → Int32} (h : ARr R P T) (hf : f < 8) : ∀ s : Nat, 8 * (s : Int) ≤ R → ARr R (diC v f P s) (diC v f T s) := by
  intro s
  induction s with
  | zero => intro _; exact h
  | succ s ih =>
    intro hR
    have i := ih (by omega)
    show ARr R (inhC v (8 * s) f (diC v f P s (8 * s + f) / bcV v) ((diC v f P s (8 * s + f)).toInt % (bcV v).toInt) (diC v f P s) 8) (inhC v (8 * s) f (diC v f T s (8 * s + f) / bcV v) ((diC v f T s (8 * s + f)).toInt % (bcV v).toInt) (diC v f T s) 8)
    rw [i (8 * s + f) (by omega)]
    exact inhC_cg i hf (by omega) 8 (Nat.le_refl 8)
theorem inh_ok {v : Int32} {n s f : Nat} {P : Nat → Int32} (h : OWP n P) (hs : s < n) (hf : f < 8) (hv : 1 ≤ v.toInt ∧ v.toInt ≤ 255) (hb : hbt v f = false) : OWP n (inhC v (8 * s) f (P (8 * s + f) / bcV v) ((P (8 * s + f)).toInt % (bcV v).toInt) P 8) := by
  have ho := OWP_le h (z := 8 * s + f) (by omega)
  have bc := bc_rg hv.1 hv.2
  have hq : (P (8 * s + f) / bcV v).toInt = (P (8 * s + f)).toInt / (bcV v).toInt := i_div rfl rfl ho.1 bc.1
  have m0 := Int.emod_nonneg (P (8 * s + f)).toInt (show (bcV v).toInt ≠ 0 by omega)
  have m1 := Int.emod_lt_of_pos (P (8 * s + f)).toInt bc.1
  have q0 : 0 ≤ (P (8 * s + f)).toInt / (bcV v).toInt := Int.ediv_nonneg ho.1 (by omega)
  have hdm := Int.mul_ediv_add_emod (P (8 * s + f)).toInt (bcV v).toInt
  generalize hQ : (P (8 * s + f)).toInt / (bcV v).toInt = QQ at hq q0 hdm
  generalize hR : (P (8 * s + f)).toInt % (bcV v).toInt = RR at m0 m1 hdm
  generalize hq' : P (8 * s + f) / bcV v = qq at hq
  have total : tk v QQ RR 8 = (P (8 * s + f)).toInt := by
    rw [tk_eq v QQ RR m0 8, ← bc_cnt hv.1 hv.2]
    generalize hT : (bcV v).toInt * QQ = T at hdm
    omega
  have key : ∀ k, k ≤ 8 → OWP n (inhC v (8 * s) f qq RR P k) ∧ (inhC v (8 * s) f qq RR P k (8 * s + f)).toInt = (P (8 * s + f)).toInt - tk v QQ RR k := by
    intro k
    induction k with
    | zero =>
      intro _
      refine ⟨h, ?_⟩
      show (P (8 * s + f)).toInt = (P (8 * s + f)).toInt - 0
      omega
    | succ k ih =>
      intro hk
      obtain ⟨i1, i3⟩ := ih (by omega)
      have tm := tk_mono v QQ RR q0 (k + 1) (8 - (k + 1))
      rw [show k + 1 + (8 - (k + 1)) = 8 by omega, total] at tm
      have t0 := (tk_le v QQ RR q0 k).1
      by_cases c : hbt v k = true
      · have hkf : f ≠ k := fun e => by
          rw [← e, hb] at c
          exact absurd c (by decide)
        have c1 : inhC v (8 * s) f qq RR P (k + 1) = mvP (inhC v (8 * s) f qq RR P k) (8 * s + f) (8 * s + k) (qq + od1 v RR k) := by show (if _ then _ else _) = _; rw [if_pos c]
        have tS : tk v QQ RR (k + 1) = tk v QQ RR k + (QQ + (if (cnt v k : Int) < RR then 1 else 0)) := by show _ + (if _ then _ else _) = _; rw [if_pos c]
        have ox : (od1 v RR k).toInt = (if (cnt v k : Int) < RR then 1 else 0) := by unfold od1; split <;> rfl
        have ob : 0 ≤ (if (cnt v k : Int) < RR then (1 : Int) else 0) ∧ (if (cnt v k : Int) < RR then (1 : Int) else 0) ≤ 1 := by split <;> omega
        have hx : (qq + od1 v RR k).toInt = QQ + (if (cnt v k : Int) < RR then 1 else 0) := i_add hq ox (by omega) (by omega)
        rw [c1]
        refine ⟨OWP_mv i1 hs hf (by omega) hkf (by omega), ?_⟩
        unfold mvP
        rw [show upd (upd (inhC v (8 * s) f qq RR P k) (8 * s + f) (inhC v (8 * s) f qq RR P k (8 * s + f) - (qq + od1 v RR k))) (8 * s + k) (upd (inhC v (8 * s) f qq RR P k) (8 * s + f) (inhC v (8 * s) f qq RR P k (8 * s + f) - (qq + od1 v RR k)) (8 * s + k) + (qq + od1 v RR k)) (8 * s + f) = inhC v (8 * s) f qq RR P k (8 * s + f) - (qq + od1 v RR k) from (if_neg (by omega)).trans (if_pos rfl)]
        rw [i_sub i3 hx (by omega) (by omega)]
        omega
      · have c1 : inhC v (8 * s) f qq RR P (k + 1) = inhC v (8 * s) f qq RR P k := by show (if _ then _ else _) = _; rw [if_neg c]
        have tS : tk v QQ RR (k + 1) = tk v QQ RR k := by show _ + (if _ then _ else _) = _; rw [if_neg c]; omega
        rw [c1, tS]
        exact ⟨i1, i3⟩
  exact (key 8 (Nat.le_refl 8)).1
theorem di_ok {v : Int32} {n f : Nat} {P : Nat → Int32} (h : OWP n P) (hf : f < 8) (hv : 1 ≤ v.toInt ∧ v.toInt ≤ 255) (hb : hbt v f = false) : ∀ s, s ≤ n → OWP n (diC v f P s) := by
  intro s
  induction s with
  | zero => intro _; exact h
  | succ s ih =>
    intro hs
    exact inh_ok (ih (by omega)) (by omega) hf hv hb
theorem upd_id {P : Nat → Int32} {i : Nat} {x : Int32} (h : P i = x) : upd P i x = P := by
  funext z
  by_cases c : z = i
  · rw [c]; exact (if_pos rfl : upd P i x i = x).trans h.symm
  · exact if_neg c
theorem diM_zero {v : Int32} {f : Nat} {P : Nat → Int32} (hv : 1 ≤ v.toInt ∧ v.toInt ≤ 255) : ∀ n, (∀ s, s < n → P (8 * s + f) = 0) → diM v f P n = P := by
  have bc := bc_rg hv.1 hv.2
  have d0 : (0 : Int32) / bcV v = 0 := (i_eq (i_div (show (0 : Int32).toInt = 0 from rfl) rfl (by omega) bc.1) (show (0 : Int32).toInt = 0 from rfl)).mpr (Int.zero_ediv _)
  have im : ∀ (B : Nat) (T : Nat → Int32) k, inhM v B 0 0 T k = T := by
    intro B T k
    induction k with
    | zero => rfl
    | succ k ih =>
      show (if hbt v k = true then _ else _) = T
      split
      · rw [ih]
        refine upd_id ?_
        have : od1 v 0 k = 0 := by unfold od1; rw [if_neg (by omega)]
        rw [this]
        refine (i_eq rfl rfl).mpr ?_
        rw [show (0 : Int32) + 0 = 0 from rfl]
        have := i_rng (T (B + k))
        rw [i_add (x := T (B + k)) rfl (show (0 : Int32).toInt = 0 from rfl) (by omega) (by omega)]
        omega
      · exact ih
  intro n
  induction n with
  | zero => intro _; rfl
  | succ n ih =>
    intro h
    have e := ih (fun s hs => h s (by omega))
    show inhM v (8 * n) (diM v f P n (8 * n + f) / bcV v) ((diM v f P n (8 * n + f)).toInt % (bcV v).toInt) (upd (diM v f P n) (8 * n + f) 0) 8 = P
    rw [e, h n (by omega), d0, show (0 : Int32).toInt % (bcV v).toInt = 0 from Int.zero_emod _, im, upd_id (h n (by omega))]
theorem DIE_eq {n m m2 m' m2' : Nat} {P P' T T' : Nat → Int32} {H H' G G' : Nat → Nat → Int32} {v1 v2 r q : Int32} (hn : n ≤ 24) (hm : m ≤ 8) (h : PQ n P T m m2 H G) (p : DICr n P P' m m' H H' v1 v2 r) (g : DIMr n T T' m2 m2' G G' v1 v2 q) : r.toInt = q.toInt ∧ PQ n P' T' m' m2' H' G' := by
  obtain ⟨hp, rfl, hh⟩ := h
  rcases p with ⟨p1, p2, p3, p4, p5⟩ | ⟨p1, p2, p3⟩
  · rcases g with ⟨g1, g2, g3, g4, g5⟩ | ⟨g1, -⟩
    · exact ⟨p2.trans g2.symm, ⟨by rw [p3, g3]; exact hp.1, by rw [p3]; exact hp.2.1, by rw [g3]; exact hp.2.2⟩, by rw [p4, g4], fun k hk => PP_cg hn (hh k (by omega)) (fun z hz => p5 k z hk hz) (fun z hz => g5 k z (by omega) hz)⟩
    · exact absurd g1 p1
  · rcases g with ⟨g1, -⟩ | ⟨-, g2, g3, g4⟩
    · exact absurd p1 g1
    · obtain ⟨a1, a2, a3⟩ := p1
      have n1 := i_nat (x := v1) rfl a1.1
      have hf : v1.toNatClampNeg < 8 := by omega
      have er : r.toInt = q.toInt := by
        rw [p2, g2]
        have e1 := shS_tail (g := fun s => (P (8 * s + v1.toNatClampNeg)).toInt) (n := n) (24 - n) (fun i h1 h2 => by
          show (P (8 * i + v1.toNatClampNeg)).toInt = 0
          rw [hp.2.1 (8 * i + v1.toNatClampNeg) (by omega) (by omega)]
          rfl)
        rw [show n + (24 - n) = 24 by omega] at e1
        rw [e1]
        exact shS_cg n (fun i hi => by rw [hp.1 (8 * i + v1.toNatClampNeg) (by omega)])
      have ow : ∀ s, s < n → 0 ≤ (T (8 * s + v1.toNatClampNeg)).toInt ∧ (T (8 * s + v1.toNatClampNeg)).toInt ≤ 720 := fun s hs => OWP_le hp.2.2 (by omega)
      refine ⟨er, ?_⟩
      rcases p3 with ⟨b1, b2, b3, b4⟩ | ⟨b1, b2, b3, b4⟩
      · rcases g4 with ⟨c1, c2, c3⟩ | ⟨c1, -⟩
        · have z : ∀ s, s < n → T (8 * s + v1.toNatClampNeg) = 0 := fun s hs => by
            have h1 := (shS_ge (g := fun s => (T (8 * s + v1.toNatClampNeg)).toInt) (n := n) (fun i hi => (ow i hi).1) n (Nat.le_refl n)).2 s hs
            have h1 : (T (8 * s + v1.toNatClampNeg)).toInt ≤ shS (fun s => (T (8 * s + v1.toNatClampNeg)).toInt) n := h1
            have h2 := (ow s hs).1
            exact (i_eq rfl (show (0 : Int32).toInt = 0 from rfl)).mpr (by omega)
          rw [diM_zero a2 n z] at g3
          exact ⟨⟨by rw [b2, g3]; exact hp.1, by rw [b2]; exact hp.2.1, by rw [g3]; exact hp.2.2⟩, by rw [b3, c2], fun k hk => PP_cg hn (hh k (by omega)) (fun z hz => b4 k z hk hz) (fun z hz => c3 k z (by omega) hz)⟩
        · omega
      · rcases g4 with ⟨c1, -⟩ | ⟨c1, c2, c3⟩
        · omega
        · rw [← di_eq hf a2 a3 n ow] at g3
          refine ⟨⟨?_, fun z h1 h2 => ?_, ?_⟩, by rw [b3, c2], fun k hk => ?_⟩
          · rw [b2, g3]; exact diC_cg hp.1 hf n (by omega)
          · rw [b2, diC_off hf n z h1]; exact hp.2.1 z h1 h2
          · rw [g3]; exact di_ok hp.2.2 hf a2 a3 n (Nat.le_refl n)
          · rw [b3] at hk b4
            rw [c2] at c3
            exact PQ_re hn hp hh hm b4 c3 k hk
/-- what is kept of PARTS -/
def KP2 (Z : jZ) (I : jI) (uS u62 n : Nat) : Prop := ∀ i b a, i < 2 → jr Z uS i = some b → ¬ I b 8 = 0 → jr Z b 2 = some a → PP n (I a) (fun q => I u62 (266 * i + 48 + q))
theorem KP2_fr {W : List (Nat × Nat)} {Z Z' : jZ} {I I' : jI} {uS v2 u62 n : Nat} (f : FR W Z I Z' I') (sh : SH Z) (kS : jk Z uS 17) (lS : jlen Z uS = 2) (k2 : jk Z v2 12) (h62 : jr Z v2 62 = some u62) (k62 : jk Z u62 14) (n1 : (2, 8) ∉ W) (n2 : (2, 2) ∉ W) (n3 : (12, 62) ∉ W) (h : KP2 Z I uS u62 n) : KP2 Z' I' uS u62 n := by
  intro i b a hi hb hh ha
  rw [f.2.1 uS 17 i kS (by omega) (by omega)] at hb
  obtain ⟨y, ey, kb⟩ := sh.2.2.1 uS kS i (by rw [lS]; exact hi)
  cases hb.symm.trans ey
  rw [f.2.1 b 2 2 kb (by omega) (by omega)] at ha
  obtain ⟨x, ex, ka, -⟩ := sh_f sh kb (j := 2) (k := 14) (m := 192) rfl
  cases ha.symm.trans ex
  rw [f.2.2.1 b 2 8 kb (by decide) n1] at hh
  rw [f.2.2.2 b 2 2 a kb ha (by rw [ka.2]; rfl) rfl n2, f.2.2.2 v2 12 62 u62 k2 h62 (by rw [k62.2]; rfl) rfl n3]
  exact h i b a hi hb hh ha
theorem KP2_frp {Z Z' : jZ} {I I' : jI} {uS u62 n : Nat} (f : FRp Z I Z' I') (sh : SH Z) (kS : jk Z uS 17) (lS : jlen Z uS = 2) (k62 : jk Z u62 14) (h : KP2 Z I uS u62 n) : KP2 Z' I' uS u62 n := by
  intro i b a hi hb hh ha
  rw [f.1 uS 17 i kS (by decide)] at hb
  obtain ⟨y, ey, kb⟩ := sh.2.2.1 uS kS i (by rw [lS]; exact hi)
  cases hb.symm.trans ey
  rw [f.1 b 2 2 kb (by decide)] at ha
  obtain ⟨x, ex, ka, -⟩ := sh_f sh kb (j := 2) (k := 14) (m := 192) rfl
  cases ha.symm.trans ex
  rw [f.2 b 2 8 kb (by decide)] at hh
  rw [show I' a = I a from funext fun i => f.2 a 14 i ka (by omega), show I' u62 = I u62 from funext fun i => f.2 u62 14 i k62 (by omega)]
  exact h i b a hi hb hh ha
theorem KP2_stairs {Z Z2 : jZ} {I0 I1 I2 : jI} {uS v2 u62 n m : Nat} {r1 r2 : Int} (f1 : FR Ws_X11_stairs Z I0 Z I1) (f2 : FR Ws_X12_stairs Z I1 Z2 I2) (sh : SH Z) (kS : jk Z uS 17) (lS : jlen Z uS = 2) (k2 : jk Z v2 12) (h62 : jr Z v2 62 = some u62) (k62 : jk Z u62 14) (er : r1 = r2)
    (p1 : (r1 < 0 → ∀ b, jk Z b 2 → I1 b 8 = I0 b 8) ∧ (0 ≤ r1 → ∀ i b, i < 2 → jr Z uS i = some b → I1 b 8 = 0)) (em : r2 < 0 → m = n) (h : KP2 Z I0 uS u62 n) : KP2 Z2 I2 uS u62 m := by
  intro i b a hi hb hh ha
  rw [f2.2.1 uS 17 i kS (by omega) (by omega)] at hb
  obtain ⟨y, ey, kb⟩ := sh.2.2.1 uS kS i (by rw [lS]; exact hi)
  cases hb.symm.trans ey
  rw [f2.2.1 b 2 2 kb (by omega) (by omega)] at ha
  obtain ⟨x, ex, ka, -⟩ := sh_f sh kb (j := 2) (k := 14) (m := 192) rfl
  cases ha.symm.trans ex
  rw [f2.2.2.1 b 2 8 kb (by decide) (by decide)] at hh
  by_cases c : 0 ≤ r1
  · exact absurd (p1.2 c i b hi hb) hh
  · rw [p1.1 (by omega) b kb] at hh
    rw [f2.2.2.2 b 2 2 a kb ha (by rw [ka.2]; rfl) rfl (by decide), f1.2.2.2 b 2 2 a kb ha (by rw [ka.2]; rfl) rfl (by decide), f2.2.2.2 v2 12 62 u62 k2 h62 (by rw [k62.2]; rfl) rfl (by decide), f1.2.2.2 v2 12 62 u62 k2 h62 (by rw [k62.2]; rfl) rfl (by decide), em (by omega)]
    exact h i b a hi hb hh ha
end
section
/-! ===== PARTS of both sides, over all calls ===== -/
def PR (I : jI) (uP x0 x2 v2 u5 u53 : Nat) : Prop := PQ (I v2 0).toInt.toNat (I x0) (I u5) (I uP 4).toInt.toNat (I v2 52).toInt.toNat (HC I uP x2 (I uP 3).toInt) (HM I u53)
def EQM (I I' : jI) (v2 u5 u53 : Nat) : Prop := I' u5 = I u5 ∧ I' v2 52 = I v2 52 ∧ I' u53 = I u53 ∧ I' v2 0 = I v2 0
theorem EQM_fr {W : List (Nat × Nat)} {Z Z' : jZ} {I I' : jI} {v2 u5 u53 u54 : Nat} (f : FR W Z I Z' I') (k : jk Z v2 12) (pm : PMs Z v2 u5 u53 u54) (n : (12, 5) ∉ W ∧ (12, 52) ∉ W ∧ (12, 53) ∉ W ∧ (12, 0) ∉ W) : EQM I I' v2 u5 u53 := by
  obtain ⟨h5, k5, h53, k53, -⟩ := pm
  exact ⟨f.2.2.2 v2 12 5 u5 k h5 (by rw [k5.2]; rfl) rfl n.1, f.2.2.1 v2 12 52 k (by decide) n.2.1, f.2.2.2 v2 12 53 u53 k h53 (by rw [k53.2]; rfl) rfl n.2.2.1, f.2.2.1 v2 12 0 k (by decide) n.2.2.2⟩
theorem EQC_frp {Z Z' : jZ} {I I' : jI} {v0 uF uP x0 x2 : Nat} (f : FRp Z I Z' I') (pc : PCs Z v0 uF uP x0 x2) : EQC I I' uP x0 x2 := by
  obtain ⟨huF, kF, huP, kP, h0, k0, h2, k2⟩ := pc
  exact ⟨funext fun i => f.2 x0 14 i k0 (by omega), f.2 uP 4 4 kP (by omega), f.2 uP 4 3 kP (by omega), funext fun i => f.2 x2 14 i k2 (by omega)⟩
theorem EQM_frp {Z Z' : jZ} {I I' : jI} {v2 u5 u53 u54 : Nat} (f : FRp Z I Z' I') (k : jk Z v2 12) (pm : PMs Z v2 u5 u53 u54) : EQM I I' v2 u5 u53 := by
  obtain ⟨h5, k5, h53, k53, -⟩ := pm
  exact ⟨funext fun i => f.2 u5 14 i k5 (by omega), f.2 v2 12 52 k (by omega), funext fun i => f.2 u53 14 i k53 (by omega), f.2 v2 12 0 k (by omega)⟩
theorem PCs_x {Z Z' : jZ} {v0 uF uP x0 x2 : Nat} (x : jext Z Z') (r : ∀ a c j, jk Z a c → (c = 11 ∨ c = 8 ∨ c = 4) → jr Z' a j = jr Z a j) (k0 : jk Z v0 11) (pc : PCs Z v0 uF uP x0 x2) : PCs Z' v0 uF uP x0 x2 := by
  obtain ⟨a, b, c, d, e, f, g, h⟩ := pc
  exact ⟨(r v0 11 2 k0 (by omega)).trans a, (x _ _ b).1, (r uF 8 4 b (by omega)).trans c, (x _ _ d).1, (r uP 4 0 d (by omega)).trans e, (x _ _ f).1, (r uP 4 2 d (by omega)).trans g, (x _ _ h).1⟩
theorem PMs_x {Z Z' : jZ} {v0 u5 u53 u54 : Nat} (x : jext Z Z') (r : ∀ j, j ≠ 23 → jr Z' v0 j = jr Z v0 j) (pm : PMs Z v0 u5 u53 u54) : PMs Z' v0 u5 u53 u54 := by
  obtain ⟨a, b, c, d, e, f⟩ := pm
  exact ⟨(r 5 (by decide)).trans a, (x _ _ b).1, (r 53 (by decide)).trans c, (x _ _ d).1, (r 54 (by decide)).trans e, (x _ _ f).1⟩
theorem PR_same {I I' : jI} {uP x0 x2 v2 u5 u53 : Nat} (c : EQC I I' uP x0 x2) (m : EQM I I' v2 u5 u53) (h : PR I uP x0 x2 v2 u5 u53) : PR I' uP x0 x2 v2 u5 u53 := by
  obtain ⟨c1, c2, c3, c4⟩ := c
  obtain ⟨m1, m2, m3, m4⟩ := m
  unfold PR HC HM at *
  rw [c1, c2, c3, c4, m1, m2, m3, m4]
  exact h
/-- the class first, then the reference -/
theorem PR_mk {I1 I2 : jI} {uP x0 x2 v2 u5 u53 n : Nat} (en : (I2 v2 0).toInt.toNat = n) (c : EQC I1 I2 uP x0 x2) (h : PQ n (I1 x0) (I2 u5) (I1 uP 4).toInt.toNat (I2 v2 52).toInt.toNat (HC I1 uP x2 (I1 uP 3).toInt) (HM I2 u53)) : PR I2 uP x0 x2 v2 u5 u53 := by
  obtain ⟨c1, c2, c3, c4⟩ := c
  unfold PR HC at *
  rw [en, c1, c2, c3, c4]
  exact h
theorem PR_sells {I0 I1 I2 : jI} {uF uP x0 x2 v2 u5 u53 : Nat} {a b c d e r1 r2 : Int32} (h0 : 0 ≤ (I0 v2 0).toInt ∧ (I0 v2 0).toInt ≤ 24) (h4 : (I0 uP 4).toInt ≤ 8) (en : (I0 uF 9).toInt = (I0 v2 0).toInt) (qm : EQM I0 I1 v2 u5 u53) (qc : EQC I1 I2 uP x0 x2) (e2 : I2 v2 0 = I1 v2 0)
    (p1 : SELr (I0 uF 9).toInt (I0 x0) (I1 x0) (I0 uP 4).toInt.toNat (I1 uP 4).toInt.toNat (HC I0 uP x2 (I0 uP 3).toInt) (HC I1 uP x2 (I1 uP 3).toInt) a b c d e r1) (p2 : SELr (I1 v2 0).toInt (I1 u5) (I2 u5) (I1 v2 52).toInt.toNat (I2 v2 52).toInt.toNat (HM I1 u53) (HM I2 u53) a b c d e r2) (h : PR I0 uP x0 x2 v2 u5 u53) : r1.toInt = r2.toInt ∧ PR I2 uP x0 x2 v2 u5 u53 := by
  obtain ⟨m1, m2, m3, m4⟩ := qm
  have eH : HM I1 u53 = HM I0 u53 := by unfold HM; rw [m3]
  rw [m1, m2, m4, eH] at p2
  rw [en] at p1
  obtain ⟨n, hn⟩ : ∃ n : Nat, (I0 v2 0).toInt = (n : Int) := ⟨(I0 v2 0).toInt.toNat, by omega⟩
  unfold PR at h
  rw [hn] at p1 p2 h
  rw [Int.toNat_natCast] at h
  obtain ⟨r, q⟩ := SELr_eq (by omega) (by omega) h p1 p2
  exact ⟨r, PR_mk (by rw [e2, m4, hn]; exact Int.toNat_natCast n) qc q⟩
theorem PR_undo {I0 I1 I2 : jI} {uP x0 x2 v2 u5 u53 : Nat} {r1 r2 : Int32} (h0 : 0 ≤ (I0 v2 0).toInt ∧ (I0 v2 0).toInt ≤ 24) (qm : EQM I0 I1 v2 u5 u53) (qc : EQC I1 I2 uP x0 x2) (e2 : I2 v2 0 = I1 v2 0)
    (p1 : UNDr (I0 x0) (I1 x0) (I0 uP 4).toInt.toNat (I1 uP 4).toInt.toNat (HC I0 uP x2 (I0 uP 3).toInt) (HC I1 uP x2 (I1 uP 3).toInt) r1) (p2 : UNDr (I1 u5) (I2 u5) (I1 v2 52).toInt.toNat (I2 v2 52).toInt.toNat (HM I1 u53) (HM I2 u53) r2) (h : PR I0 uP x0 x2 v2 u5 u53) : r1.toInt = r2.toInt ∧ PR I2 uP x0 x2 v2 u5 u53 := by
  obtain ⟨m1, m2, m3, m4⟩ := qm
  have eH : HM I1 u53 = HM I0 u53 := by unfold HM; rw [m3]
  rw [m1, m2, eH] at p2
  obtain ⟨n, hn⟩ : ∃ n : Nat, (I0 v2 0).toInt = (n : Int) := ⟨(I0 v2 0).toInt.toNat, by omega⟩
  unfold PR at h
  rw [hn, Int.toNat_natCast] at h
  obtain ⟨r, q⟩ := UNDr_eq (by omega) h p1 p2
  exact ⟨r, PR_mk (by rw [e2, m4, hn]; exact Int.toNat_natCast n) qc q⟩
theorem PR_dies {I0 I1 I2 : jI} {uP x0 x2 v2 u5 u53 n : Nat} {a b r1 r2 : Int32} (hn : (I0 v2 0).toInt = (n : Int)) (n24 : n ≤ 24) (h4 : (I0 uP 4).toInt ≤ 8) (qm : EQM I0 I1 v2 u5 u53) (qc : EQC I1 I2 uP x0 x2) (e2 : I2 v2 0 = I1 v2 0)
    (p1 : DICr n (I0 x0) (I1 x0) (I0 uP 4).toInt.toNat (I1 uP 4).toInt.toNat (HC I0 uP x2 (I0 uP 3).toInt) (HC I1 uP x2 (I1 uP 3).toInt) a b r1) (p2 : DIMr n (I1 u5) (I2 u5) (I1 v2 52).toInt.toNat (I2 v2 52).toInt.toNat (HM I1 u53) (HM I2 u53) a b r2) (h : PR I0 uP x0 x2 v2 u5 u53) : r1.toInt = r2.toInt ∧ PR I2 uP x0 x2 v2 u5 u53 := by
  obtain ⟨m1, m2, m3, m4⟩ := qm
  have eH : HM I1 u53 = HM I0 u53 := by unfold HM; rw [m3]
  rw [m1, m2, eH] at p2
  unfold PR at h
  rw [hn, Int.toNat_natCast] at h
  obtain ⟨r, q⟩ := DIE_eq n24 (by omega) h p1 p2
  exact ⟨r, PR_mk (by rw [e2, m4, hn]; exact Int.toNat_natCast n) qc q⟩
theorem PR_parts {I0 I1 : jI} {uF uP x0 x2 v2 u5 u53 : Nat} {a b r1 r2 : Int32} (h0 : 0 ≤ (I0 v2 0).toInt ∧ (I0 v2 0).toInt ≤ 24) (en : (I0 uF 9).toInt = (I0 v2 0).toInt) (p1 : PARr (I0 uF 9).toInt (I0 x0) a b r1) (p2 : PARr (I0 v2 0).toInt (I0 u5) a b r2) (h : PR I0 uP x0 x2 v2 u5 u53) : r1.toInt = r2.toInt := by
  obtain ⟨n, hn⟩ : ∃ n : Nat, (I0 v2 0).toInt = (n : Int) := ⟨(I0 v2 0).toInt.toNat, by omega⟩
  unfold PR at h
  rw [hn, Int.toNat_natCast] at h
  rw [en, hn] at p1
  rw [hn] at p2
  exact PARr_eq h.1 p1 p2
theorem KP2_keep {Z : jZ} {I0 I1 I2 : jI} {v1 v2 uS uF uP x0 x2 u5 u53 u54 u62 uK uC n : Nat} {v : Int32} {r1 r2 : Int} (w : WD Z I0) (f1 : FR Ws_X11_keep Z I0 Z I1) (f2 : FR Ws_X12_keep Z I1 Z I2) (k1 : jk Z v1 11) (kS : jk Z uS 17) (lS : jlen Z uS = 2) (k2 : jk Z v2 12) (h62 : jr Z v2 62 = some u62) (k62 : jk Z u62 14) (pc : PCs Z v1 uF uP x0 x2) (pm : PMs Z v2 u5 u53 u54) (n24 : n ≤ 24)
    (p1 : KP11 Z uS v r1 I0 I1) (q1 : KBC Z v1 uS v r1 I0 I1) (p2 : KP12 v2 uK uC v r2 I1 I2) (q2 : KPM Z v2 v r2 I1 I2) (hs : PP n (I0 x0) (I0 u5)) (h : KP2 Z I0 uS u62 n) : KP2 Z I2 uS u62 n := by
  obtain ⟨hF, kF, hP, kP, hx0, kx0, -⟩ := pc
  obtain ⟨h5, k5, -⟩ := pm
  intro i b a hi hb hh ha
  obtain ⟨y, ey, kb⟩ := w.1.2.2.1 uS kS i (by rw [lS]; exact hi)
  cases hb.symm.trans ey
  obtain ⟨x, ex, ka, -⟩ := sh_f w.1 kb (j := 2) (k := 14) (m := 192) rfl
  cases ha.symm.trans ex
  obtain ⟨a0, ha0, -⟩ := sh_f w.1 kb (j := 0) (k := 14) (m := 24) rfl
  obtain ⟨a1, ha1, -⟩ := sh_f w.1 kb (j := 1) (k := 14) (m := 24) rfl
  obtain ⟨a3, ha3, -⟩ := sh_f w.1 kb (j := 3) (k := 14) (m := 8) rfl
  obtain ⟨y1, hy1, -⟩ := sh_f w.1 kF (j := 1) (k := 14) (m := 24) rfl
  obtain ⟨y2, hy2, -⟩ := sh_f w.1 kF (j := 2) (k := 14) (m := 24) rfl
  obtain ⟨y5, hy5, -⟩ := sh_f w.1 k1 (j := 5) (k := 14) (m := 8) rfl
  have g1 := q1 uF uP x0 y1 y2 y5 hF hP hx0 hy1 hy2 hy5 i b a0 a1 a a3 hi hb ha0 ha1 ha ha3
  obtain ⟨u65, h65, -⟩ := sh_f w.1 k2 (j := 65) (k := 14) (m := 2) rfl
  obtain ⟨u2, h2, -⟩ := sh_f w.1 k2 (j := 2) (k := 14) (m := 24) rfl
  obtain ⟨u3, h3, -⟩ := sh_f w.1 k2 (j := 3) (k := 14) (m := 24) rfl
  obtain ⟨u14, h14, -⟩ := sh_f w.1 k2 (j := 14) (k := 14) (m := 6) rfl
  obtain ⟨u15, h15, -⟩ := sh_f w.1 k2 (j := 15) (k := 14) (m := 6) rfl
  obtain ⟨u16, h16, -⟩ := sh_f w.1 k2 (j := 16) (k := 14) (m := 6) rfl
  obtain ⟨u17, h17, -⟩ := sh_f w.1 k2 (j := 17) (k := 14) (m := 8) rfl
  have g2 := q2 u62 u65 u2 u3 u5 u14 u15 u16 u17 h62 h65 h2 h3 h5 h14 h15 h16 h17
  have e5 : I1 u5 = I0 u5 := f1.2.2.2 v2 12 5 u5 k2 h5 (by rw [k5.2]; rfl) rfl (by decide)
  have eK : I1 u62 = I0 u62 := f1.2.2.2 v2 12 62 u62 k2 h62 (by rw [k62.2]; rfl) rfl (by decide)
  have ea : I2 a = I1 a := f2.2.2.2 b 2 2 a kb ha (by rw [ka.2]; rfl) rfl (by decide)
  rw [f2.2.2.1 b 2 8 kb (by decide) (by decide)] at hh
  rw [ea]
  rcases p1 with ⟨hr, hv, z1⟩ | ⟨hr, hv, z1⟩
  · have hr2 : r2 = 1 := by
      rcases p2 with ⟨h9, -⟩ | ⟨-, h9, -⟩
      · exact h9
      · exact absurd hv h9
    obtain ⟨k1', k2', -, -⟩ := g2.1 hr2
    have n1 := i_nat (x := v) rfl hv.1
    by_cases c : i = v.toNatClampNeg
    · refine PP_cg n24 hs (fun z hz => (g1.1 ⟨hr, c⟩).2.2.1 z hz) (fun z hz => ?_)
      show I2 u62 (266 * i + 48 + z) = I0 u5 z
      rw [c, show 266 * v.toNatClampNeg + 48 + z = 266 * v.toNatClampNeg + (48 + z) by omega, k1' (48 + z) (by omega), kS_pa hz, e5]
    · rw [(z1 i b hi hb).2 c] at hh
      rw [(g1.2 (fun q => c q.2)).2.2.1]
      refine PP_cg n24 (h i b a hi hb hh ha) (fun _ _ => rfl) (fun z hz => ?_)
      show I2 u62 (266 * i + 48 + z) = I0 u62 (266 * i + 48 + z)
      rw [k2' (266 * i + 48 + z) (by omega), eK]
  · have hr2 : r2 = 0 := by
      rcases p2 with ⟨-, h9, -⟩ | ⟨h9, -⟩
      · exact absurd h9 hv
      · exact h9
    rw [z1 b kb] at hh
    rw [(g1.2 (fun q => by omega)).2.2.1, (g2.2 hr2).1, eK]
    exact h i b a hi hb hh ha
theorem PR_again {Z : jZ} {I0 I1 I2 : jI} {v1 v2 uS uF uP x0 x2 u5 u53 u54 u62 n : Nat} {v : Int32} {r1 r2 : Int} (w : WD Z I0) (f1 : FR Ws_X11_again Z I0 Z I1) (f2 : FR Ws_X12_again Z I1 Z I2) (k1 : jk Z v1 11) (kS : jk Z uS 17) (lS : jlen Z uS = 2) (k2 : jk Z v2 12) (h62 : jr Z v2 62 = some u62) (k62 : jk Z u62 14) (pc : PCs Z v1 uF uP x0 x2) (pm : PMs Z v2 u5 u53 u54) (hn : (I0 v2 0).toInt = (n : Int)) (n24 : n ≤ 24) (er : r1 = r2)
    (p1 : YN r1 (AG11 Z I0 uS v)) (q1 : AGC Z v1 uS v r1 I0 I1) (q2 : AGM Z v2 v r2 I1 I2) (hs : PR I0 uP x0 x2 v2 u5 u53) (h : KP2 Z I0 uS u62 n) : PR I2 uP x0 x2 v2 u5 u53 := by
  subst er
  have qc := EQC_fr f2 pc (by decide)
  have pc' := pc
  obtain ⟨hF, kF, hP, kP, hx0, kx0, hx2, kx2⟩ := pc
  obtain ⟨h5, k5, h53, k53, -⟩ := pm
  obtain ⟨y1, hy1, -⟩ := sh_f w.1 kF (j := 1) (k := 14) (m := 24) rfl
  obtain ⟨y2, hy2, -⟩ := sh_f w.1 kF (j := 2) (k := 14) (m := 24) rfl
  obtain ⟨y5, hy5, -⟩ := sh_f w.1 k1 (j := 5) (k := 14) (m := 8) rfl
  have g1 := q1 uF uP x0 y1 y2 y5 hF hP hx0 hy1 hy2 hy5
  obtain ⟨u2, h2, -⟩ := sh_f w.1 k2 (j := 2) (k := 14) (m := 24) rfl
  obtain ⟨u3, h3, -⟩ := sh_f w.1 k2 (j := 3) (k := 14) (m := 24) rfl
  have g2 := q2 u62 u2 u3 u5 h62 h2 h3 h5
  have eK : I1 u62 = I0 u62 := f1.2.2.2 v2 12 62 u62 k2 h62 (by rw [k62.2]; rfl) rfl (by decide)
  have e0 : I2 v2 0 = I0 v2 0 := (f2.2.2.1 v2 12 0 k2 (by decide) (by decide)).trans (f1.2.2.1 v2 12 0 k2 (by decide) (by decide))
  have en : (I2 v2 0).toInt.toNat = n := by rw [e0, hn]; exact Int.toNat_natCast n
  rcases p1 with ⟨hr, hv, b, hb, hh⟩ | ⟨hr, -⟩
  · have n1 := i_nat (x := v) rfl hv.1
    obtain ⟨y, ey, kb⟩ := w.1.2.2.1 uS kS v.toNatClampNeg (by rw [lS]; omega)
    cases hb.symm.trans ey
    obtain ⟨a0, ha0, -⟩ := sh_f w.1 kb (j := 0) (k := 14) (m := 24) rfl
    obtain ⟨a1, ha1, -⟩ := sh_f w.1 kb (j := 1) (k := 14) (m := 24) rfl
    obtain ⟨a2, ha2, -⟩ := sh_f w.1 kb (j := 2) (k := 14) (m := 192) rfl
    obtain ⟨a3, ha3, -⟩ := sh_f w.1 kb (j := 3) (k := 14) (m := 8) rfl
    obtain ⟨-, -, b1, -, b4⟩ := g1.1 hr b a0 a1 a2 a3 hb ha0 ha1 ha2 ha3
    obtain ⟨-, -, c1, c4⟩ := g2.1 hr
    refine PR_mk en qc ⟨PP_cg n24 (h v.toNatClampNeg b a2 (by omega) hb hh ha2) b1 (fun z hz => by rw [c1 z hz, eK]), by rw [b4, c4], fun k hk => ?_⟩
    rw [b4] at hk
    exact absurd hk (Nat.not_lt_zero k)
  · have z := g1.2 hr
    subst z
    obtain ⟨-, -, c1, c4⟩ := g2.2 hr
    exact PR_same qc ⟨c1, c4, f2.2.2.2 v2 12 53 u53 k2 h53 (by rw [k53.2]; rfl) rfl (by decide), e0⟩ hs
/-- stairs -/
theorem PP_stairs {cc : Nat → Nat → Int} {n : Nat} {P T : Nat → Int32} (n24 : n ≤ 24) (hf : ∀ s, s < n → 0 ≤ cc 4 s ∧ cc 4 s ≤ 7) (hP : ∀ s g : Nat, s < 24 → g < 8 → (P (8 * s + g)).toInt = if s < n ∧ (g : Int) = cc 4 s then 720 else 0) (hT : ∀ s, s < n → ∀ g : Nat, g < 8 → (T (8 * s + g)).toInt = if (g : Int) = cc 4 s then 720 else 0) : PP n P T := by
  refine ⟨fun z hz => (i_eq rfl rfl).mpr ?_, fun z h1 h2 => (i_eq rfl (show (0 : Int32).toInt = 0 from rfl)).mpr ?_, fun s hs => ⟨fun g hg => ?_, ?_⟩⟩
  · have a := hP (z / 8) (z % 8) (by omega) (by omega)
    have b := hT (z / 8) (by omega) (z % 8) (by omega)
    rw [show 8 * (z / 8) + z % 8 = z by omega] at a b
    rw [a, b]
    by_cases c : ((z % 8 : Nat) : Int) = cc 4 (z / 8)
    · rw [if_pos ⟨by omega, c⟩, if_pos c]
    · rw [if_neg (fun h => c h.2), if_neg c]
  · have a := hP (z / 8) (z % 8) (by omega) (by omega)
    rw [show 8 * (z / 8) + z % 8 = z by omega] at a
    rw [a, if_neg (by omega)]
  · rw [hT s hs g hg]; split <;> omega
  · obtain ⟨f0, f1⟩ := hf s hs
    obtain ⟨f, hff⟩ : ∃ f : Nat, (f : Int) = cc 4 s := ⟨(cc 4 s).toNat, by omega⟩
    rw [shS_cg (h := fun i => if i = f then 720 else (fun _ => (0 : Int)) i) 8 (fun g hg => by
      show (T (8 * s + g)).toInt = if g = f then 720 else 0
      rw [hT s hs g hg]
      by_cases c : g = f
      · rw [if_pos c, if_pos (by omega)]
      · rw [if_neg c, if_neg (by omega)]), shS_upd 8, if_pos (by omega)]
    show shS (fun _ => (0 : Int)) 8 + (720 - 0) = 720
    rfl
theorem EQC_tr {I I' I'' : jI} {uP x0 x2 : Nat} (a : EQC I I' uP x0 x2) (b : EQC I' I'' uP x0 x2) : EQC I I'' uP x0 x2 := ⟨b.1.trans a.1, b.2.1.trans a.2.1, b.2.2.1.trans a.2.2.1, b.2.2.2.trans a.2.2.2⟩
theorem EQM_tr {I I' I'' : jI} {v2 u5 u53 : Nat} (a : EQM I I' v2 u5 u53) (b : EQM I' I'' v2 u5 u53) : EQM I I'' v2 u5 u53 := ⟨b.1.trans a.1, b.2.1.trans a.2.1, b.2.2.1.trans a.2.2.1, b.2.2.2.trans a.2.2.2⟩
theorem PR_stairs {Z Z2 : jZ} {I0 I1 I2 : jI} {v1 v2 uB uM uF uP x0 x2 u5 u53 u54 : Nat} {r1 r2 sB sM : Int} (w : WD Z I1) (k2 : jk Z v2 12) (pc : PCs Z v1 uF uP x0 x2) (pm : PMs Z v2 u5 u53 u54) (f2 : FR Ws_X12_stairs Z I1 Z2 I2) (qm : EQM I0 I1 v2 u5 u53) (er : r1 = r2) (eS : r1 = stA (I0 uB) sB) (r24 : r1 ≤ 24) (ec : cT (I0 uB) sB = cT (I1 uM) sM)
    (q1 : (0 ≤ r1 → ∀ uP x0, jr Z uF 4 = some uP → jr Z uP 0 = some x0 → (I1 uP 4).toInt = 0 ∧ ∀ s g : Nat, s < 24 → g < 8 → (I1 x0 (8 * s + g)).toInt = if (s : Int) < r1 ∧ (g : Int) = cT (I0 uB) sB 4 s then 720 else 0) ∧ (r1 < 0 → ∀ uP x0 x2, jr Z uF 4 = some uP → jr Z uP 0 = some x0 → jr Z uP 2 = some x2 → EQC I0 I1 uP x0 x2))
    (q2 : (0 ≤ r2 → MF (cT (I1 uM) sM) Z I2 v2 r2) ∧ (r2 < 0 → ∀ j u, 1 ≤ j → j ≤ 5 → jr Z v2 j = some u → I2 u = I1 u) ∧ (0 ≤ r2 → (I2 v2 52).toInt = 0) ∧ (r2 < 0 → I2 v2 52 = I1 v2 52)) (q3 : (0 ≤ r2 → (I2 v2 0).toInt = r2) ∧ (r2 < 0 → (I2 v2 0).toInt = (I1 v2 0).toInt)) (hs : PR I0 uP x0 x2 v2 u5 u53) : PR I2 uP x0 x2 v2 u5 u53 := by
  subst er
  have qc := EQC_fr f2 pc (by decide)
  obtain ⟨hF, kF, hP, kP, hx0, kx0, hx2, kx2⟩ := pc
  obtain ⟨h5, k5, h53, k53, -⟩ := pm
  by_cases c : 0 ≤ r1
  · obtain ⟨b4, bP⟩ := q1.1 c uP x0 hP hx0
    obtain ⟨u1, h1, -⟩ := sh_f w.1 k2 (j := 1) (k := 14) (m := 24) rfl
    obtain ⟨u2, h2, -⟩ := sh_f w.1 k2 (j := 2) (k := 14) (m := 24) rfl
    obtain ⟨u3, h3, -⟩ := sh_f w.1 k2 (j := 3) (k := 14) (m := 24) rfl
    obtain ⟨u4, h4, -⟩ := sh_f w.1 k2 (j := 4) (k := 16) (m := 24) rfl
    have mc := q2.1 c u1 u2 u3 u4 u5 h1 h2 h3 h4 h5
    refine PR_mk (n := r1.toNat) (by rw [q3.1 c]) qc ⟨PP_stairs (cc := cT (I0 uB) sB) (by omega) (fun s hs2 => ?_) (fun s g hs2 hg => ?_) (fun s hs2 g hg => ?_), by rw [b4, q2.2.2.1 c], fun k hk => ?_⟩
    · rw [eS] at c hs2
      exact cT_fam c s (by omega)
    · rw [bP s g hs2 hg]
      by_cases d : (s : Int) < r1 ∧ (g : Int) = cT (I0 uB) sB 4 s
      · rw [if_pos d, if_pos ⟨by omega, d.2⟩]
      · rw [if_neg d, if_neg (fun h => d ⟨by omega, h.2⟩)]
    · rw [(mc s hs2).2.2.2.2 g hg, ec]
    · rw [b4] at hk
      exact absurd hk (Nat.not_lt_zero k)
  · have c' : r1 < 0 := by omega
    have e0 : I2 v2 0 = I1 v2 0 := (i_eq rfl rfl).mpr (q3.2 c')
    exact PR_same (EQC_tr (q1.2 c' uP x0 x2 hP hx0 hx2) qc) (EQM_tr qm ⟨q2.2.1 c' 5 u5 (by decide) (by decide) h5, q2.2.2.2 c', f2.2.2.2 v2 12 53 u53 k2 h53 (by rw [k53.2]; rfl) rfl (by decide), e0⟩) hs
end
section
/-! ===== longs as numbers ===== -/
theorem l_add {x y : Int64} {A B : Int} (hx : x.toInt = A) (hy : y.toInt = B) (h1 : -9223372036854775808 ≤ A + B) (h2 : A + B ≤ 9223372036854775807) : (x + y).toInt = A + B := by
  subst hx; subst hy
  rw [Int64.toInt_add, Int.bmod_def]; omega
theorem l_sub {x y : Int64} {A B : Int} (hx : x.toInt = A) (hy : y.toInt = B) (h1 : -9223372036854775808 ≤ A - B) (h2 : A - B ≤ 9223372036854775807) : (x - y).toInt = A - B := by
  subst hx; subst hy
  rw [Int64.toInt_sub, Int.bmod_def]; omega
theorem l_mul {x y : Int64} {A B : Int} (hx : x.toInt = A) (hy : y.toInt = B) (h1 : -9223372036854775808 ≤ A * B) (h2 : A * B ≤ 9223372036854775807) : (x * y).toInt = A * B := by
  subst hx; subst hy
  rw [Int64.toInt_mul, Int.bmod_def]
  generalize x.toInt * y.toInt = t at h1 h2 ⊢
  omega
theorem l_rng (x : Int64) : -9223372036854775808 ≤ x.toInt ∧ x.toInt ≤ 9223372036854775807 := by
  have h1 := Int64.le_toInt x
  have h2 := Int64.toInt_lt x
  omega
theorem l_div {x y : Int64} {A B : Int} (hx : x.toInt = A) (hy : y.toInt = B) (h0 : 0 ≤ A) (h1 : 0 < B) : (x / y).toInt = A / B := by
  subst hx; subst hy
  have hr := l_rng x
  rw [Int64.toInt_div, Int.tdiv_eq_ediv_of_nonneg h0, Int.bmod_def]
  have h2 : 0 ≤ x.toInt / y.toInt := Int.ediv_nonneg h0 (by omega)
  have h3 : x.toInt / y.toInt ≤ x.toInt := Int.ediv_le_self _ h0
  generalize x.toInt / y.toInt = t at h2 h3 ⊢
  omega
theorem lq_rem {x y : Int64} {A B : Int} (hx : x.toInt = A) (hy : y.toInt = B) (h0 : 0 ≤ A) (h1 : 0 < B) : (x - x / y * y).toInt = A % B := by
  have hd := l_div hx hy h0 h1
  have e : A / B * B = A - A % B := by
    have := Int.mul_ediv_add_emod A B
    rw [Int.mul_comm] at this
    omega
  have g1 := Int.emod_nonneg A (show B ≠ 0 by omega)
  have g2 := Int.emod_lt_of_pos A h1
  have g3 := l_rng x
  have g4 : A % B ≤ A := by
    by_cases hl : A < B
    · rw [Int.emod_eq_of_lt h0 hl]; omega
    · omega
  have hm := l_mul hd hy (by omega) (by omega)
  have hs := l_sub hx hm (by omega) (by omega)
  rw [hs]; omega
theorem lq_of {x : Int32} {A : Int} (h : x.toInt = A) : x.toInt64.toInt = A := by rw [Int32.toInt_toInt64]; exact h
theorem l_to {x : Int64} {A : Int} (h : x.toInt = A) (h1 : -2147483648 ≤ A) (h2 : A ≤ 2147483647) : x.toInt32.toInt = A := by
  rw [Int64.toInt_toInt32, h, Int.bmod_def]; omega
theorem l_le {x y : Int64} {A B : Int} (hx : x.toInt = A) (hy : y.toInt = B) : (lg_cmp x y ≤ 0) ↔ A ≤ B := by
  subst hx; subst hy
  have g : (x > y) ↔ y.toInt < x.toInt := Int64.lt_iff_toInt_lt
  have e : (x = y) ↔ x.toInt = y.toInt := ⟨fun h => by rw [h], fun h => Int64.toInt_inj.mp h⟩
  unfold lg_cmp
  by_cases c : x > y
  · rw [if_pos c]
    have := g.mp c
    constructor
    · intro h; exact absurd h (by decide)
    · intro h; omega
  · rw [if_neg c]
    have c' := (not_congr g).mp c
    by_cases d : x = y
    · rw [if_pos d]
      exact ⟨fun _ => by omega, fun _ => by decide⟩
    · rw [if_neg d]
      exact ⟨fun _ => by omega, fun _ => by decide⟩
theorem jpL_at {L : jL} {a j : Nat} {v : Int64} : jpL L a j v a j = v := by
  show va_up L a (vp_updL (L a) j v) a j = v
  rw [va_up_self]; exact if_pos rfl
theorem jpL_off {L : jL} {a j i : Nat} {v : Int64} (h : i ≠ j) : jpL L a j v a i = L a i := by
  show va_up L a (vp_updL (L a) j v) a i = L a i
  rw [va_up_self]; exact if_neg h
/-! ===== coppers divided by parts ===== -/
/-- the first of the greatest -/
def amx (r : Nat → Int) : Nat → Nat
  | 0 => 0
  | k + 1 => if r (amx r k) < r (k + 1) then k + 1 else amx r k
theorem amx_le (r : Nat → Int) : ∀ k, amx r k ≤ k := by
  intro k
  induction k with
  | zero => exact Nat.le_refl 0
  | succ k ih =>
    show (if r (amx r k) < r (k + 1) then k + 1 else amx r k) ≤ k + 1
    split <;> omega
theorem amx_cg {r r' : Nat → Int} : ∀ k, (∀ i, i ≤ k → r i = r' i) → amx r k = amx r' k := by
  intro k
  induction k with
  | zero => intro _; rfl
  | succ k ih =>
    intro h
    have e := ih (fun i hi => h i (by omega))
    have l := amx_le r' k
    show (if r (amx r k) < r (k + 1) then k + 1 else amx r k) = (if r' (amx r' k) < r' (k + 1) then k + 1 else amx r' k)
    rw [e, h (amx r' k) (by omega), h (k + 1) (by omega)]
/-- k coppers more, one by one to those with the greatest rest -/
def dvS (sh rm : Nat → Int) : Nat → (Nat → Int) × (Nat → Int)
  | 0 => (sh, rm)
  | k + 1 => (fun i => if i = amx (dvS sh rm k).2 7 then (dvS sh rm k).1 i + 1 else (dvS sh rm k).1 i, fun i => if i = amx (dvS sh rm k).2 7 then -1 else (dvS sh rm k).2 i)
theorem dvS_bd {sh rm : Nat → Int} {M : Int} (h1 : ∀ i, i < 8 → 0 ≤ sh i ∧ sh i ≤ M) (h2 : ∀ i, i < 8 → -1 ≤ rm i ∧ rm i ≤ M) (hM : 0 ≤ M) : ∀ k, (∀ i, i < 8 → 0 ≤ (dvS sh rm k).1 i ∧ (dvS sh rm k).1 i ≤ M + k) ∧ ∀ i, i < 8 → -1 ≤ (dvS sh rm k).2 i ∧ (dvS sh rm k).2 i ≤ M := by
  intro k
  induction k with
  | zero => exact ⟨fun i hi => by have := h1 i hi; exact ⟨this.1, by show sh i ≤ M + 0; omega⟩, h2⟩
  | succ k ih =>
    obtain ⟨a, b⟩ := ih
    refine ⟨fun i hi => ?_, fun i hi => ?_⟩
    · have := a i hi
      show 0 ≤ (if i = amx (dvS sh rm k).2 7 then (dvS sh rm k).1 i + 1 else (dvS sh rm k).1 i) ∧ (if i = amx (dvS sh rm k).2 7 then (dvS sh rm k).1 i + 1 else (dvS sh rm k).1 i) ≤ M + ((k + 1 : Nat) : Int)
      split <;> omega
    · have := b i hi
      show -1 ≤ (if i = amx (dvS sh rm k).2 7 then -1 else (dvS sh rm k).2 i) ∧ (if i = amx (dvS sh rm k).2 7 then -1 else (dvS sh rm k).2 i) ≤ M
      split <;> omega
/-- the class -/
theorem dv_L92 {Z : jZ} {I : jI} {L : jL} (w : WD Z I) (v0 : Nat) (kv0 : jk Z v0 11) (d6 : Nat) (h6 : jr Z v0 6 = some d6) (k6 : jk Z d6 14) (d7 : Nat) (h7 : jr Z v0 7 = some d7) (k7 : jk Z d7 14) (v3 v4 : Int32) (g : Nat) (e4 : v4.toInt = (g : Int)) (hg : g < 8) (sh rm : Nat → Int) (es : ∀ i, i < 8 → (I d6 i).toInt = sh i) (er : ∀ i, i < 8 → (I d7 i).toInt = rm i) (hs : ∀ i, i < 8 → 0 ≤ sh i ∧ sh i ≤ 2000000000) {K : Nat → Int32 → Int32 → jI → jL → Prop} {Q : jI → jL → Prop}
    (hK : ∀ (I' : jI) (x : Int32), WD Z I' → FR Ws_X11_divide Z I Z I' → x.toInt = ((g + 1 : Nat) : Int) → (∀ i, i < 8 → (I' d6 i).toInt = if i = amx rm 7 then sh i + 1 else sh i) → (∀ i, i < 8 → (I' d7 i).toInt = if i = amx rm 7 then -1 else rm i) → K v0 v3 x I' L) :
    ∀ (n k : Nat) (v5 v6 : Int32), v6.toInt = ((k + 1 : Nat) : Int) → k ≤ 7 → v5.toInt = (amx rm k : Int) → 8 ≤ n + k → f_X11_divide_L92 K Z Q n v0 v3 v4 v5 v6 I L := by
  have z1 : (1 : Int32).toInt = 1 := rfl
  have n67 : d6 ≠ d7 := ds_ne w.2.1 kv0 h6 h7 rfl rfl (by decide)
  intro n
  induction n with
  | zero => intro k v5 v6 e6 hk e5 hn; exfalso; omega
  | succ n ih =>
    intro k v5 v6 e6 hk e5 hn
    have la := amx_le rm k
    have q5 := i_nat e5 (by omega)
    have q5 : v5.toNatClampNeg = amx rm k := by omega
    have q6 := i_nat e6 (by omega)
    have q6 : v6.toNatClampNeg = k + 1 := by omega
    unfold f_X11_divide_L92
    refine ⟨fun c => ?_, fun c => ?_⟩
    · have c := (i_le (show (8 : Int32).toInt = 8 from rfl) e6).mp c
      have ek : k = 7 := by omega
      subst ek
      intro b3 e3
      cases h6.symm.trans e3
      refine ⟨vi_of e5 (by omega) (by omega), vi_of e5 (by omega) (by omega), ?_⟩
      intro I6 ei6
      rw [q5] at ei6
      have w6 : WD Z I6 := by rw [ei6]; exact WD_putA w 11 6 kv0 h6 k6 rfl rfl (by decide) trivial
      have f6 : FR Ws_X11_divide Z I Z I6 := by rw [ei6]; exact FR_upA w.2.1 kv0 h6 k6 rfl rfl (by decide)
      intro b7 e7
      cases h7.symm.trans e7
      refine ⟨vi_of e5 (by omega) (by omega), ?_⟩
      intro I9 ei9 x10 e10
      rw [q5] at ei9
      have w9 : WD Z I9 := by rw [ei9]; exact WD_putA w6 11 7 kv0 h7 k7 rfl rfl (by decide) trivial
      have f9 : FR Ws_X11_divide Z I Z I9 := f6.trans w.1 w.2.1 (by rw [ei9]; exact FR_upA w6.2.1 kv0 h7 k7 rfl rfl (by decide))
      refine hK I9 x10 w9 f9 ?_ (fun i hi => ?_) (fun i hi => ?_)
      · rw [e10]; exact (i_add e4 z1 (by omega) (by omega)).trans (by omega)
      · rw [ei9, jpI_ne n67]
        by_cases hq : i = amx rm 7
        · have hsi := hs (amx rm 7) (by omega)
          rw [if_pos hq, hq, ei6, jpI_at]
          exact i_add (es _ (by omega)) z1 (by omega) (by omega)
        · rw [if_neg hq, ei6, jpI_off hq]; exact es i hi
      · by_cases hq : i = amx rm 7
        · rw [if_pos hq, hq, ei9, jpI_at]; rfl
        · rw [if_neg hq, ei9, jpI_off hq, ei6, jpI_ne (fun e => n67 e.symm)]; exact er i hi
    have c := (not_congr (i_le (show (8 : Int32).toInt = 8 from rfl) e6)).mp c
    intro b11 e11
    cases h7.symm.trans e11
    refine ⟨vi_of e6 (by omega) (by omega), ?_⟩
    intro b13 e13
    cases h7.symm.trans e13
    refine ⟨vi_of e5 (by omega) (by omega), ?_⟩
    rw [q5, q6]
    have a1 := er (amx rm k) (by omega)
    have a2 := er (k + 1) (by omega)
    have nx : ∀ x : Int32, x = v6 + 1 → x.toInt = ((k + 1 + 1 : Nat) : Int) := fun x e => by rw [e]; exact (i_add e6 z1 (by omega) (by omega)).trans (by omega)
    refine ⟨fun c2 => ?_, fun c2 => ?_⟩
    · have c2 := (i_le a2 a1).mp c2
      unfold f_X11_divide_b123
      intro x1 ex1
      refine ih (k + 1) v5 x1 (nx x1 ex1) (by omega) ?_ (by omega)
      rw [e5]
      show _ = ((if rm (amx rm k) < rm (k + 1) then k + 1 else amx rm k : Nat) : Int)
      rw [if_neg (by omega)]
    · have c2 := (not_congr (i_le a2 a1)).mp c2
      unfold f_X11_divide_b123
      intro x1 ex1
      refine ih (k + 1) v6 x1 (nx x1 ex1) (by omega) ?_ (by omega)
      rw [e6]
      show _ = ((if rm (amx rm k) < rm (k + 1) then k + 1 else amx rm k : Nat) : Int)
      rw [if_pos (by omega)]
theorem dv_L73 {Z : jZ} {J : jI} (wJ : WD Z J) (v0 : Nat) (kv0 : jk Z v0 11) (d6 : Nat) (h6 : jr Z v0 6 = some d6) (k6 : jk Z d6 14) (d7 : Nat) (h7 : jr Z v0 7 = some d7) (k7 : jk Z d7 14) (v3 : Int32) (left : Nat) (e3 : v3.toInt = (left : Int)) (hl : left ≤ 7) (sh rm : Nat → Int) (M : Int) (hM : 0 ≤ M ∧ M ≤ 1000000000) (h1 : ∀ i, i < 8 → 0 ≤ sh i ∧ sh i ≤ M) (h2 : ∀ i, i < 8 → -1 ≤ rm i ∧ rm i ≤ M) {Q : jI → jL → Prop}
    (hQ : ∀ (I : jI) (L : jL), WD Z I → FR Ws_X11_divide Z J Z I → (∀ i, i < 8 → (I d6 i).toInt = (dvS sh rm left).1 i) → Q I L) :
    ∀ (n g : Nat) (v4 : Int32) (I : jI) (L : jL), WD Z I → FR Ws_X11_divide Z J Z I → v4.toInt = (g : Int) → g ≤ left → (∀ i, i < 8 → (I d6 i).toInt = (dvS sh rm g).1 i) → (∀ i, i < 8 → (I d7 i).toInt = (dvS sh rm g).2 i) → left + 1 ≤ n + g → f_X11_divide_L73 Z Q n v0 v3 v4 I L := by
  intro n
  induction n with
  | zero => intro g v4 I L w f e4 hg es er hn; exfalso; omega
  | succ n ih =>
    intro g v4 I L w f e4 hg es er hn
    unfold f_X11_divide_L73
    refine ⟨fun c => ?_, fun c => ⟨fun c2 => ?_, fun c2 => ?_⟩⟩
    · have c := (i_le e3 e4).mp c
      have eg : g = left := by omega
      subst eg
      exact hQ I L w f es
    · have c2 := (i_le (show (8 : Int32).toInt = 8 from rfl) e4).mp c2
      omega
    · have c := (not_congr (i_le e3 e4)).mp c
      have bd := dvS_bd h1 h2 hM.1 g
      refine ⟨8, dv_L92 w v0 kv0 d6 h6 k6 d7 h7 k7 v3 v4 g e4 (by omega) _ _ es er (fun i hi => by have := bd.1 i hi; omega) (fun I' x w' f' ex e6 e7 => ?_) 8 0 0 1 rfl (by omega) rfl (by omega)⟩
      exact ih (g + 1) x I' L w' (f.trans wJ.1 wJ.2.1 f') ex (by omega) e6 e7 (by omega)
/-- shares and rests at first -/
def sh0 (N W : Int) (wt : Nat → Int) : Nat → Int := fun i => N * wt i / W
def rmQ (N W : Int) (wt : Nat → Int) : Nat → Int := fun i => N * wt i % W
theorem sr_bd {N W : Int} {wt : Nat → Int} (hN : 0 ≤ N) (hW : 1 ≤ W) (hw : ∀ i, i < 8 → 0 ≤ wt i ∧ wt i ≤ W) (i : Nat) (hi : i < 8) : 0 ≤ N * wt i ∧ N * wt i ≤ N * W ∧ 0 ≤ sh0 N W wt i ∧ sh0 N W wt i ≤ N ∧ 0 ≤ rmQ N W wt i ∧ rmQ N W wt i < W := by
  have h := hw i hi
  have a : 0 ≤ N * wt i := Int.mul_nonneg hN h.1
  have b : N * wt i ≤ N * W := Int.mul_le_mul_of_nonneg_left h.2 hN
  refine ⟨a, b, Int.ediv_nonneg a (by omega), Int.ediv_le_of_le_mul (by omega) b, Int.emod_nonneg _ (by omega), Int.emod_lt_of_pos _ (by omega)⟩
theorem dv_L11 {Z : jZ} {J : jI} (wJ : WD Z J) (v0 : Nat) (kv0 : jk Z v0 11) (d6 : Nat) (h6 : jr Z v0 6 = some d6) (k6 : jk Z d6 14) (d7 : Nat) (h7 : jr Z v0 7 = some d7) (k7 : jk Z d7 14) (v1 v2 : Int32) (N W : Int) (e1 : v1.toInt = N) (e2 : v2.toInt = W) (hN : 0 ≤ N) (hW : 1 ≤ W) (hNW : N * W ≤ 1000000000) (wt : Nat → Int) (hw : ∀ i, i < 8 → 0 ≤ wt i ∧ wt i ≤ W) (ew : ∀ i, i < 8 → (J d6 i).toInt = wt i) (left : Nat) (el : N - shS (sh0 N W wt) 8 = (left : Int)) (hl : left ≤ 7) {Q : jI → jL → Prop}
    (hQ : ∀ (I : jI) (L : jL), WD Z I → FR Ws_X11_divide Z J Z I → (∀ i, i < 8 → (I d6 i).toInt = (dvS (sh0 N W wt) (rmQ N W wt) left).1 i) → Q I L) :
    ∀ (n f : Nat) (v3 v4 : Int32) (I : jI) (L : jL), WD Z I → FR Ws_X11_divide Z J Z I → v4.toInt = (f : Int) → f ≤ 8 → v3.toInt = N - shS (sh0 N W wt) f → (∀ i, i < f → (I d6 i).toInt = sh0 N W wt i ∧ (I d7 i).toInt = rmQ N W wt i) → (∀ i, f ≤ i → i < 8 → (I d6 i).toInt = wt i) → 9 ≤ n + f → f_X11_divide_L11 Z Q n v0 v1 v2 v3 v4 I L := by
  have z1 : (1 : Int32).toInt = 1 := rfl
  have n67 : d6 ≠ d7 := ds_ne wJ.2.1 kv0 h6 h7 rfl rfl (by decide)
  have hn2 : ¬ v2 = 0 := fun e => by have := congrArg Int32.toInt e; rw [show (0 : Int32).toInt = 0 from rfl] at this; omega
  have hN9 : N ≤ 1000000000 := by
    have h9 : N * 1 ≤ N * W := Int.mul_le_mul_of_nonneg_left hW hN
    rw [Int.mul_one] at h9
    omega
  have hS : ∀ f, f ≤ 8 → 0 ≤ shS (sh0 N W wt) f ∧ shS (sh0 N W wt) f ≤ N := by
    intro f hf
    have g := shS_ge (g := sh0 N W wt) (n := 8) (fun i hi => (sr_bd hN hW hw i hi).2.2.1)
    refine ⟨(g f hf).1, ?_⟩
    have mono : ∀ k, f + k ≤ 8 → shS (sh0 N W wt) f ≤ shS (sh0 N W wt) (f + k) := by
      intro k
      induction k with
      | zero => intro _; exact Int.le_refl _
      | succ k ih =>
        intro hk
        have a := ih (by omega)
        have b := (sr_bd hN hW hw (f + k) (by omega)).2.2.1
        show _ ≤ shS (sh0 N W wt) (f + k) + sh0 N W wt (f + k)
        omega
    have := mono (8 - f) (by omega)
    rw [show f + (8 - f) = 8 by omega] at this
    omega
  intro n
  induction n with
  | zero => intro f v3 v4 I L w fr e4 hf e3 h1 h2 hn; exfalso; omega
  | succ n ih =>
    intro f v3 v4 I L w fr e4 hf e3 h1 h2 hn
    unfold f_X11_divide_L11
    refine ⟨fun c => ?_, fun c => ?_⟩
    · have c := (i_le (show (8 : Int32).toInt = 8 from rfl) e4).mp c
      have ef : f = 8 := by omega
      subst ef
      refine ⟨left + 1, dv_L73 w v0 kv0 d6 h6 k6 d7 h7 k7 v3 left (by rw [e3]; exact el) hl (sh0 N W wt) (rmQ N W wt) (N * W) ?_ (fun i hi => ?_) (fun i hi => ?_) (fun I' L' w' f' g => hQ I' L' w' (fr.trans wJ.1 wJ.2.1 f') g) (left + 1) 0 0 I L w FR.rf rfl (by omega) (fun i hi => (h1 i hi).1) (fun i hi => (h1 i hi).2) (by omega)⟩
      · exact ⟨Int.mul_nonneg hN (by omega), hNW⟩
      · have b := sr_bd hN hW hw i hi
        refine ⟨b.2.2.1, Int.le_trans b.2.2.2.1 ?_⟩
        have h9 : N * 1 ≤ N * W := Int.mul_le_mul_of_nonneg_left hW hN
        rw [Int.mul_one] at h9
        exact h9
      · have b := sr_bd hN hW hw i hi
        refine ⟨by omega, ?_⟩
        have h8 : N * wt i % W ≤ N * wt i := by
          have := Int.mul_ediv_add_emod (N * wt i) W
          have h9 : 0 ≤ W * (N * wt i / W) := Int.mul_nonneg (by omega) (Int.ediv_nonneg b.1 (by omega))
          omega
        exact Int.le_trans h8 b.2.1
    have c := (not_congr (i_le (show (8 : Int32).toInt = 8 from rfl) e4)).mp c
    have q4 := i_nat e4 (by omega)
    have q4 : v4.toNatClampNeg = f := by omega
    have b := sr_bd hN hW hw f (by omega)
    have ef := h2 f (Nat.le_refl f) (by omega)
    have tm : (v1 * I d6 f).toInt = N * wt f := i_mul e1 ef (by omega) (by omega)
    intro b21 e21
    cases h7.symm.trans e21
    intro b22 e22
    cases h6.symm.trans e22
    refine ⟨vi_of e4 (by omega) (by omega), hn2, vi_of e4 (by omega) (by omega), ?_⟩
    intro I26 ei26
    rw [q4] at ei26
    have w26 : WD Z I26 := by rw [ei26]; exact WD_putA w 11 7 kv0 h7 k7 rfl rfl (by decide) trivial
    have f26 : FR Ws_X11_divide Z J Z I26 := fr.trans wJ.1 wJ.2.1 (by rw [ei26]; exact FR_upA w.2.1 kv0 h7 k7 rfl rfl (by decide))
    have o26 : I26 d6 = I d6 := by rw [ei26]; exact jpI_ne n67
    intro b27 e27
    cases h6.symm.trans e27
    intro b28 e28
    cases h6.symm.trans e28
    refine ⟨vi_of e4 (by omega) (by omega), hn2, vi_of e4 (by omega) (by omega), ?_⟩
    intro I32 ei32
    rw [q4, o26] at ei32
    have w32 : WD Z I32 := by rw [ei32]; exact WD_putA w26 11 6 kv0 h6 k6 rfl rfl (by decide) trivial
    have f32 : FR Ws_X11_divide Z J Z I32 := f26.trans wJ.1 wJ.2.1 (by rw [ei32]; exact FR_upA w26.2.1 kv0 h6 k6 rfl rfl (by decide))
    have y6 : (I32 d6 f).toInt = sh0 N W wt f := by rw [ei32, jpI_at]; exact i_div tm e2 b.1 (by omega)
    have y7 : (I32 d7 f).toInt = rmQ N W wt f := by rw [ei32, jpI_ne (fun e => n67 e.symm), ei26, jpI_at]; exact i_rem tm e2 b.1 (by omega)
    intro b33 e33
    cases h6.symm.trans e33
    refine ⟨vi_of e4 (by omega) (by omega), ?_⟩
    intro x35 e35 x36 e36
    rw [q4] at e35
    have hSf := hS f (by omega)
    refine ih (f + 1) x35 x36 I32 L w32 f32 ?_ (by omega) ?_ (fun i hi => ?_) (fun i hi hi8 => ?_) (by omega)
    · rw [e36]; exact (i_add e4 z1 (by omega) (by omega)).trans (by omega)
    · rw [e35, i_sub e3 y6 (by omega) (by omega)]
      show _ = N - (shS (sh0 N W wt) f + sh0 N W wt f)
      omega
    · by_cases hif : i = f
      · rw [hif]; exact ⟨y6, y7⟩
      · refine ⟨?_, ?_⟩
        · rw [ei32, jpI_off hif, o26]; exact (h1 i (by omega)).1
        · rw [ei32, jpI_ne (fun e => n67 e.symm), ei26, jpI_off hif]; exact (h1 i (by omega)).2
    · rw [ei32, jpI_off (by omega), o26]; exact h2 i (by omega) hi8
theorem s16_X11_divide {Z : jZ} {I : jI} {L : jL} (w : WD Z I) (v0 : Nat) (kv0 : jk Z v0 11) (v1 v2 : Int32) (d6 : Nat) (h6 : jr Z v0 6 = some d6) (N W : Int) (e1 : v1.toInt = N) (e2 : v2.toInt = W) (hN : 0 ≤ N) (hW : 1 ≤ W) (hNW : N * W ≤ 1000000000) (wt : Nat → Int) (hw : ∀ i, i < 8 → 0 ≤ wt i ∧ wt i ≤ W) (ew : ∀ i, i < 8 → (I d6 i).toInt = wt i) (left : Nat) (el : N - shS (sh0 N W wt) 8 = (left : Int)) (hl : left ≤ 7) {Q : jI → jL → Prop}
    (hQ : ∀ (I' : jI) (L' : jL), WD Z I' → FR Ws_X11_divide Z I Z I' → (∀ i, i < 8 → (I' d6 i).toInt = (dvS (sh0 N W wt) (rmQ N W wt) left).1 i) → Q I' L') : f_X11_divide v0 v1 v2 Z I L Q := by
  obtain ⟨x, ex, k6, -⟩ := sh_f w.1 kv0 (j := 6) (k := 14) (m := 8) rfl
  cases h6.symm.trans ex
  obtain ⟨d7, h7, k7, -⟩ := sh_f w.1 kv0 (j := 7) (k := 14) (m := 8) rfl
  unfold f_X11_divide
  refine ⟨fun _ => ⟨9, dv_L11 w v0 kv0 d6 h6 k6 d7 h7 k7 v1 v2 N W e1 e2 hN hW hNW wt hw ew left el hl hQ 9 0 v1 0 I L w FR.rf rfl (by omega) ?_ (fun i hi => absurd hi (by omega)) (fun i _ hi => ew i hi) (by omega)⟩, fun c => ?_⟩
  · rw [e1]
    show N = N - 0
    omega
  · exact absurd ((i_le (show (1 : Int32).toInt = 1 from rfl) e2).mpr hW) c
/-! ===== divide of the reference ===== -/
theorem dm_L147 {Z : jZ} {I : jI} {L : jL} (w : WD Z I) (v0 : Nat) (k0 : jk Z v0 12) (d5 : Nat) (h5 : jr Z v0 35 = some d5) (k5 : jk Z d5 14) (d6 : Nat) (h6 : jr Z v0 36 = some d6) (v5 : Int32) (g : Nat) (e5 : v5.toInt = (g : Int)) (hg : 1 ≤ g ∧ g ≤ 100) (sh rm : Nat → Int) (es : ∀ i, i < 8 → (I d5 i).toInt = sh i) (er : ∀ i, i < 8 → (L d6 i).toInt = rm i) (hs : ∀ i, i < 8 → 0 ≤ sh i ∧ sh i ≤ 2000000000) {K : Nat → Int32 → jI → jL → Prop} {Q : jI → jL → Prop}
    (hK : ∀ (I' : jI) (L' : jL) (x : Int32), WD Z I' → FR Ws_X12_divide Z I Z I' → x.toInt = (g : Int) - 1 → (∀ i, i < 8 → (I' d5 i).toInt = if i = amx rm 7 then sh i + 1 else sh i) → (∀ i, i < 8 → (L' d6 i).toInt = if i = amx rm 7 then -1 else rm i) → K v0 x I' L') :
    ∀ (n k : Nat) (v6 v7 : Int32), v7.toInt = ((k + 1 : Nat) : Int) → k ≤ 7 → v6.toInt = (amx rm k : Int) → 8 ≤ n + k → f_X12_divide_L147 K Z Q n v0 v5 v6 v7 I L := by
  have z1 : (1 : Int32).toInt = 1 := rfl
  intro n
  induction n with
  | zero => intro k v6 v7 e7 hk e6 hn; exfalso; omega
  | succ n ih =>
    intro k v6 v7 e7 hk e6 hn
    have la := amx_le rm k
    have q6 := i_nat e6 (by omega)
    have q6 : v6.toNatClampNeg = amx rm k := by omega
    have q7 := i_nat e7 (by omega)
    have q7 : v7.toNatClampNeg = k + 1 := by omega
    unfold f_X12_divide_L147
    refine ⟨fun c => ?_, fun c => ?_⟩
    · have c := (i_le (show (8 : Int32).toInt = 8 from rfl) e7).mp c
      have ek : k = 7 := by omega
      subst ek
      intro b3 e3
      cases h5.symm.trans e3
      refine ⟨vi_of e6 (by omega) (by omega), vi_of e6 (by omega) (by omega), ?_⟩
      intro I6 ei6
      rw [q6] at ei6
      have w6 : WD Z I6 := by rw [ei6]; exact WD_putA w 12 35 k0 h5 k5 rfl rfl (by decide) trivial
      have f6 : FR Ws_X12_divide Z I Z I6 := by rw [ei6]; exact FR_upA w.2.1 k0 h5 k5 rfl rfl (by decide)
      intro b7 e7'
      cases h6.symm.trans e7'
      refine ⟨vi_of e6 (by omega) (by omega), ?_⟩
      intro L9 el9 x10 e10
      rw [q6] at el9
      refine hK I6 L9 x10 w6 f6 ?_ (fun i hi => ?_) (fun i hi => ?_)
      · rw [e10]; exact (i_add e5 (show (-1 : Int32).toInt = -1 from rfl) (by omega) (by omega)).trans (by omega)
      · by_cases hq : i = amx rm 7
        · have hsi := hs (amx rm 7) (by omega)
          rw [if_pos hq, hq, ei6, jpI_at]
          exact i_add (es _ (by omega)) z1 (by omega) (by omega)
        · rw [if_neg hq, ei6, jpI_off hq]; exact es i hi
      · by_cases hq : i = amx rm 7
        · rw [if_pos hq, hq, el9, jpL_at]; rfl
        · rw [if_neg hq, el9, jpL_off hq]; exact er i hi
    have c := (not_congr (i_le (show (8 : Int32).toInt = 8 from rfl) e7)).mp c
    intro b11 e11
    cases h6.symm.trans e11
    refine ⟨vi_of e7 (by omega) (by omega), ?_⟩
    intro b13 e13
    cases h6.symm.trans e13
    refine ⟨vi_of e6 (by omega) (by omega), ?_⟩
    rw [q6, q7]
    have a1 := er (amx rm k) (by omega)
    have a2 := er (k + 1) (by omega)
    have nx : ∀ x : Int32, x = v7 + 1 → x.toInt = ((k + 1 + 1 : Nat) : Int) := fun x e => by rw [e]; exact (i_add e7 z1 (by omega) (by omega)).trans (by omega)
    refine ⟨fun c2 => ?_, fun c2 => ?_⟩
    · have c2 := (l_le a2 a1).mp c2
      unfold f_X12_divide_b176
      intro x1 ex1
      refine ih (k + 1) v6 x1 (nx x1 ex1) (by omega) ?_ (by omega)
      rw [e6]
      show _ = ((if rm (amx rm k) < rm (k + 1) then k + 1 else amx rm k : Nat) : Int)
      rw [if_neg (by omega)]
    · have c2 := (not_congr (l_le a2 a1)).mp c2
      unfold f_X12_divide_b176
      intro x1 ex1
      refine ih (k + 1) v7 x1 (nx x1 ex1) (by omega) ?_ (by omega)
      rw [e7]
      show _ = ((if rm (amx rm k) < rm (k + 1) then k + 1 else amx rm k : Nat) : Int)
      rw [if_pos (by omega)]
theorem dm_L136 {Z : jZ} {J : jI} (wJ : WD Z J) (v0 : Nat) (k0 : jk Z v0 12) (d5 : Nat) (h5 : jr Z v0 35 = some d5) (k5 : jk Z d5 14) (d6 : Nat) (h6 : jr Z v0 36 = some d6) (left : Nat) (hl : left ≤ 7) (sh rm : Nat → Int) (M : Int) (hM : 0 ≤ M ∧ M ≤ 1000000000) (h1 : ∀ i, i < 8 → 0 ≤ sh i ∧ sh i ≤ M) (h2 : ∀ i, i < 8 → -1 ≤ rm i ∧ rm i ≤ M) {Q : jI → jL → Prop}
    (hQ : ∀ (I : jI) (L : jL), WD Z I → FR Ws_X12_divide Z J Z I → (∀ i, i < 8 → (I d5 i).toInt = (dvS sh rm left).1 i) → Q I L) :
    ∀ (n g : Nat) (v5 : Int32) (I : jI) (L : jL), WD Z I → FR Ws_X12_divide Z J Z I → v5.toInt = (left : Int) - (g : Int) → g ≤ left → (∀ i, i < 8 → (I d5 i).toInt = (dvS sh rm g).1 i) → (∀ i, i < 8 → (L d6 i).toInt = (dvS sh rm g).2 i) → left + 1 ≤ n + g → f_X12_divide_L136 Z Q n v0 v5 I L := by
  intro n
  induction n with
  | zero => intro g v5 I L w f e5 hg es er hn; exfalso; omega
  | succ n ih =>
    intro g v5 I L w f e5 hg es er hn
    unfold f_X12_divide_L136
    refine ⟨fun c => ?_, fun c => ?_⟩
    · have c := (i_le e5 (show (0 : Int32).toInt = 0 from rfl)).mp c
      have eg : g = left := by omega
      subst eg
      exact hQ I L w f es
    · have c := (not_congr (i_le e5 (show (0 : Int32).toInt = 0 from rfl))).mp c
      have bd := dvS_bd h1 h2 hM.1 g
      refine ⟨8, dm_L147 w v0 k0 d5 h5 k5 d6 h6 v5 (left - g) (by omega) (by omega) _ _ es er (fun i hi => by have := bd.1 i hi; omega) (fun I' L' x w' f' ex e6 e7 => ?_) 8 0 0 1 rfl (by omega) rfl (by omega)⟩
      exact ih (g + 1) x I' L' w' (f.trans wJ.1 wJ.2.1 f') (by omega) (by omega) e6 e7 (by omega)
/-- what a FAMILY has: of one STEP (t), or of all -/
def wtM (P : Nat → Int32) (t : Int) (f : Nat) : Nat → Int := fun s => if t = -1 ∨ t = (s : Int) then (P (8 * s + f)).toInt else 0
theorem dm_L40 {Z : jZ} {I : jI} {L : jL} (w : WD Z I) (v0 : Nat) (k0 : jk Z v0 12) (u5 : Nat) (hu5 : jr Z v0 5 = some u5) (ku5 : jk Z u5 14) (d5 : Nat) (h5 : jr Z v0 35 = some d5) (k5 : jk Z d5 14) (d6 : Nat) (h6 : jr Z v0 36 = some d6) (v1 v2 : Int32) (v3 : Int64) (v5 v6 : Int32) (n f : Nat) (en : (I v0 0).toInt = (n : Int)) (hn : n ≤ 24) (N W : Int) (e1 : v1.toInt = N) (e3 : v3.toInt = W) (e6 : v6.toInt = (f : Int)) (hf : f < 8) (hN : 0 ≤ N) (hW : 1 ≤ W) (hNW : N * W ≤ 1000000000) (hp : ∀ s, s < n → 0 ≤ (I u5 (8 * s + f)).toInt ∧ (I u5 (8 * s + f)).toInt ≤ 720) (hw : shS (wtM (I u5) v2.toInt f) n ≤ W) (h5' : -1000000000 ≤ v5.toInt ∧ v5.toInt ≤ 1000000000) {K : Nat → Int32 → Int32 → Int64 → Int32 → Int32 → jI → jL → Prop} {Q : jI → jL → Prop}
    (hK : ∀ (I' : jI) (L' : jL) (x5 x6 : Int32), WD Z I' → FR Ws_X12_divide Z I Z I' → x6.toInt = ((f + 1 : Nat) : Int) → x5.toInt = v5.toInt - N * shS (wtM (I u5) v2.toInt f) n / W → (I' d5 f).toInt = N * shS (wtM (I u5) v2.toInt f) n / W → (∀ i, i ≠ f → I' d5 i = I d5 i) → (L' d6 f).toInt = N * shS (wtM (I u5) v2.toInt f) n % W → (∀ i, i ≠ f → L' d6 i = L d6 i) → K v0 v1 v2 v3 x5 x6 I' L') :
    ∀ (m s : Nat) (v7 : Int64) (v9 : Int32), v9.toInt = (s : Int) → s ≤ n → v7.toInt = shS (wtM (I u5) v2.toInt f) s → n + 1 ≤ m + s → f_X12_divide_L40 K Z Q m v0 v1 v2 v3 v5 v6 v7 v9 I L := by
  have z1 : (1 : Int32).toInt = 1 := rfl
  have hn3 : ¬ v3 = 0 := fun e => by have := congrArg Int64.toInt e; rw [show (0 : Int64).toInt = 0 from rfl] at this; omega
  have hb : ∀ i, i < n → 0 ≤ wtM (I u5) v2.toInt f i ∧ wtM (I u5) v2.toInt f i ≤ 720 := fun i hi => by
    have := hp i hi
    unfold wtM
    split <;> omega
  have hS := shS_bd (g := wtM (I u5) v2.toInt f) (n := n) hb
  intro m
  induction m with
  | zero => intro s v7 v9 e9 hs e7 hm; exfalso; omega
  | succ m ih =>
    intro s v7 v9 e9 hs e7 hm
    have hSs := hS s hs
    unfold f_X12_divide_L40
    refine ⟨fun c => ?_, fun c => ?_⟩
    · have c := (i_le en e9).mp c
      have es : s = n := by omega
      subst es
      have b0 : 0 ≤ N * shS (wtM (I u5) v2.toInt f) s := Int.mul_nonneg hN hSs.1
      have b1 : N * shS (wtM (I u5) v2.toInt f) s ≤ N * W := Int.mul_le_mul_of_nonneg_left hw hN
      have tm : ((v1.toInt64) * v7).toInt = N * shS (wtM (I u5) v2.toInt f) s := l_mul (lq_of e1) e7 (by omega) (by omega)
      have hN9 : N ≤ 1000000000 := by
        have h9 : N * 1 ≤ N * W := Int.mul_le_mul_of_nonneg_left hW hN
        rw [Int.mul_one] at h9
        omega
      have q0 : 0 ≤ N * shS (wtM (I u5) v2.toInt f) s / W := Int.ediv_nonneg b0 (by omega)
      have q1 : N * shS (wtM (I u5) v2.toInt f) s / W ≤ N := Int.ediv_le_of_le_mul (by omega) b1
      have td : ((((v1.toInt64) * v7) / v3).toInt32).toInt = N * shS (wtM (I u5) v2.toInt f) s / W := l_to (l_div tm e3 b0 (by omega)) (by omega) (by omega)
      have q6 := i_nat e6 (by omega)
      have q6 : v6.toNatClampNeg = f := by omega
      intro b23 e23
      cases h5.symm.trans e23
      refine ⟨hn3, vi_of e6 (by omega) (by omega), ?_⟩
      intro I26 e26 b27 e27
      cases h6.symm.trans e27
      rw [q6] at e26
      refine ⟨hn3, vi_of e6 (by omega) (by omega), ?_⟩
      intro L30 e30 b31 e31
      cases h5.symm.trans e31
      rw [q6] at e30
      refine ⟨vi_of e6 (by omega) (by omega), ?_⟩
      intro x33 e33 x34 e34
      rw [q6] at e33
      have y5 : (I26 d5 f).toInt = N * shS (wtM (I u5) v2.toInt f) s / W := by rw [e26, jpI_at]; exact td
      refine hK I26 L30 x33 x34 ?_ ?_ ?_ ?_ y5 (fun i hi => ?_) ?_ (fun i hi => ?_)
      · rw [e26]; exact WD_putA w 12 35 k0 h5 k5 rfl rfl (by decide) trivial
      · rw [e26]; exact FR_upA w.2.1 k0 h5 k5 rfl rfl (by decide)
      · rw [e34]; exact (i_add e6 z1 (by omega) (by omega)).trans (by omega)
      · rw [e33]; exact i_sub rfl y5 (by omega) (by omega)
      · rw [e26, jpI_off hi]
      · rw [e30, jpL_at]; exact lq_rem tm e3 b0 (by omega)
      · rw [e30, jpL_off hi]
    have c := (not_congr (i_le en e9)).mp c
    have hps := hp s (by omega)
    have nx : ∀ x : Int32, x = v9 + 1 → x.toInt = ((s + 1 : Nat) : Int) := fun x e => by rw [e]; exact (i_add e9 z1 (by omega) (by omega)).trans (by omega)
    have go : ∀ s1 : Int64, s1.toInt = wtM (I u5) v2.toInt f s → f_X12_divide_b80 K (f_X12_divide_L40 K Z Q m) Z Q v0 v1 v2 v3 v5 v6 v9 v7 s1 I L := fun s1 hs1 => by
      have hbs := hb s (by omega)
      unfold f_X12_divide_b80
      intro x18 e18 x19 e19
      refine ih (s + 1) x18 x19 (nx x19 e19) (by omega) ?_ (by omega)
      rw [e18, l_add e7 hs1 (by omega) (by omega)]
      rfl
    have g62 : (v2.toInt = -1 ∨ v2.toInt = (s : Int)) → f_X12_divide_b62 K (f_X12_divide_L40 K Z Q m) Z Q v0 v1 v2 v3 v5 v6 v9 v7 I L := fun hc => by
      have ti : (((8 : Int32) * v9) + v6).toInt = 8 * (s : Int) + (f : Int) := i_add (i_mul (show (8 : Int32).toInt = 8 from rfl) e9 (by omega) (by omega)) e6 (by omega) (by omega)
      have ni := i_nat ti (by omega)
      have ni : (((8 : Int32) * v9) + v6).toNatClampNeg = 8 * s + f := by omega
      unfold f_X12_divide_b62
      intro b20 e20
      cases hu5.symm.trans e20
      refine ⟨vi_of ti (by omega) (by omega), go _ ?_⟩
      rw [ni]
      unfold wtM
      rw [if_pos hc]
      exact lq_of rfl
    refine ⟨fun c2 => g62 (Or.inl ((i_eq rfl (show (-1 : Int32).toInt = -1 from rfl)).mp c2)), fun c2 => ⟨fun c3 => go 0 ?_, fun c3 => g62 (Or.inr ((i_eq rfl e9).mp c3))⟩⟩
    have c2 := (not_congr (i_eq (x := v2) (y := -1) rfl (show (-1 : Int32).toInt = -1 from rfl))).mp c2
    have c3 := (not_congr (i_eq (x := v2) (y := v9) rfl e9)).mp c3
    unfold wtM
    rw [if_neg (by omega)]
    rfl
theorem dm_L27 {Z : jZ} {J : jI} (wJ : WD Z J) (v0 : Nat) (k0 : jk Z v0 12) (u5 : Nat) (hu5 : jr Z v0 5 = some u5) (ku5 : jk Z u5 14) (d5 : Nat) (h5 : jr Z v0 35 = some d5) (k5 : jk Z d5 14) (d6 : Nat) (h6 : jr Z v0 36 = some d6) (v1 v2 : Int32) (v3 : Int64) (n : Nat) (en : (J v0 0).toInt = (n : Int)) (hn : n ≤ 24) (N W : Int) (e1 : v1.toInt = N) (e3 : v3.toInt = W) (hN : 0 ≤ N) (hW : 1 ≤ W) (hNW : N * W ≤ 1000000000) (hp : ∀ z, z < 8 * n → 0 ≤ (J u5 z).toInt ∧ (J u5 z).toInt ≤ 720) (wt : Nat → Int) (ew : ∀ f, f < 8 → shS (wtM (J u5) v2.toInt f) n = wt f) (hw : ∀ i, i < 8 → 0 ≤ wt i ∧ wt i ≤ W) (left : Nat) (el : N - shS (sh0 N W wt) 8 = (left : Int)) (hl : left ≤ 7) {Q : jI → jL → Prop}
    (hQ : ∀ (I : jI) (L : jL), WD Z I → FR Ws_X12_divide Z J Z I → (∀ i, i < 8 → (I d5 i).toInt = (dvS (sh0 N W wt) (rmQ N W wt) left).1 i) → Q I L) :
    ∀ (m f : Nat) (v5 v6 : Int32) (I : jI) (L : jL), WD Z I → FR Ws_X12_divide Z J Z I → v6.toInt = (f : Int) → f ≤ 8 → v5.toInt = N - shS (sh0 N W wt) f → (∀ i, i < f → (I d5 i).toInt = sh0 N W wt i ∧ (L d6 i).toInt = rmQ N W wt i) → 9 ≤ m + f → f_X12_divide_L27 Z Q m v0 v1 v2 v3 v5 v6 I L := by
  have hN9 : N ≤ 1000000000 := by
    have h9 : N * 1 ≤ N * W := Int.mul_le_mul_of_nonneg_left hW hN
    rw [Int.mul_one] at h9
    omega
  have mono : ∀ d k, k + d = 8 → shS (sh0 N W wt) k ≤ shS (sh0 N W wt) 8 := by
    intro d
    induction d with
    | zero =>
      intro k hk
      have ek : k = 8 := by omega
      subst ek
      exact Int.le_refl _
    | succ d ihd =>
      intro k hk
      have a := ihd (k + 1) (by omega)
      have b := (sr_bd hN hW hw k (by omega)).2.2.1
      have e : shS (sh0 N W wt) (k + 1) = shS (sh0 N W wt) k + sh0 N W wt k := rfl
      omega
  have hS : ∀ f, f ≤ 8 → 0 ≤ shS (sh0 N W wt) f ∧ shS (sh0 N W wt) f ≤ N := by
    intro f hf
    have g := shS_ge (g := sh0 N W wt) (n := 8) (fun i hi => (sr_bd hN hW hw i hi).2.2.1)
    have a := mono (8 - f) f (by omega)
    exact ⟨(g f hf).1, by omega⟩
  intro m
  induction m with
  | zero => intro f v5 v6 I L w fr e6 hf e5 h1 hm; exfalso; omega
  | succ m ih =>
    intro f v5 v6 I L w fr e6 hf e5 h1 hm
    have y5 : I u5 = J u5 := fr.2.2.2 v0 12 5 u5 k0 hu5 (by rw [ku5.2]; rfl) rfl (by decide)
    have y0 : (I v0 0).toInt = (n : Int) := by rw [fr.2.2.1 v0 12 0 k0 (by decide) (by decide)]; exact en
    have hSf := hS f hf
    unfold f_X12_divide_L27
    refine ⟨fun c => ?_, fun c => ?_⟩
    · have c := (i_le (show (8 : Int32).toInt = 8 from rfl) e6).mp c
      have ef : f = 8 := by omega
      subst ef
      refine ⟨left + 1, dm_L136 w v0 k0 d5 h5 k5 d6 h6 left hl (sh0 N W wt) (rmQ N W wt) (N * W) ⟨Int.mul_nonneg hN (by omega), hNW⟩ (fun i hi => ?_) (fun i hi => ?_) (fun I' L' w' f' g => hQ I' L' w' (fr.trans wJ.1 wJ.2.1 f') g) (left + 1) 0 v5 I L w FR.rf (by rw [e5, el]; show (left : Int) = (left : Int) - ((0 : Nat) : Int); omega) (by omega) (fun i hi => (h1 i hi).1) (fun i hi => (h1 i hi).2) (by omega)⟩
      · have b := sr_bd hN hW hw i hi
        refine ⟨b.2.2.1, Int.le_trans b.2.2.2.1 ?_⟩
        have h9 : N * 1 ≤ N * W := Int.mul_le_mul_of_nonneg_left hW hN
        rw [Int.mul_one] at h9
        exact h9
      · have b := sr_bd hN hW hw i hi
        refine ⟨by omega, ?_⟩
        have h8 : N * wt i % W ≤ N * wt i := by
          have := Int.mul_ediv_add_emod (N * wt i) W
          have h9 : 0 ≤ W * (N * wt i / W) := Int.mul_nonneg (by omega) (Int.ediv_nonneg b.1 (by omega))
          omega
        exact Int.le_trans h8 b.2.1
    have c := (not_congr (i_le (show (8 : Int32).toInt = 8 from rfl) e6)).mp c
    have hwf := hw f (by omega)
    have ewf := ew f (by omega)
    refine ⟨n + 1, dm_L40 w v0 k0 u5 hu5 ku5 d5 h5 k5 d6 h6 v1 v2 v3 v5 v6 n f y0 hn N W e1 e3 e6 (by omega) hN hW hNW (fun s hs => by rw [y5]; exact hp _ (by omega)) (by rw [y5, ewf]; exact hwf.2) (by omega) (fun I' L' x5 x6 w' f' t6 t5 g1 g2 g3 g4 => ?_) (n + 1) 0 0 0 rfl (by omega) rfl (by omega)⟩
    rw [y5, ewf] at t5 g1 g3
    refine ih (f + 1) x5 x6 I' L' w' (fr.trans wJ.1 wJ.2.1 f') t6 (by omega) ?_ (fun i hi => ?_) (by omega)
    · rw [t5, e5]
      show _ = N - (shS (sh0 N W wt) f + N * wt f / W)
      omega
    · by_cases hif : i = f
      · rw [hif]; exact ⟨g1, g3⟩
      · rw [g2 i hif, g4 i hif]; exact h1 i (by omega)
theorem s16_X12_divide {Z : jZ} {I : jI} {L : jL} (w : WD Z I) (v0 : Nat) (k0 : jk Z v0 12) (v1 v2 : Int32) (u5 : Nat) (hu5 : jr Z v0 5 = some u5) (d5 : Nat) (h5 : jr Z v0 35 = some d5) (n : Nat) (en : (I v0 0).toInt = (n : Int)) (hn : n ≤ 24) (N W : Int) (e1 : v1.toInt = N) (eW : W = if v2.toInt = -1 then 720 * (n : Int) else 720) (hN : 0 ≤ N) (hW : 1 ≤ W) (hNW : N * W ≤ 1000000000) (hp : ∀ z, z < 8 * n → 0 ≤ (I u5 z).toInt ∧ (I u5 z).toInt ≤ 720) (wt : Nat → Int) (ew : ∀ f, f < 8 → shS (wtM (I u5) v2.toInt f) n = wt f) (hw : ∀ i, i < 8 → 0 ≤ wt i ∧ wt i ≤ W) (left : Nat) (el : N - shS (sh0 N W wt) 8 = (left : Int)) (hl : left ≤ 7) {Q : jI → jL → Prop}
    (hQ : ∀ (I' : jI) (L' : jL), WD Z I' → FR Ws_X12_divide Z I Z I' → (∀ i, i < 8 → (I' d5 i).toInt = (dvS (sh0 N W wt) (rmQ N W wt) left).1 i) → Q I' L') : f_X12_divide v0 v1 v2 Z I L Q := by
  obtain ⟨x, ex, ku5, -⟩ := sh_f w.1 k0 (j := 5) (k := 14) (m := 192) rfl
  cases hu5.symm.trans ex
  obtain ⟨x, ex, k5, -⟩ := sh_f w.1 k0 (j := 35) (k := 14) (m := 8) rfl
  cases h5.symm.trans ex
  obtain ⟨d6, h6, -⟩ := sh_f w.1 k0 (j := 36) (k := 15) (m := 8) rfl
  have go : ∀ s0 : Int64, s0.toInt = W → f_X12_divide_b20 Z Q v0 v1 v2 s0 I L := fun s0 hs => by
    unfold f_X12_divide_b20
    refine ⟨9, dm_L27 w v0 k0 u5 hu5 ku5 d5 h5 k5 d6 h6 v1 v2 s0 n en hn N W e1 hs hN hW hNW hp wt ew hw left el hl hQ 9 0 v1 0 I L w FR.rf rfl (by omega) ?_ (fun i hi => absurd hi (by omega)) (by omega)⟩
    rw [e1]
    show N = N - 0
    omega
  unfold f_X12_divide
  refine ⟨fun c => go 720 ?_, fun c => go _ ?_⟩
  · have c := (not_congr (i_eq (x := v2) (y := -1) rfl (show (-1 : Int32).toInt = -1 from rfl))).mp c
    rw [eW, if_neg c]; rfl
  · have c := (i_eq (x := v2) (y := -1) rfl (show (-1 : Int32).toInt = -1 from rfl)).mp c
    rw [eW, if_pos c]
    exact l_mul (show (720 : Int64).toInt = 720 from rfl) (lq_of en) (by omega) (by omega)
/-- fewer coppers are left than there are FAMILIES -/
theorem shS_mul {g : Nat → Int} {c : Int} : ∀ n, shS (fun i => c * g i) n = c * shS g n := by
  intro n
  induction n with
  | zero => show (0 : Int) = c * 0; rw [Int.mul_zero]
  | succ n ih =>
    show shS (fun i => c * g i) n + c * g n = c * (shS g n + g n)
    rw [ih, Int.mul_add]
theorem shS_add {g h : Nat → Int} : ∀ n, shS (fun i => g i + h i) n = shS g n + shS h n := by
  intro n
  induction n with
  | zero => rfl
  | succ n ih =>
    show shS (fun i => g i + h i) n + (g n + h n) = shS g n + g n + (shS h n + h n)
    rw [ih]
    omega
theorem shS_lt {g : Nat → Int} {B : Int} {n : Nat} (h : ∀ i, i < n → g i ≤ B) : ∀ k, k ≤ n → shS g k ≤ (k : Int) * B := by
  intro k
  induction k with
  | zero => intro _; show (0 : Int) ≤ ((0 : Nat) : Int) * B; rw [show ((0 : Nat) : Int) = 0 from rfl, Int.zero_mul]; exact Int.le_refl 0
  | succ k ih =>
    intro hk
    have a := ih (by omega)
    have b := h k (by omega)
    show shS g k + g k ≤ ((k + 1 : Nat) : Int) * B
    rw [show ((k + 1 : Nat) : Int) = (k : Int) + 1 from rfl, Int.add_mul, Int.one_mul]
    omega
theorem left_ok {N W : Int} {wt : Nat → Int} (hN : 0 ≤ N) (hW : 1 ≤ W) (hw : ∀ i, i < 8 → 0 ≤ wt i ∧ wt i ≤ W) (hs : shS wt 8 = W) : ∃ left : Nat, N - shS (sh0 N W wt) 8 = (left : Int) ∧ left ≤ 7 := by
  have e : shS (fun i => N * wt i) 8 = W * shS (sh0 N W wt) 8 + shS (rmQ N W wt) 8 := by
    rw [← shS_mul, ← shS_add]
    exact shS_cg 8 (fun i _ => by
      show N * wt i = W * (N * wt i / W) + N * wt i % W
      exact (Int.mul_ediv_add_emod (N * wt i) W).symm)
  rw [shS_mul, hs] at e
  have r0 := (shS_ge (g := rmQ N W wt) (n := 8) (fun i hi => (sr_bd hN hW hw i hi).2.2.2.2.1) 8 (Nat.le_refl 8)).1
  have r1 := shS_lt (g := rmQ N W wt) (B := W - 1) (n := 8) (fun i hi => by have := (sr_bd hN hW hw i hi).2.2.2.2.2; omega) 8 (Nat.le_refl 8)
  have ex : W * (N - shS (sh0 N W wt) 8) = shS (rmQ N W wt) 8 := by
    rw [Int.mul_sub, Int.mul_comm W N]
    omega
  have hi : N - shS (sh0 N W wt) 8 < 8 := by
    refine Int.lt_of_mul_lt_mul_left (a := W) ?_ (by omega)
    rw [ex]
    have r1 : shS (rmQ N W wt) 8 ≤ 8 * (W - 1) := r1
    omega
  have lo : 0 ≤ N - shS (sh0 N W wt) 8 := by
    rcases Int.lt_or_le (N - shS (sh0 N W wt) 8) 0 with h | h
    · have : W * (N - shS (sh0 N W wt) 8) ≤ W * (-1) := Int.mul_le_mul_of_nonneg_left (by omega) (by omega)
      rw [ex] at this
      omega
    · exact h
  exact ⟨(N - shS (sh0 N W wt) 8).toNat, by omega, by omega⟩
theorem shS_swap {g : Nat → Nat → Int} {m : Nat} : ∀ n, shS (fun f => shS (fun s => g s f) n) m = shS (fun s => shS (fun f => g s f) m) n := by
  intro n
  induction n with
  | zero =>
    show shS (fun _ => (0 : Int)) m = 0
    induction m with
    | zero => rfl
    | succ m ih => show shS (fun _ => (0 : Int)) m + 0 = 0; rw [ih]; rfl
  | succ n ih =>
    show shS (fun f => shS (fun s => g s f) n + g n f) m = shS (fun s => shS (fun f => g s f) m) n + shS (fun f => g n f) m
    rw [shS_add, ih]
theorem OWP_all {n : Nat} {P : Nat → Int32} (h : OWP n P) : shS (fun f => shS (fun s => (P (8 * s + f)).toInt) n) 8 = 720 * (n : Int) := by
  rw [shS_swap]
  have : ∀ k, k ≤ n → shS (fun s => shS (fun f => (P (8 * s + f)).toInt) 8) k = 720 * (k : Int) := by
    intro k
    induction k with
    | zero => intro _; rfl
    | succ k ih =>
      intro hk
      show shS (fun s => shS (fun f => (P (8 * s + f)).toInt) 8) k + shS (fun f => (P (8 * k + f)).toInt) 8 = 720 * ((k + 1 : Nat) : Int)
      rw [ih (by omega), (h k (by omega)).2]
      omega
  exact this n (Nat.le_refl n)
/-! ===== rail ===== -/
theorem su_L2 {Z : jZ} {J : jI} (wJ : WD Z J) (v0 : Nat) (k0 : jk Z v0 4) (x0 : Nat) (h0 : jr Z v0 0 = some x0) (kx : jk Z x0 14) (o : Nat) (ko : jk Z o 11) (d6 : Nat) (h6 : jr Z o 6 = some d6) (k6 : jk Z d6 14) (l6 : jlen Z d6 = 8) (hb : ∀ z, z < 192 → 0 ≤ (J x0 z).toInt ∧ (J x0 z).toInt ≤ 720) {Q : jI → jL → Prop}
    (hQ : ∀ (I : jI) (L : jL), WD Z I → FR [(11, 6)] Z J Z I → (∀ f, f < 8 → (I d6 f).toInt = shS (fun s => (J x0 (8 * s + f)).toInt) 24) → Q I L) :
    ∀ (n f : Nat) (v2 : Int32) (I : jI) (L : jL), WD Z I → FR [(11, 6)] Z J Z I → v2.toInt = (f : Int) → f ≤ 8 → (∀ i, i < f → (I d6 i).toInt = shS (fun s => (J x0 (8 * s + i)).toInt) 24) → 9 ≤ n + f → f_X4_sumInto_L2 Z Q n v0 d6 v2 I L := by
  have zn : (nI (jlen Z d6)).toInt = 8 := by rw [l6]; exact i_nI (n := 8) (by omega)
  intro n
  induction n with
  | zero => intro f v2 I L w fr e2 hf h1 hn; exfalso; omega
  | succ n ih =>
    intro f v2 I L w fr e2 hf h1 hn
    have y0 : I x0 = J x0 := fr.2.2.2 v0 4 0 x0 k0 h0 (by rw [kx.2]; rfl) rfl (by decide)
    unfold f_X4_sumInto_L2
    refine ⟨fun c => ?_, fun c => ⟨fun c2 => ?_, fun c2 => ?_⟩⟩
    · have c := (i_le (show (8 : Int32).toInt = 8 from rfl) e2).mp c
      exact hQ I L w fr (fun f' hf' => h1 f' (by omega))
    · have c2 := (i_le zn e2).mp c2
      exact hQ I L w fr (fun f' hf' => h1 f' (by omega))
    · have c := (not_congr (i_le (show (8 : Int32).toInt = 8 from rfl) e2)).mp c
      have q2 := i_nat e2 (by omega)
      have q2 : v2.toNatClampNeg = f := by omega
      refine s15_X4_sumOf w v0 v2 k0 x0 h0 f e2 (by omega) (fun s hs => by rw [y0]; exact hb _ (by omega)) (fun r hr => ?_)
      rw [y0] at hr
      refine ⟨by rw [l6]; exact vi_of e2 (by omega) (by omega), ?_⟩
      intro I11 e11 x12 e12
      rw [q2] at e11
      refine ih (f + 1) x12 I11 L ?_ ?_ ?_ (by omega) (fun i hi => ?_) (by omega)
      · rw [e11]; exact WD_putA w 11 6 ko h6 k6 rfl rfl (by decide) trivial
      · refine fr.trans wJ.1 wJ.2.1 ?_
        rw [e11]; exact FR_upA w.2.1 ko h6 k6 rfl rfl List.mem_cons_self
      · rw [e12]; exact (i_add e2 (show (1 : Int32).toInt = 1 from rfl) (by omega) (by omega)).trans (by omega)
      · by_cases hif : i = f
        · rw [hif, e11, jpI_at]; exact hr
        · rw [e11, jpI_off hif]; exact h1 i (by omega)
/-- how many have some -/
def soM (sh : Nat → Int) : Nat → Int := fun i => if 0 < sh i then 1 else 0
theorem soM_bd (sh : Nat → Int) : ∀ k : Nat, 0 ≤ shS (soM sh) k ∧ shS (soM sh) k ≤ (k : Int) := by
  intro k
  induction k with
  | zero => exact ⟨Int.le_refl 0, Int.le_refl 0⟩
  | succ k ih =>
    have : 0 ≤ soM sh k ∧ soM sh k ≤ 1 := by unfold soM; split <;> omega
    show 0 ≤ shS (soM sh) k + soM sh k ∧ shS (soM sh) k + soM sh k ≤ ((k + 1 : Nat) : Int)
    omega
theorem ra_L61 {Z : jZ} {J : jI} (wJ : WD Z J) (v0 : Nat) (kv0 : jk Z v0 11) (d6 : Nat) (h6 : jr Z v0 6 = some d6) (k6 : jk Z d6 14) (sh : Nat → Int) (es : ∀ i, i < 8 → (J d6 i).toInt = sh i) {Q : Int32 → jI → jL → Prop}
    (hQ : ∀ (r : Int32) (I : jI) (L : jL), WD Z I → FR Ws_X11_tellMore Z J Z I → r.toInt = shS (soM sh) 8 → Q r I L) :
    ∀ (n f : Nat) (v2 v3 : Int32) (I : jI) (L : jL), WD Z I → FR Ws_X11_tellMore Z J Z I → v3.toInt = (f : Int) → f ≤ 8 → v2.toInt = shS (soM sh) f → 9 ≤ n + f → f_X11_rail_L61 Z Q n v0 v2 v3 I L := by
  intro n
  induction n with
  | zero => intro f v2 v3 I L w fr e3 hf e2 hn; exfalso; omega
  | succ n ih =>
    intro f v2 v3 I L w fr e3 hf e2 hn
    have bd := soM_bd sh f
    unfold f_X11_rail_L61
    refine ⟨fun c => ?_, fun c => ?_⟩
    · have c := (i_le (show (8 : Int32).toInt = 8 from rfl) e3).mp c
      have ef : f = 8 := by omega
      subst ef
      exact hQ v2 I L w fr e2
    have c := (not_congr (i_le (show (8 : Int32).toInt = 8 from rfl) e3)).mp c
    have q3 := i_nat e3 (by omega)
    have q3 : v3.toNatClampNeg = f := by omega
    intro b4 e4
    cases h6.symm.trans e4
    refine ⟨vi_of e3 (by omega) (by omega), ?_⟩
    refine s_X11_tellMore w v0 _ kv0 (fun I8 L8 w8 f8 => ?_)
    have f8' := fr.trans wJ.1 wJ.2.1 f8
    have y6 : I8 d6 = J d6 := f8'.2.2.2 v0 11 6 d6 kv0 h6 (by rw [k6.2]; rfl) rfl (by decide)
    intro b12 e12
    cases h6.symm.trans e12
    refine ⟨vi_of e3 (by omega) (by omega), ?_⟩
    rw [q3, y6]
    have go : ∀ s1 : Int32, s1.toInt = soM sh f → f_X11_rail_b93 (f_X11_rail_L61 Z Q n) Z Q v0 v3 v2 s1 I8 L8 := fun s1 h1 => by
      have b1 : 0 ≤ soM sh f ∧ soM sh f ≤ 1 := by unfold soM; split <;> omega
      unfold f_X11_rail_b93
      intro x1 ex1 x2 ex2
      refine ih (f + 1) x1 x2 I8 L8 w8 f8' ?_ (by omega) ?_ (by omega)
      · rw [ex2]; exact (i_add e3 (show (1 : Int32).toInt = 1 from rfl) (by omega) (by omega)).trans (by omega)
      · rw [ex1, i_add e2 h1 (by omega) (by omega)]; rfl
    have ef := es f (by omega)
    refine ⟨fun c2 => go 0 ?_, fun c2 => go 1 ?_⟩
    · have c2 := (i_le ef (show (0 : Int32).toInt = 0 from rfl)).mp c2
      unfold soM
      rw [if_neg (by omega)]; rfl
    · have c2 := (not_congr (i_le ef (show (0 : Int32).toInt = 0 from rfl))).mp c2
      unfold soM
      rw [if_pos (by omega)]; rfl
/-- what rail answers: wt what each FAMILY has of n STEPS -/
def RAIr (n : Nat) (wt : Nat → Int) (v1 r : Int32) : Prop := (¬ (1 ≤ n ∧ 0 ≤ v1.toInt ∧ v1.toInt ≤ 9999) ∧ r.toInt = -1) ∨ ((1 ≤ n ∧ 0 ≤ v1.toInt ∧ v1.toInt ≤ 9999) ∧ ∀ left : Nat, v1.toInt - shS (sh0 v1.toInt (720 * (n : Int)) wt) 8 = (left : Int) → r.toInt = shS (soM (dvS (sh0 v1.toInt (720 * (n : Int)) wt) (rmQ v1.toInt (720 * (n : Int)) wt) left).1) 8)
theorem s16_X11_rail {Z : jZ} {I : jI} {L : jL} (w : WD Z I) (v0 : Nat) (v1 : Int32) (kv0 : jk Z v0 11) (uF uP x0 x2 : Nat) (pc : PCs Z v0 uF uP x0 x2) (n : Nat) (en : (I uF 9).toInt = (n : Int)) (hb : ∀ z, z < 192 → 0 ≤ (I x0 z).toInt ∧ (I x0 z).toInt ≤ 720) (hs : shS (fun f => shS (fun s => (I x0 (8 * s + f)).toInt) 24) 8 = 720 * (n : Int)) {Q : Int32 → jI → jL → Prop} (hQ : ∀ (r : Int32) (I' : jI) (L' : jL), WD Z I' → FR Ws_X11_rail Z I Z I' → RAIr n (fun f => shS (fun s => (I x0 (8 * s + f)).toInt) 24) v1 r → Q r I' L') : f_X11_rail v0 v1 Z I L Q := by
  obtain ⟨huF, kF, huP, kP, h0, k0, h2, k2⟩ := pc
  have t9 : 0 ≤ (I uF 9).toInt ∧ (I uF 9).toInt ≤ 24 := w.fld 8 9 kF (by decide)
  obtain ⟨d6, h6, k6, l6⟩ := sh_f w.1 kv0 (j := 6) (k := 14) (m := 8) rfl
  have z0 : (0 : Int32).toInt = 0 := rfl
  have bad : ¬ (1 ≤ n ∧ 0 ≤ v1.toInt ∧ v1.toInt ≤ 9999) → Q (-1 : Int32) I L := fun h => hQ _ I L w FR.rf (Or.inl ⟨h, rfl⟩)
  unfold f_X11_rail
  refine ⟨fun c => bad (by have c := (i_lt (x := v1) (y := 0) rfl z0).mp c; omega), fun c => ⟨fun c2 => bad (by have c2 := (i_lt (x := 9999) (y := v1) (show (9999 : Int32).toInt = 9999 from rfl) rfl).mp c2; omega), fun c2 => ?_⟩⟩
  have c := (not_congr (i_lt (x := v1) (y := 0) rfl z0)).mp c
  have c2 := (not_congr (i_lt (x := 9999) (y := v1) (show (9999 : Int32).toInt = 9999 from rfl) rfl)).mp c2
  intro b17 e17
  cases huF.symm.trans e17
  refine ⟨fun c3 => ?_, fun c3 => bad (by have c3 := yz c3; omega)⟩
  have c3 := nz c3
  intro b19 e19
  cases huF.symm.trans e19
  intro b20 e20
  cases huP.symm.trans e20
  intro b21 e21
  cases h6.symm.trans e21
  unfold f_X4_sumInto
  refine ⟨9, su_L2 w uP kP x0 h0 k0 v0 kv0 d6 h6 k6 l6 hb (fun I1 L1 w1 f1 y1 => ?_) 9 0 0 I L w FR.rf rfl (by omega) (fun i hi => absurd hi (by omega)) (by omega)⟩
  intro b28 e28
  cases huF.symm.trans e28
  have t1 : (I1 uF 9).toInt = (n : Int) := by rw [f1.2.2.1 uF 8 9 kF (by decide) (by decide)]; exact en
  have tW : ((720 : Int32) * (I1 uF 9)).toInt = 720 * (n : Int) := i_mul (show (720 : Int32).toInt = 720 from rfl) t1 (by omega) (by omega)
  have w0 : ∀ i, i < 8 → 0 ≤ shS (fun s => (I x0 (8 * s + i)).toInt) 24 := fun i hi => (shS_bd (g := fun s => (I x0 (8 * s + i)).toInt) (n := 24) (fun s hs' => hb _ (by omega)) 24 (Nat.le_refl 24)).1
  have hw : ∀ i, i < 8 → 0 ≤ shS (fun s => (I x0 (8 * s + i)).toInt) 24 ∧ shS (fun s => (I x0 (8 * s + i)).toInt) 24 ≤ 720 * (n : Int) := fun i hi => by
    refine ⟨w0 i hi, ?_⟩
    have g := (shS_ge (g := fun f => shS (fun s => (I x0 (8 * s + f)).toInt) 24) (n := 8) w0 8 (Nat.le_refl 8)).2 i hi
    rw [hs] at g
    exact g
  have hNW : v1.toInt * (720 * (n : Int)) ≤ 1000000000 := by
    have h8 : v1.toInt * (720 * (n : Int)) ≤ 9999 * (720 * 24) := Int.mul_le_mul (by omega) (by omega) (by omega) (by omega)
    omega
  obtain ⟨left, el, hl⟩ := left_ok (N := v1.toInt) (W := 720 * (n : Int)) (by omega) (by omega) hw hs
  refine s16_X11_divide w1 v0 kv0 v1 _ d6 h6 v1.toInt (720 * (n : Int)) rfl tW (by omega) (by omega) hNW _ hw y1 left el hl (fun I2 L2 w2 f2 y2 => ?_)
  have g2 : FR Ws_X11_rail Z I Z I2 := (f1.mono (by decide)).trans w.1 w.2.1 (f2.mono (by decide))
  refine s_X11_tellNothing w2 v0 kv0 (fun I3 L3 w3 f3 => ?_)
  have y3 : I3 d6 = I2 d6 := f3.2.2.2 v0 11 6 d6 kv0 h6 (by rw [k6.2]; rfl) rfl (by decide)
  refine ⟨9, ra_L61 w3 v0 kv0 d6 h6 k6 (dvS (sh0 v1.toInt (720 * (n : Int)) (fun f => shS (fun s => (I x0 (8 * s + f)).toInt) 24)) (rmQ v1.toInt (720 * (n : Int)) (fun f => shS (fun s => (I x0 (8 * s + f)).toInt) 24)) left).1 (fun i hi => by rw [y3]; exact y2 i hi) (fun r I4 L4 w4 f4 hr => ?_) 9 0 0 0 I3 L3 w3 FR.rf rfl (by omega) rfl (by omega)⟩
  refine hQ r I4 L4 w4 ((g2.trans w.1 w.2.1 (f3.mono (by decide))).trans w.1 w.2.1 (f4.mono (by decide))) (Or.inr ⟨⟨by omega, by omega, by omega⟩, fun left' el' => ?_⟩)
  have : left' = left := by omega
  rw [this]
  exact hr
theorem rm_L40 {Z : jZ} {J : jI} (wJ : WD Z J) (v0 : Nat) (k0 : jk Z v0 12) (d5 : Nat) (h5 : jr Z v0 35 = some d5) (k5 : jk Z d5 14) (sh : Nat → Int) (es : ∀ i, i < 8 → (J d5 i).toInt = sh i) {Q : Int32 → jI → jL → Prop}
    (hQ : ∀ (r : Int32) (I : jI) (L : jL), WD Z I → FR [(12, 21)] Z J Z I → r.toInt = shS (soM sh) 8 → Q r I L) :
    ∀ (n f : Nat) (v2 v3 : Int32) (I : jI) (L : jL), WD Z I → FR [(12, 21)] Z J Z I → (I v0 21).toInt = (f : Int) → v3.toInt = (f : Int) → f ≤ 8 → v2.toInt = shS (soM sh) f → 9 ≤ n + f → f_X12_rail_L40 Z Q n v0 v2 v3 I L := by
  intro n
  induction n with
  | zero => intro f v2 v3 I L w fr e21 e3 hf e2 hn; exfalso; omega
  | succ n ih =>
    intro f v2 v3 I L w fr e21 e3 hf e2 hn
    have bd := soM_bd sh f
    unfold f_X12_rail_L40
    refine ⟨fun c => ?_, fun c => ?_⟩
    · have c := (i_le (show (8 : Int32).toInt = 8 from rfl) e3).mp c
      have ef : f = 8 := by omega
      subst ef
      exact hQ v2 I L w fr e2
    have c := (not_congr (i_le (show (8 : Int32).toInt = 8 from rfl) e3)).mp c
    have q3 := i_nat e3 (by omega)
    have q3 : v3.toNatClampNeg = f := by omega
    intro b4 e4
    cases h5.symm.trans e4
    refine ⟨vi_of e3 (by omega) (by omega), ?_⟩
    refine s_X12_tell w v0 _ k0 (by omega) (fun I8 L8 w8 f8 p8 => ?_)
    have f8' := fr.trans wJ.1 wJ.2.1 (f8.mono (by decide))
    have y5 : I8 d5 = J d5 := f8'.2.2.2 v0 12 35 d5 k0 h5 (by rw [k5.2]; rfl) rfl (by decide)
    intro b12 e12
    cases h5.symm.trans e12
    refine ⟨vi_of e3 (by omega) (by omega), ?_⟩
    rw [q3, y5]
    have go : ∀ s1 : Int32, s1.toInt = soM sh f → f_X12_rail_b72 (f_X12_rail_L40 Z Q n) Z Q v0 v3 v2 s1 I8 L8 := fun s1 h1 => by
      have b1 : 0 ≤ soM sh f ∧ soM sh f ≤ 1 := by unfold soM; split <;> omega
      unfold f_X12_rail_b72
      intro x1 ex1 x2 ex2
      refine ih (f + 1) x1 x2 I8 L8 w8 f8' (by omega) ?_ (by omega) ?_ (by omega)
      · rw [ex2]; exact (i_add e3 (show (1 : Int32).toInt = 1 from rfl) (by omega) (by omega)).trans (by omega)
      · rw [ex1, i_add e2 h1 (by omega) (by omega)]; rfl
    have ef := es f (by omega)
    refine ⟨fun c2 => go 0 ?_, fun c2 => go 1 ?_⟩
    · have c2 := (i_le ef (show (0 : Int32).toInt = 0 from rfl)).mp c2
      unfold soM
      rw [if_neg (by omega)]; rfl
    · have c2 := (not_congr (i_le ef (show (0 : Int32).toInt = 0 from rfl))).mp c2
      unfold soM
      rw [if_pos (by omega)]; rfl
theorem s16_X12_rail {Z : jZ} {I : jI} {L : jL} (w : WD Z I) (v0 : Nat) (v1 : Int32) (kv0 : jk Z v0 12) (u5 u53 u54 : Nat) (pm : PMs Z v0 u5 u53 u54) (n : Nat) (en : (I v0 0).toInt = (n : Int)) (ok : OWP n (I u5)) {Q : Int32 → jI → jL → Prop} (hQ : ∀ (r : Int32) (I' : jI) (L' : jL), WD Z I' → FR Ws_X12_rail Z I Z I' → RAIr n (fun f => shS (fun s => (I u5 (8 * s + f)).toInt) n) v1 r → Q r I' L') : f_X12_rail v0 v1 Z I L Q := by
  obtain ⟨h5, k5, -⟩ := pm
  obtain ⟨d5, hd5, kd5, -⟩ := sh_f w.1 kv0 (j := 35) (k := 14) (m := 8) rfl
  have t0 : 0 ≤ (I v0 0).toInt ∧ (I v0 0).toInt ≤ 24 := w.fld 12 0 kv0 (by decide)
  have z0 : (0 : Int32).toInt = 0 := rfl
  have z9 : (9999 : Int32).toInt = 9999 := rfl
  unfold f_X12_rail
  intro I1 e1
  have w1 : WD Z I1 := by rw [e1]; exact WD_putF w 12 22 kv0 (by decide) (by decide) trivial
  have f1 : FR Ws_X12_rail Z I Z I1 := by rw [e1]; exact FR_putF kv0 (by decide) (by decide)
  have s0 : (I1 v0 0).toInt = (n : Int) := by rw [e1, jpI_o (by decide)]; exact en
  have o5 : I1 u5 = I u5 := by rw [e1]; exact jpI_ne (ks_ne k5 kv0 (by decide))
  have bad : ¬ (1 ≤ n ∧ 0 ≤ v1.toInt ∧ v1.toInt ≤ 9999) → Q (-1 : Int32) I1 L := fun h => hQ _ I1 L w1 f1 (Or.inl ⟨h, rfl⟩)
  refine ⟨fun c => bad (by have c := yz c; omega), fun c => ?_⟩
  have c := nz c
  refine s_X12_in w1 _ _ _ (fun r p => ⟨fun c2 => ?_, fun c2 => bad (by have c2 := yz c2; omega)⟩)
  have c2 := nz c2
  have ew : ∀ f, f < 8 → shS (wtM (I1 u5) (-1 : Int32).toInt f) n = shS (fun s => (I u5 (8 * s + f)).toInt) n := fun f hf => shS_cg n (fun i hi => by
    show (if (-1 : Int32).toInt = -1 ∨ _ then _ else _) = _
    rw [if_pos (Or.inl (show (-1 : Int32).toInt = -1 from rfl)), o5])
  have w0 : ∀ i, i < 8 → 0 ≤ shS (fun s => (I u5 (8 * s + i)).toInt) n := fun i hi => (shS_bd (g := fun s => (I u5 (8 * s + i)).toInt) (n := n) (fun s hs' => OWP_le ok (by omega)) n (Nat.le_refl n)).1
  have hs := OWP_all ok
  have hw : ∀ i, i < 8 → 0 ≤ shS (fun s => (I u5 (8 * s + i)).toInt) n ∧ shS (fun s => (I u5 (8 * s + i)).toInt) n ≤ 720 * (n : Int) := fun i hi => by
    refine ⟨w0 i hi, ?_⟩
    have g := (shS_ge (g := fun f => shS (fun s => (I u5 (8 * s + f)).toInt) n) (n := 8) w0 8 (Nat.le_refl 8)).2 i hi
    rw [hs] at g
    exact g
  have hNW : v1.toInt * (720 * (n : Int)) ≤ 1000000000 := by
    have h8 : v1.toInt * (720 * (n : Int)) ≤ 9999 * (720 * 24) := Int.mul_le_mul (by omega) (by omega) (by omega) (by omega)
    omega
  obtain ⟨left, el, hl⟩ := left_ok (N := v1.toInt) (W := 720 * (n : Int)) (by omega) (by omega) hw hs
  refine s16_X12_divide w1 v0 kv0 v1 (-1) u5 h5 d5 hd5 n s0 (by omega) v1.toInt (720 * (n : Int)) rfl (if_pos (show (-1 : Int32).toInt = -1 from rfl)).symm (by omega) (by omega) hNW (fun z hz => by rw [o5]; exact OWP_le ok hz) _ ew hw left el hl (fun I2 L2 w2 f2 y2 => ?_)
  intro I3 e3
  have w3 : WD Z I3 := by rw [e3]; exact WD_putF w2 12 21 kv0 (by decide) (by decide) (show rg 0 40 _ from ⟨by decide, by decide⟩)
  have f3 : FR Ws_X12_rail Z I Z I3 := (f1.trans w.1 w.2.1 (f2.mono (by decide))).trans w.1 w.2.1 (by rw [e3]; exact FR_putF kv0 (by decide) (by decide))
  have y3 : I3 d5 = I2 d5 := by rw [e3]; exact jpI_ne (ks_ne kd5 kv0 (by decide))
  refine ⟨9, rm_L40 w3 v0 kv0 d5 hd5 kd5 (dvS (sh0 v1.toInt (720 * (n : Int)) (fun f => shS (fun s => (I u5 (8 * s + f)).toInt) n)) (rmQ v1.toInt (720 * (n : Int)) (fun f => shS (fun s => (I u5 (8 * s + f)).toInt) n)) left).1 (fun i hi => by rw [y3]; exact y2 i hi) (fun r I4 L4 w4 f4 hr => ?_) 9 0 0 0 I3 L2 w3 FR.rf (by rw [e3, jpI_at]; rfl) rfl (by omega) rfl (by omega)⟩
  refine hQ r I4 L4 w4 (f3.trans w.1 w.2.1 (f4.mono (by decide))) (Or.inr ⟨⟨by omega, by omega, by omega⟩, fun left' el' => ?_⟩)
  have : left' = left := by omega
  rw [this]
  exact hr
theorem sum_PP {n : Nat} {P T : Nat → Int32} (n24 : n ≤ 24) (h : PP n P T) (f : Nat) (hf : f < 8) : shS (fun s => (P (8 * s + f)).toInt) 24 = shS (fun s => (T (8 * s + f)).toInt) n := by
  have e1 := shS_tail (g := fun s => (P (8 * s + f)).toInt) (n := n) (24 - n) (fun i h1 h2 => by
    show (P (8 * i + f)).toInt = 0
    rw [h.2.1 _ (by omega) (by omega)]
    rfl)
  rw [show n + (24 - n) = 24 by omega] at e1
  rw [e1]
  exact shS_cg n (fun i hi => by rw [h.1 _ (by omega)])
theorem RAIr_cg {n : Nat} {wt wt' : Nat → Int} {v r : Int32} (e : ∀ f, f < 8 → wt f = wt' f) (h : RAIr n wt v r) : RAIr n wt' v r := by
  have e1 : shS (sh0 v.toInt (720 * (n : Int)) wt) 8 = shS (sh0 v.toInt (720 * (n : Int)) wt') 8 := shS_cg 8 (fun i hi => by unfold sh0; rw [e i hi])
  have e2 : ∀ k, (∀ i, i < 8 → (dvS (sh0 v.toInt (720 * (n : Int)) wt) (rmQ v.toInt (720 * (n : Int)) wt) k).1 i = (dvS (sh0 v.toInt (720 * (n : Int)) wt') (rmQ v.toInt (720 * (n : Int)) wt') k).1 i) ∧ ∀ i, i < 8 → (dvS (sh0 v.toInt (720 * (n : Int)) wt) (rmQ v.toInt (720 * (n : Int)) wt) k).2 i = (dvS (sh0 v.toInt (720 * (n : Int)) wt') (rmQ v.toInt (720 * (n : Int)) wt') k).2 i := by
    intro k
    induction k with
    | zero =>
      refine ⟨fun i hi => ?_, fun i hi => ?_⟩
      · show v.toInt * wt i / _ = v.toInt * wt' i / _
        rw [e i hi]
      · show v.toInt * wt i % _ = v.toInt * wt' i % _
        rw [e i hi]
    | succ k ih =>
      have ea := amx_cg 7 (fun i hi => ih.2 i (by omega))
      refine ⟨fun i hi => ?_, fun i hi => ?_⟩
      · show (if i = amx (dvS (sh0 v.toInt (720 * (n : Int)) wt) (rmQ v.toInt (720 * (n : Int)) wt) k).2 7 then _ else _) = (if i = amx (dvS (sh0 v.toInt (720 * (n : Int)) wt') (rmQ v.toInt (720 * (n : Int)) wt') k).2 7 then _ else _)
        rw [ea, ih.1 i hi]
      · show (if i = amx (dvS (sh0 v.toInt (720 * (n : Int)) wt) (rmQ v.toInt (720 * (n : Int)) wt) k).2 7 then _ else _) = (if i = amx (dvS (sh0 v.toInt (720 * (n : Int)) wt') (rmQ v.toInt (720 * (n : Int)) wt') k).2 7 then _ else _)
        rw [ea, ih.2 i hi]
  rcases h with ⟨h1, h2⟩ | ⟨h1, h2⟩
  · exact Or.inl ⟨h1, h2⟩
  · refine Or.inr ⟨h1, fun left el => ?_⟩
    rw [h2 left (by rw [e1]; exact el)]
    exact shS_cg 8 (fun i hi => by unfold soM; rw [(e2 left).1 i hi])
theorem RAIr_eq {n : Nat} {wt wt' : Nat → Int} {v r q : Int32} (hw : ∀ i, i < 8 → 0 ≤ wt i ∧ wt i ≤ 720 * (n : Int)) (hs : shS wt 8 = 720 * (n : Int)) (e : ∀ f, f < 8 → wt f = wt' f) (h : RAIr n wt v r) (g : RAIr n wt' v q) : r.toInt = q.toInt := by
  have h := RAIr_cg e h
  rcases h with ⟨h1, h2⟩ | ⟨h1, h2⟩
  · rcases g with ⟨g1, g2⟩ | ⟨g1, g2⟩
    · rw [h2, g2]
    · exact absurd g1 h1
  · rcases g with ⟨g1, g2⟩ | ⟨g1, g2⟩
    · exact absurd h1 g1
    · have hw' : ∀ i, i < 8 → 0 ≤ wt' i ∧ wt' i ≤ 720 * (n : Int) := fun i hi => by rw [← e i hi]; exact hw i hi
      have hs' : shS wt' 8 = 720 * (n : Int) := by rw [← hs]; exact shS_cg 8 (fun i hi => (e i hi).symm)
      obtain ⟨left, el, -⟩ := left_ok (N := v.toInt) (W := 720 * (n : Int)) (by omega) (by omega) hw' hs'
      rw [h2 left el, g2 left el]
theorem PP_hs {n : Nat} {P T : Nat → Int32} (n24 : n ≤ 24) (h : PP n P T) : shS (fun f => shS (fun s => (P (8 * s + f)).toInt) 24) 8 = 720 * (n : Int) := by
  rw [← OWP_all h.2.2]
  exact shS_cg 8 (fun f hf => sum_PP n24 h f hf)
theorem RAI_eq {n : Nat} {P T T' : Nat → Int32} {v r q : Int32} (n24 : n ≤ 24) (h : PP n P T) (e : T' = T) (p : RAIr n (fun f => shS (fun s => (P (8 * s + f)).toInt) 24) v r) (g : RAIr n (fun f => shS (fun s => (T' (8 * s + f)).toInt) n) v q) : r.toInt = q.toInt := by
  subst e
  have w0 : ∀ i, i < 8 → 0 ≤ shS (fun s => (P (8 * s + i)).toInt) 24 := fun i hi => (shS_bd (g := fun s => (P (8 * s + i)).toInt) (n := 24) (fun s hs => PP_le h (by omega)) 24 (Nat.le_refl 24)).1
  have hs := PP_hs n24 h
  refine RAIr_eq (fun i hi => ⟨w0 i hi, ?_⟩) hs (fun f hf => sum_PP n24 h f hf) p g
  have a := (shS_ge (g := fun f => shS (fun s => (P (8 * s + f)).toInt) 24) (n := 8) w0 8 (Nat.le_refl 8)).2 i hi
  rw [hs] at a
  exact a
end
