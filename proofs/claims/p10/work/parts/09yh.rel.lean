/-! ===== STATES of both sides, over all calls ===== -/
/-- what is kept of STATES -/
def KC (Z : jZ) (I : jI) (uS u62 : Nat) (n : Int) : Prop := ∀ i b a, i < 2 → jr Z uS i = some b → ¬ I b 8 = 0 → jr Z b 0 = some a → ∀ s : Nat, (s : Int) < n → I a s = I u62 (266 * i + 2 * s)
theorem KC_fr {W : List (Nat × Nat)} {Z Z' : jZ} {I I' : jI} {uS v2 u62 : Nat} {n m : Int} (f : FR W Z I Z' I') (sh : SH Z) (kS : jk Z uS 17) (lS : jlen Z uS = 2) (k2 : jk Z v2 12) (h62 : jr Z v2 62 = some u62) (k62 : jk Z u62 14) (n1 : (2, 8) ∉ W) (n2 : (2, 0) ∉ W) (n3 : (12, 62) ∉ W) (em : m = n) (h : KC Z I uS u62 n) : KC Z' I' uS u62 m := by
  intro i b a hi hb hh ha s hs
  rw [f.2.1 uS 17 i kS (by omega) (by omega)] at hb
  obtain ⟨y, ey, kb⟩ := sh.2.2.1 uS kS i (by rw [lS]; exact hi)
  cases hb.symm.trans ey
  rw [f.2.1 b 2 0 kb (by omega) (by omega)] at ha
  obtain ⟨x, ex, ka, -⟩ := sh_f sh kb (j := 0) (k := 14) (m := 24) rfl
  cases ha.symm.trans ex
  rw [f.2.2.1 b 2 8 kb (by decide) n1] at hh
  rw [f.2.2.2 b 2 0 a kb ha (by rw [ka.2]; rfl) rfl n2, f.2.2.2 v2 12 62 u62 k2 h62 (by rw [k62.2]; rfl) rfl n3]
  exact h i b a hi hb hh ha s (by omega)
theorem KC_frp {Z Z' : jZ} {I I' : jI} {uS v2 u62 : Nat} {n m : Int} (f : FRp Z I Z' I') (sh : SH Z) (kS : jk Z uS 17) (lS : jlen Z uS = 2) (k62 : jk Z u62 14) (em : m = n) (h : KC Z I uS u62 n) : KC Z' I' uS u62 m := by
  intro i b a hi hb hh ha s hs
  rw [f.1 uS 17 i kS (by decide)] at hb
  obtain ⟨y, ey, kb⟩ := sh.2.2.1 uS kS i (by rw [lS]; exact hi)
  cases hb.symm.trans ey
  rw [f.1 b 2 0 kb (by decide)] at ha
  obtain ⟨x, ex, ka, -⟩ := sh_f sh kb (j := 0) (k := 14) (m := 24) rfl
  cases ha.symm.trans ex
  rw [f.2 b 2 8 kb (by decide)] at hh
  rw [f.2 a 14 s ka (by omega), f.2 u62 14 _ k62 (by omega)]
  exact h i b a hi hb hh ha s (by omega)
theorem st_set {I0 I1 I2 : jI} {uF v2 uX uY : Nat} {A A' C C' : Nat → Int32} {a b c r1 r2 : Int32} (en : (I0 uF 9).toInt = (I0 v2 0).toInt) (eY : I1 uY = I0 uY) (eX : I2 uX = I1 uX) (e1 : I1 v2 0 = I0 v2 0) (e2 : I2 v2 0 = I1 v2 0) (p1 : SETr (I0 uF 9).toInt (I0 uX) (I1 uX) A A' a b c r1) (p2 : SETr (I1 v2 0).toInt (I1 uY) (I2 uY) C C' a b c r2) (hs : ARr (I0 v2 0).toInt (I0 uX) (I0 uY)) : ARr (I2 v2 0).toInt (I2 uX) (I2 uY) := by
  rw [eY, e1] at p2
  rw [eX, e2, e1]
  rw [en] at p1
  exact SETr_eq rfl p1 p2 hs
theorem st_wears {I0 I1 I2 : jI} {uF v2 uX uY : Nat} {a r1 r2 : Int32} (h0 : 0 ≤ (I0 v2 0).toInt) (en : (I0 uF 9).toInt = (I0 v2 0).toInt) (eY : I1 uY = I0 uY) (eX : I2 uX = I1 uX) (e1 : I1 v2 0 = I0 v2 0) (e2 : I2 v2 0 = I1 v2 0) (p1 : WEr (I0 uF 9).toInt (I0 uX) (I1 uX) a r1) (p2 : WEr (I1 v2 0).toInt (I1 uY) (I2 uY) a r2) (hs : ARr (I0 v2 0).toInt (I0 uX) (I0 uY)) : r1.toInt = r2.toInt ∧ ARr (I2 v2 0).toInt (I2 uX) (I2 uY) := by
  rw [eY, e1] at p2
  rw [eX, e2, e1]
  rw [en] at p1
  exact WEr_eq rfl h0 p1 p2 hs
theorem st_mends {I0 I1 I2 : jI} {uF v2 uX uY : Nat} {R U : Nat → Int32} {a r1 r2 : Int32} (en : (I0 uF 9).toInt = (I0 v2 0).toInt) (eY : I1 uY = I0 uY) (eX : I2 uX = I1 uX) (e1 : I1 v2 0 = I0 v2 0) (e2 : I2 v2 0 = I1 v2 0) (p1 : MEr (I0 uF 9).toInt (I0 uX) (I1 uX) R a r1) (p2 : MEr (I1 v2 0).toInt (I1 uY) (I2 uY) U a r2) (hs : ARr (I0 v2 0).toInt (I0 uX) (I0 uY)) : ARr (I2 v2 0).toInt (I2 uX) (I2 uY) := by
  rw [eY, e1] at p2
  rw [eX, e2, e1]
  rw [en] at p1
  exact MEr_st rfl p1 p2 hs
theorem st_mendsA {I0 I1 I2 : jI} {uF v2 uX uY uR vR : Nat} {a r1 r2 : Int32} (en : (I0 uF 9).toInt = (I0 v2 0).toInt) (eY : I1 uY = I0 uY) (eR : I1 vR = I0 vR) (e1 : I1 v2 0 = I0 v2 0) (p1 : MEr (I0 uF 9).toInt (I0 uX) (I1 uX) (I0 uR) a r1) (p2 : MEr (I1 v2 0).toInt (I1 uY) (I2 uY) (I1 vR) a r2) (hs : ARr (I0 v2 0).toInt (I0 uX) (I0 uY)) (hr : ARr (I0 v2 0).toInt (I0 uR) (I0 vR)) : r1.toInt = r2.toInt := by
  rw [eY, e1, eR] at p2
  rw [en] at p1
  exact MEr_eq rfl p1 p2 hs hr
theorem ARr_same {n m : Int} {S S' T T' : Nat → Int32} (e1 : S' = S) (e2 : T' = T) (e : m = n) (h : ARr n S T) : ARr m S' T' := by
  rw [e1, e2, e]; exact h
/-- stairs: a row of numbers of STEPS -/
theorem st_stairs {Z Z2 : jZ} {I0 I1 I2 : jI} {uB uT uM uF v2 uX uY j : Nat} {r1 r2 : Int} {sB sM : Int} (hj : j < 4) (hX : jr Z uF j = some uX) (er : r1 = r2) (ec : cT (I0 uB) sB = cT (I1 uM) sM) (eX : I2 uX = I1 uX) (eY : I1 uY = I0 uY) (en : (I0 uF 9).toInt = (I0 v2 0).toInt) (e1 : I1 v2 0 = I0 v2 0)
    (q1 : (0 ≤ r1 → CF (cT (I0 uB) sB) Z I1 uF r1) ∧ (r1 < 0 → ∀ j u, j < 4 → jr Z uF j = some u → I1 u = I0 u)) (q2 : (0 ≤ r2 → ∀ s : Nat, (s : Int) < r2 → (I2 uY s).toInt = cT (I1 uM) sM j s) ∧ (r2 < 0 → I2 uY = I1 uY)) (q3 : (0 ≤ r2 → (I2 v2 0).toInt = r2) ∧ (r2 < 0 → (I2 v2 0).toInt = (I1 v2 0).toInt)) (hs : ARr (I0 v2 0).toInt (I0 uX) (I0 uY)) : ARr (I2 v2 0).toInt (I2 uX) (I2 uY) := by
  subst er
  by_cases c : 0 ≤ r1
  · intro s hs2
    rw [q3.1 c] at hs2
    refine (i_eq rfl rfl).mpr ?_
    rw [eX, q1.1 c j uX hj hX s hs2, q2.1 c s hs2, ec]
  · have c' : r1 < 0 := by omega
    rw [q3.2 c', e1, eX, q1.2 c' j uX hj hX, q2.2 c', eY]
    exact hs
theorem KC_stairs {Z Z2 : jZ} {I0 I1 I2 : jI} {uS v2 u62 : Nat} {r1 r2 : Int} {n m : Int} (f1 : FR Ws_X11_stairs Z I0 Z I1) (f2 : FR Ws_X12_stairs Z I1 Z2 I2) (sh : SH Z) (kS : jk Z uS 17) (lS : jlen Z uS = 2) (k2 : jk Z v2 12) (h62 : jr Z v2 62 = some u62) (k62 : jk Z u62 14) (er : r1 = r2)
    (p1 : (r1 < 0 → ∀ b, jk Z b 2 → I1 b 8 = I0 b 8) ∧ (0 ≤ r1 → ∀ i b, i < 2 → jr Z uS i = some b → I1 b 8 = 0)) (em : r2 < 0 → m = n) (h : KC Z I0 uS u62 n) : KC Z2 I2 uS u62 m := by
  intro i b a hi hb hh ha s hs
  rw [f2.2.1 uS 17 i kS (by omega) (by omega)] at hb
  obtain ⟨y, ey, kb⟩ := sh.2.2.1 uS kS i (by rw [lS]; exact hi)
  cases hb.symm.trans ey
  rw [f2.2.1 b 2 0 kb (by omega) (by omega)] at ha
  obtain ⟨x, ex, ka, -⟩ := sh_f sh kb (j := 0) (k := 14) (m := 24) rfl
  cases ha.symm.trans ex
  rw [f2.2.2.1 b 2 8 kb (by decide) (by decide)] at hh
  by_cases c : 0 ≤ r1
  · exact absurd (p1.2 c i b hi hb) hh
  · rw [p1.1 (by omega) b kb] at hh
    rw [f2.2.2.2 b 2 0 a kb ha (by rw [ka.2]; rfl) rfl (by decide), f1.2.2.2 b 2 0 a kb ha (by rw [ka.2]; rfl) rfl (by decide), f2.2.2.2 v2 12 62 u62 k2 h62 (by rw [k62.2]; rfl) rfl (by decide), f1.2.2.2 v2 12 62 u62 k2 h62 (by rw [k62.2]; rfl) rfl (by decide)]
    exact h i b a hi hb hh ha s (by have := em (by omega); omega)
theorem KC_keep {Z : jZ} {I0 I1 I2 : jI} {v1 v2 uS uF uX uY u62 uK uC : Nat} {v : Int32} {r1 r2 n m : Int} (w : WD Z I0) (f1 : FR Ws_X11_keep Z I0 Z I1) (f2 : FR Ws_X12_keep Z I1 Z I2) (k1 : jk Z v1 11) (kS : jk Z uS 17) (lS : jlen Z uS = 2) (k2 : jk Z v2 12) (h62 : jr Z v2 62 = some u62) (k62 : jk Z u62 14) (hF : jr Z v1 2 = some uF) (kF : jk Z uF 8) (hX : jr Z uF 1 = some uX) (hY : jr Z v2 2 = some uY) (kY : jk Z uY 14) (n24 : n ≤ 24) (em : m = n)
    (p1 : KP11 Z uS v r1 I0 I1) (q1 : KBC Z v1 uS v r1 I0 I1) (p2 : KP12 v2 uK uC v r2 I1 I2) (q2 : KPM Z v2 v r2 I1 I2) (hs : ARr n (I0 uX) (I0 uY)) (h : KC Z I0 uS u62 n) : KC Z I2 uS u62 m := by
  intro i b a hi hb hh ha s hs2
  rw [em] at hs2
  obtain ⟨y, ey, kb⟩ := w.1.2.2.1 uS kS i (by rw [lS]; exact hi)
  cases hb.symm.trans ey
  obtain ⟨x, ex, ka, -⟩ := sh_f w.1 kb (j := 0) (k := 14) (m := 24) rfl
  cases ha.symm.trans ex
  obtain ⟨a1, ha1, -⟩ := sh_f w.1 kb (j := 1) (k := 14) (m := 24) rfl
  obtain ⟨a2, ha2, -⟩ := sh_f w.1 kb (j := 2) (k := 14) (m := 192) rfl
  obtain ⟨a3, ha3, -⟩ := sh_f w.1 kb (j := 3) (k := 14) (m := 8) rfl
  obtain ⟨uP, hP, kP⟩ := sh_o w.1 kF (j := 4) (k := 4) rfl
  obtain ⟨x0, hx0, -⟩ := sh_f w.1 kP (j := 0) (k := 14) (m := 192) rfl
  obtain ⟨x2, hx2, -⟩ := sh_f w.1 kF (j := 2) (k := 14) (m := 24) rfl
  obtain ⟨x5, hx5, -⟩ := sh_f w.1 k1 (j := 5) (k := 14) (m := 8) rfl
  have g1 := q1 uF uP x0 uX x2 x5 hF hP hx0 hX hx2 hx5 i b a a1 a2 a3 hi hb ha ha1 ha2 ha3
  obtain ⟨u65, h65, -⟩ := sh_f w.1 k2 (j := 65) (k := 14) (m := 2) rfl
  obtain ⟨u3, h3, -⟩ := sh_f w.1 k2 (j := 3) (k := 14) (m := 24) rfl
  obtain ⟨u5, h5, -⟩ := sh_f w.1 k2 (j := 5) (k := 14) (m := 192) rfl
  obtain ⟨u14, h14, -⟩ := sh_f w.1 k2 (j := 14) (k := 14) (m := 6) rfl
  obtain ⟨u15, h15, -⟩ := sh_f w.1 k2 (j := 15) (k := 14) (m := 6) rfl
  obtain ⟨u16, h16, -⟩ := sh_f w.1 k2 (j := 16) (k := 14) (m := 6) rfl
  obtain ⟨u17, h17, -⟩ := sh_f w.1 k2 (j := 17) (k := 14) (m := 8) rfl
  have g2 := q2 u62 u65 uY u3 u5 u14 u15 u16 u17 h62 h65 hY h3 h5 h14 h15 h16 h17
  have eY : I1 uY = I0 uY := f1.2.2.2 v2 12 2 uY k2 hY (by rw [kY.2]; rfl) rfl (by decide)
  have eK : I1 u62 = I0 u62 := f1.2.2.2 v2 12 62 u62 k2 h62 (by rw [k62.2]; rfl) rfl (by decide)
  have ea : I2 a = I1 a := f2.2.2.2 b 2 0 a kb ha (by rw [ka.2]; rfl) rfl (by decide)
  rw [f2.2.2.1 b 2 8 kb (by decide) (by decide)] at hh
  rw [ea]
  rcases p1 with ⟨hr, hv, z1⟩ | ⟨hr, hv, z1⟩
  · have hr2 : r2 = 1 := by
      rcases p2 with ⟨h9, -⟩ | ⟨-, h9, -⟩
      · exact h9
      · exact absurd hv h9
    obtain ⟨k1', k2', -, -⟩ := g2.1 hr2
    have n1 := i_nat (x := v) rfl hv.1
    by_cases c : i = v.toNatClampNeg
    · rw [(g1.1 ⟨hr, c⟩).1 s (by omega), c, k1' (2 * s) (by omega), kS_st (by omega), eY]
      exact hs s hs2
    · rw [(z1 i b hi hb).2 c] at hh
      rw [(g1.2 (fun q => c q.2)).1, k2' (266 * i + 2 * s) (by omega), eK]
      exact h i b a hi hb hh ha s hs2
  · have hr2 : r2 = 0 := by
      rcases p2 with ⟨-, h9, -⟩ | ⟨h9, -⟩
      · exact absurd h9 hv
      · exact h9
    rw [z1 b kb] at hh
    rw [(g1.2 (fun q => by omega)).1, (g2.2 hr2).1, eK]
    exact h i b a hi hb hh ha s hs2
theorem st_again {Z : jZ} {I0 I1 I2 : jI} {v1 v2 uS uF uX uY u62 uK uC : Nat} {v : Int32} {r1 r2 n m : Int} (w : WD Z I0) (f1 : FR Ws_X11_again Z I0 Z I1) (f2 : FR Ws_X12_again Z I1 Z I2) (k1 : jk Z v1 11) (kS : jk Z uS 17) (lS : jlen Z uS = 2) (k2 : jk Z v2 12) (h62 : jr Z v2 62 = some u62) (k62 : jk Z u62 14) (hF : jr Z v1 2 = some uF) (kF : jk Z uF 8) (hX : jr Z uF 1 = some uX) (kX : jk Z uX 14) (hY : jr Z v2 2 = some uY) (kY : jk Z uY 14) (n24 : n ≤ 24) (em : m = n) (er : r1 = r2)
    (p1 : YN r1 (AG11 Z I0 uS v)) (q1 : AGC Z v1 uS v r1 I0 I1) (q2 : AGM Z v2 v r2 I1 I2) (hs : ARr n (I0 uX) (I0 uY)) (h : KC Z I0 uS u62 n) : ARr m (I2 uX) (I2 uY) := by
  subst er
  obtain ⟨uP, hP, kP⟩ := sh_o w.1 kF (j := 4) (k := 4) rfl
  obtain ⟨x0, hx0, -⟩ := sh_f w.1 kP (j := 0) (k := 14) (m := 192) rfl
  obtain ⟨x2, hx2, -⟩ := sh_f w.1 kF (j := 2) (k := 14) (m := 24) rfl
  obtain ⟨x5, hx5, -⟩ := sh_f w.1 k1 (j := 5) (k := 14) (m := 8) rfl
  have g1 := q1 uF uP x0 uX x2 x5 hF hP hx0 hX hx2 hx5
  obtain ⟨u3, h3, -⟩ := sh_f w.1 k2 (j := 3) (k := 14) (m := 24) rfl
  obtain ⟨u5, h5, -⟩ := sh_f w.1 k2 (j := 5) (k := 14) (m := 192) rfl
  have g2 := q2 u62 uY u3 u5 h62 hY h3 h5
  have eX : I2 uX = I1 uX := f2.2.2.2 uF 8 1 uX kF hX (by rw [kX.2]; rfl) rfl (by decide)
  have eK : I1 u62 = I0 u62 := f1.2.2.2 v2 12 62 u62 k2 h62 (by rw [k62.2]; rfl) rfl (by decide)
  intro s hs2
  rw [em] at hs2
  rw [eX]
  rcases p1 with ⟨hr, hv, b, hb, hh⟩ | ⟨hr, -⟩
  · have n1 := i_nat (x := v) rfl hv.1
    obtain ⟨y, ey, kb⟩ := w.1.2.2.1 uS kS v.toNatClampNeg (by rw [lS]; omega)
    cases hb.symm.trans ey
    obtain ⟨a0, ha0, -⟩ := sh_f w.1 kb (j := 0) (k := 14) (m := 24) rfl
    obtain ⟨a1, ha1, -⟩ := sh_f w.1 kb (j := 1) (k := 14) (m := 24) rfl
    obtain ⟨a2, ha2, -⟩ := sh_f w.1 kb (j := 2) (k := 14) (m := 192) rfl
    obtain ⟨a3, ha3, -⟩ := sh_f w.1 kb (j := 3) (k := 14) (m := 8) rfl
    rw [(g1.1 hr b a0 a1 a2 a3 hb ha0 ha1 ha2 ha3).1 s (by omega), (g2.1 hr).1 s (by omega), eK]
    exact h v.toNatClampNeg b a0 (by omega) hb hh ha0 s hs2
  · have z := g1.2 hr
    rw [(g2.2 hr).1, z]
    exact hs s hs2
theorem MF_at {cc : Nat → Nat → Int} {Z : jZ} {I : jI} {v0 : Nat} {n : Int} (sh : SH Z) (k : jk Z v0 12) (h : MF cc Z I v0 n) {u1 u2 u3 u4 : Nat} (h1 : jr Z v0 1 = some u1) (h2 : jr Z v0 2 = some u2) (h3 : jr Z v0 3 = some u3) (h4 : jr Z v0 4 = some u4) (s : Nat) (hs : (s : Int) < n) : (I u1 s).toInt = cc 0 s ∧ (I u2 s).toInt = cc 1 s ∧ (I u3 s).toInt = cc 2 s ∧ (I u4 s).toInt = cc 3 s := by
  obtain ⟨u5, h5, -⟩ := sh_f sh k (j := 5) (k := 14) (m := 192) rfl
  obtain ⟨a, b, c, d, -⟩ := h u1 u2 u3 u4 u5 h1 h2 h3 h4 h5 s (by omega)
  exact ⟨a, b, c, d⟩
theorem MF_st {cc : Nat → Nat → Int} {Z : jZ} {I : jI} {v0 uY : Nat} {n : Int} (sh : SH Z) (k : jk Z v0 12) (hY : jr Z v0 2 = some uY) (h : MF cc Z I v0 n) (s : Nat) (hs : (s : Int) < n) : (I uY s).toInt = cc 1 s := by
  obtain ⟨u1, h1, -⟩ := sh_f sh k (j := 1) (k := 14) (m := 24) rfl
  obtain ⟨u3, h3, -⟩ := sh_f sh k (j := 3) (k := 14) (m := 24) rfl
  obtain ⟨u4, h4, -⟩ := sh_f sh k (j := 4) (k := 16) (m := 24) rfl
  exact (MF_at sh k h h1 hY h3 h4 s hs).2.1
theorem MF_ri {cc : Nat → Nat → Int} {Z : jZ} {I : jI} {v0 uY : Nat} {n : Int} (sh : SH Z) (k : jk Z v0 12) (hY : jr Z v0 1 = some uY) (h : MF cc Z I v0 n) (s : Nat) (hs : (s : Int) < n) : (I uY s).toInt = cc 0 s := by
  obtain ⟨u2, h2, -⟩ := sh_f sh k (j := 2) (k := 14) (m := 24) rfl
  obtain ⟨u3, h3, -⟩ := sh_f sh k (j := 3) (k := 14) (m := 24) rfl
  obtain ⟨u4, h4, -⟩ := sh_f sh k (j := 4) (k := 16) (m := 24) rfl
  exact (MF_at sh k h hY h2 h3 h4 s hs).1
