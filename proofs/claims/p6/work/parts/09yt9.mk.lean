/-! ===== ASKS of both sides, over all calls ===== -/
/-- what is kept of ASKS -/
def KCa (Z : jZ) (I : jI) (uS u62 : Nat) (n : Int) : Prop := ∀ i b a, i < 2 → jr Z uS i = some b → ¬ I b 8 = 0 → jr Z b 1 = some a → ∀ s : Nat, (s : Int) < n → I a s = I u62 (266 * i + (2 * s + 1))
theorem KCa_fr {W : List (Nat × Nat)} {Z Z' : jZ} {I I' : jI} {uS v2 u62 : Nat} {n m : Int} (f : FR W Z I Z' I') (sh : SH Z) (kS : jk Z uS 17) (lS : jlen Z uS = 2) (k2 : jk Z v2 12) (h62 : jr Z v2 62 = some u62) (k62 : jk Z u62 14) (n1 : (2, 8) ∉ W) (n2 : (2, 1) ∉ W) (n3 : (12, 62) ∉ W) (em : m = n) (h : KCa Z I uS u62 n) : KCa Z' I' uS u62 m := by
  intro i b a hi hb hh ha s hs
  rw [f.2.1 uS 17 i kS (by omega) (by omega)] at hb
  obtain ⟨y, ey, kb⟩ := sh.2.2.1 uS kS i (by rw [lS]; exact hi)
  cases hb.symm.trans ey
  rw [f.2.1 b 2 1 kb (by omega) (by omega)] at ha
  obtain ⟨x, ex, ka, -⟩ := sh_f sh kb (j := 1) (k := 14) (m := 24) rfl
  cases ha.symm.trans ex
  rw [f.2.2.1 b 2 8 kb (by decide) n1] at hh
  rw [f.2.2.2 b 2 1 a kb ha (by rw [ka.2]; rfl) rfl n2, f.2.2.2 v2 12 62 u62 k2 h62 (by rw [k62.2]; rfl) rfl n3]
  exact h i b a hi hb hh ha s (by omega)
theorem KCa_frp {Z Z' : jZ} {I I' : jI} {uS v2 u62 : Nat} {n m : Int} (f : FRp Z I Z' I') (sh : SH Z) (kS : jk Z uS 17) (lS : jlen Z uS = 2) (k62 : jk Z u62 14) (em : m = n) (h : KCa Z I uS u62 n) : KCa Z' I' uS u62 m := by
  intro i b a hi hb hh ha s hs
  rw [f.1 uS 17 i kS (by decide)] at hb
  obtain ⟨y, ey, kb⟩ := sh.2.2.1 uS kS i (by rw [lS]; exact hi)
  cases hb.symm.trans ey
  rw [f.1 b 2 1 kb (by decide)] at ha
  obtain ⟨x, ex, ka, -⟩ := sh_f sh kb (j := 1) (k := 14) (m := 24) rfl
  cases ha.symm.trans ex
  rw [f.2 b 2 8 kb (by decide)] at hh
  rw [f.2 a 14 s ka (by omega), f.2 u62 14 _ k62 (by omega)]
  exact h i b a hi hb hh ha s (by omega)
theorem kS_ak {st as pa wh kl pl ea : Nat → Int32} {s : Nat} (h : s < 24) : kSrc st as pa wh kl pl ea (2 * s + 1) = as s := by
  unfold kSrc
  rw [if_pos (by omega), if_neg (by omega), show (2 * s + 1) / 2 = s by omega]
theorem SETa_eq {n m : Int} {S S' A A' T T' C C' : Nat → Int32} {v1 v2 v3 r q : Int32} (e : n = m) (h : SETr n S S' A A' v1 v2 v3 r) (g : SETr m T T' C C' v1 v2 v3 q) (hs : ARr n S T) (ha : ARr n A C) : ARr n A' C' ∧ r = q := by
  subst e
  unfold SETr at h g
  rcases h with h | h | h
  · have n1 := i_nat (x := v1) rfl h.1.1
    rcases g with g | g | g
    · rw [h.2.2.2.1, g.2.2.2.1, h.2.2.2.2.2, g.2.2.2.2.2]
      exact ⟨ARr_upd ha, ha _ (by omega)⟩
    · omega
    · exact absurd ⟨h.1, h.2.1, h.2.2.1⟩ g.2.1
  · have n1 := i_nat (x := v1) rfl h.1.1
    rcases g with g | g | g
    · omega
    · rw [h.2.2.2.2.1, g.2.2.2.2.1, h.2.2.2.2.2, g.2.2.2.2.2]
      exact ⟨ha, hs _ (by omega)⟩
    · exact absurd ⟨h.1, h.2.1, h.2.2.1⟩ g.2.2.1
  · rcases g with g | g | g
    · exact absurd ⟨g.1, g.2.1, g.2.2.1⟩ h.2.1
    · exact absurd ⟨g.1, g.2.1, g.2.2.1⟩ h.2.2.1
    · rw [h.2.2.2.2, g.2.2.2.2]
      exact ⟨ha, (i_eq h.1 g.1).mpr rfl⟩
theorem ak_set {I0 I1 I2 : jI} {uF v2 uX uY uA vA : Nat} {a b c r1 r2 : Int32} (en : (I0 uF 9).toInt = (I0 v2 0).toInt) (eY : I1 uY = I0 uY) (eA : I1 vA = I0 vA) (eX : I2 uA = I1 uA) (e1 : I1 v2 0 = I0 v2 0) (e2 : I2 v2 0 = I1 v2 0) (p1 : SETr (I0 uF 9).toInt (I0 uX) (I1 uX) (I0 uA) (I1 uA) a b c r1) (p2 : SETr (I1 v2 0).toInt (I1 uY) (I2 uY) (I1 vA) (I2 vA) a b c r2) (hs : ARr (I0 v2 0).toInt (I0 uX) (I0 uY)) (ha : ARr (I0 v2 0).toInt (I0 uA) (I0 vA)) : r1 = r2 ∧ ARr (I2 v2 0).toInt (I2 uA) (I2 vA) := by
  rw [eY, eA, e1] at p2
  rw [eX, e2, e1]
  rw [en] at p1
  have := SETa_eq rfl p1 p2 hs ha
  exact ⟨this.2, this.1⟩
theorem KCa_stairs {Z Z2 : jZ} {I0 I1 I2 : jI} {uS v2 u62 : Nat} {r1 r2 : Int} {n m : Int} (f1 : FR Ws_X11_stairs Z I0 Z I1) (f2 : FR Ws_X12_stairs Z I1 Z2 I2) (sh : SH Z) (kS : jk Z uS 17) (lS : jlen Z uS = 2) (k2 : jk Z v2 12) (h62 : jr Z v2 62 = some u62) (k62 : jk Z u62 14) (er : r1 = r2)
    (p1 : (r1 < 0 → ∀ b, jk Z b 2 → I1 b 8 = I0 b 8) ∧ (0 ≤ r1 → ∀ i b, i < 2 → jr Z uS i = some b → I1 b 8 = 0)) (em : r2 < 0 → m = n) (h : KCa Z I0 uS u62 n) : KCa Z2 I2 uS u62 m := by
  intro i b a hi hb hh ha s hs
  rw [f2.2.1 uS 17 i kS (by omega) (by omega)] at hb
  obtain ⟨y, ey, kb⟩ := sh.2.2.1 uS kS i (by rw [lS]; exact hi)
  cases hb.symm.trans ey
  rw [f2.2.1 b 2 1 kb (by omega) (by omega)] at ha
  obtain ⟨x, ex, ka, -⟩ := sh_f sh kb (j := 1) (k := 14) (m := 24) rfl
  cases ha.symm.trans ex
  rw [f2.2.2.1 b 2 8 kb (by decide) (by decide)] at hh
  by_cases c : 0 ≤ r1
  · exact absurd (p1.2 c i b hi hb) hh
  · rw [p1.1 (by omega) b kb] at hh
    rw [f2.2.2.2 b 2 1 a kb ha (by rw [ka.2]; rfl) rfl (by decide), f1.2.2.2 b 2 1 a kb ha (by rw [ka.2]; rfl) rfl (by decide), f2.2.2.2 v2 12 62 u62 k2 h62 (by rw [k62.2]; rfl) rfl (by decide), f1.2.2.2 v2 12 62 u62 k2 h62 (by rw [k62.2]; rfl) rfl (by decide)]
    exact h i b a hi hb hh ha s (by have := em (by omega); omega)
theorem KCa_keep {Z : jZ} {I0 I1 I2 : jI} {v1 v2 uS uF uX uY u62 uK uC : Nat} {v : Int32} {r1 r2 n m : Int} (w : WD Z I0) (f1 : FR Ws_X11_keep Z I0 Z I1) (f2 : FR Ws_X12_keep Z I1 Z I2) (k1 : jk Z v1 11) (kS : jk Z uS 17) (lS : jlen Z uS = 2) (k2 : jk Z v2 12) (h62 : jr Z v2 62 = some u62) (k62 : jk Z u62 14) (hF : jr Z v1 2 = some uF) (kF : jk Z uF 8) (hX : jr Z uF 2 = some uX) (hY : jr Z v2 3 = some uY) (kY : jk Z uY 14) (n24 : n ≤ 24) (em : m = n)
    (p1 : KP11 Z uS v r1 I0 I1) (q1 : KBC Z v1 uS v r1 I0 I1) (p2 : KP12 v2 uK uC v r2 I1 I2) (q2 : KPM Z v2 v r2 I1 I2) (hs : ARr n (I0 uX) (I0 uY)) (h : KCa Z I0 uS u62 n) : KCa Z I2 uS u62 m := by
  intro i b a hi hb hh ha s hs2
  rw [em] at hs2
  obtain ⟨y, ey, kb⟩ := w.1.2.2.1 uS kS i (by rw [lS]; exact hi)
  cases hb.symm.trans ey
  obtain ⟨x, ex, ka, -⟩ := sh_f w.1 kb (j := 1) (k := 14) (m := 24) rfl
  cases ha.symm.trans ex
  obtain ⟨a0, ha0, -⟩ := sh_f w.1 kb (j := 0) (k := 14) (m := 24) rfl
  obtain ⟨a2, ha2, -⟩ := sh_f w.1 kb (j := 2) (k := 14) (m := 192) rfl
  obtain ⟨a3, ha3, -⟩ := sh_f w.1 kb (j := 3) (k := 14) (m := 8) rfl
  obtain ⟨uP, hP, kP⟩ := sh_o w.1 kF (j := 4) (k := 4) rfl
  obtain ⟨x0, hx0, -⟩ := sh_f w.1 kP (j := 0) (k := 14) (m := 192) rfl
  obtain ⟨x1, hx1, -⟩ := sh_f w.1 kF (j := 1) (k := 14) (m := 24) rfl
  obtain ⟨x5, hx5, -⟩ := sh_f w.1 k1 (j := 5) (k := 14) (m := 8) rfl
  have g1 := q1 uF uP x0 x1 uX x5 hF hP hx0 hx1 hX hx5 i b a0 a a2 a3 hi hb ha0 ha ha2 ha3
  obtain ⟨u65, h65, -⟩ := sh_f w.1 k2 (j := 65) (k := 14) (m := 2) rfl
  obtain ⟨u2, h2, -⟩ := sh_f w.1 k2 (j := 2) (k := 14) (m := 24) rfl
  obtain ⟨u5, h5, -⟩ := sh_f w.1 k2 (j := 5) (k := 14) (m := 192) rfl
  obtain ⟨u14, h14, -⟩ := sh_f w.1 k2 (j := 14) (k := 14) (m := 6) rfl
  obtain ⟨u15, h15, -⟩ := sh_f w.1 k2 (j := 15) (k := 14) (m := 6) rfl
  obtain ⟨u16, h16, -⟩ := sh_f w.1 k2 (j := 16) (k := 14) (m := 6) rfl
  obtain ⟨u17, h17, -⟩ := sh_f w.1 k2 (j := 17) (k := 14) (m := 8) rfl
  have g2 := q2 u62 u65 u2 uY u5 u14 u15 u16 u17 h62 h65 h2 hY h5 h14 h15 h16 h17
  have eY : I1 uY = I0 uY := f1.2.2.2 v2 12 3 uY k2 hY (by rw [kY.2]; rfl) rfl (by decide)
  have eK : I1 u62 = I0 u62 := f1.2.2.2 v2 12 62 u62 k2 h62 (by rw [k62.2]; rfl) rfl (by decide)
  have ea : I2 a = I1 a := f2.2.2.2 b 2 1 a kb ha (by rw [ka.2]; rfl) rfl (by decide)
  rw [f2.2.2.1 b 2 8 kb (by decide) (by decide)] at hh
  rw [ea]
  rcases p1 with ⟨hr, hv, z1⟩ | ⟨hr, hv, z1⟩
  · have hr2 : r2 = 1 := by
      rcases p2 with ⟨h9, -⟩ | ⟨-, h9, -⟩
      · exact h9
      · exact absurd hv h9
    obtain ⟨k1', k2', -, -⟩ := g2.1 hr2
    have n1 := i_nat (x := v) rfl hv.1
    by_cases c : i = v.toNatClampNeg
    · rw [(g1.1 ⟨hr, c⟩).2.1 s (by omega), c, k1' (2 * s + 1) (by omega), kS_ak (by omega), eY]
      exact hs s hs2
    · rw [(z1 i b hi hb).2 c] at hh
      rw [(g1.2 (fun q => c q.2)).2.1, k2' (266 * i + (2 * s + 1)) (by omega), eK]
      exact h i b a hi hb hh ha s hs2
  · have hr2 : r2 = 0 := by
      rcases p2 with ⟨-, h9, -⟩ | ⟨h9, -⟩
      · exact absurd h9 hv
      · exact h9
    rw [z1 b kb] at hh
    rw [(g1.2 (fun q => by omega)).2.1, (g2.2 hr2).1, eK]
    exact h i b a hi hb hh ha s hs2
theorem ak_again {Z : jZ} {I0 I1 I2 : jI} {v1 v2 uS uF uX uY u62 uK uC : Nat} {v : Int32} {r1 r2 n m : Int} (w : WD Z I0) (f1 : FR Ws_X11_again Z I0 Z I1) (f2 : FR Ws_X12_again Z I1 Z I2) (k1 : jk Z v1 11) (kS : jk Z uS 17) (lS : jlen Z uS = 2) (k2 : jk Z v2 12) (h62 : jr Z v2 62 = some u62) (k62 : jk Z u62 14) (hF : jr Z v1 2 = some uF) (kF : jk Z uF 8) (hX : jr Z uF 2 = some uX) (kX : jk Z uX 14) (hY : jr Z v2 3 = some uY) (kY : jk Z uY 14) (n24 : n ≤ 24) (em : m = n) (er : r1 = r2)
    (p1 : YN r1 (AG11 Z I0 uS v)) (q1 : AGC Z v1 uS v r1 I0 I1) (q2 : AGM Z v2 v r2 I1 I2) (hs : ARr n (I0 uX) (I0 uY)) (h : KCa Z I0 uS u62 n) : ARr m (I2 uX) (I2 uY) := by
  subst er
  obtain ⟨uP, hP, kP⟩ := sh_o w.1 kF (j := 4) (k := 4) rfl
  obtain ⟨x0, hx0, -⟩ := sh_f w.1 kP (j := 0) (k := 14) (m := 192) rfl
  obtain ⟨x1, hx1, -⟩ := sh_f w.1 kF (j := 1) (k := 14) (m := 24) rfl
  obtain ⟨x5, hx5, -⟩ := sh_f w.1 k1 (j := 5) (k := 14) (m := 8) rfl
  have g1 := q1 uF uP x0 x1 uX x5 hF hP hx0 hx1 hX hx5
  obtain ⟨u2, h2, -⟩ := sh_f w.1 k2 (j := 2) (k := 14) (m := 24) rfl
  obtain ⟨u5, h5, -⟩ := sh_f w.1 k2 (j := 5) (k := 14) (m := 192) rfl
  have g2 := q2 u62 u2 uY u5 h62 h2 hY h5
  have eX : I2 uX = I1 uX := f2.2.2.2 uF 8 2 uX kF hX (by rw [kX.2]; rfl) rfl (by decide)
  have eK : I1 u62 = I0 u62 := f1.2.2.2 v2 12 62 u62 k2 h62 (by rw [k62.2]; rfl) rfl (by decide)
  intro s hs2
  rw [em] at hs2
  rw [eX]
  rcases p1 with ⟨hr, hv, b, hb, hh⟩ | ⟨hr, -⟩
  · have n1 := i_nat (x := v) rfl hv.1
    obtain ⟨y, ey, kb⟩ := w.1.2.2.1 uS kS v.toNatClampNeg (by rw [lS]; omega)
    cases hb.symm.trans ey
    obtain ⟨a0, ha0, -⟩ := sh_f w.1 kb (j := 0) (k := 14) (m := 24) rfl
    obtain ⟨a1, ha1, -⟩ := sh_f w.1 kb (j := 1) (k := 14) (m := 24) rfl
    obtain ⟨a2, ha2, -⟩ := sh_f w.1 kb (j := 2) (k := 14) (m := 192) rfl
    obtain ⟨a3, ha3, -⟩ := sh_f w.1 kb (j := 3) (k := 14) (m := 8) rfl
    rw [(g1.1 hr b a0 a1 a2 a3 hb ha0 ha1 ha2 ha3).2.1 s (by omega), (g2.1 hr).2.1 s (by omega), eK]
    exact h v.toNatClampNeg b a1 (by omega) hb hh ha1 s hs2
  · have z := g1.2 hr
    rw [(g2.2 hr).2.1, z]
    exact hs s hs2
theorem MF_ak {cc : Nat → Nat → Int} {Z : jZ} {I : jI} {v0 uY : Nat} {n : Int} (sh : SH Z) (k : jk Z v0 12) (hY : jr Z v0 3 = some uY) (h : MF cc Z I v0 n) (s : Nat) (hs : (s : Int) < n) : (I uY s).toInt = cc 2 s := by
  obtain ⟨u1, h1, -⟩ := sh_f sh k (j := 1) (k := 14) (m := 24) rfl
  obtain ⟨u2, h2, -⟩ := sh_f sh k (j := 2) (k := 14) (m := 24) rfl
  obtain ⟨u4, h4, -⟩ := sh_f sh k (j := 4) (k := 16) (m := 24) rfl
  exact (MF_at sh k h h1 h2 hY h4 s hs).2.2.1
theorem MF_wi {cc : Nat → Nat → Int} {Z : jZ} {I : jI} {v0 uY : Nat} {n : Int} (sh : SH Z) (k : jk Z v0 12) (hY : jr Z v0 4 = some uY) (h : MF cc Z I v0 n) (s : Nat) (hs : (s : Int) < n) : (I uY s).toInt = cc 3 s := by
  obtain ⟨u1, h1, -⟩ := sh_f sh k (j := 1) (k := 14) (m := 24) rfl
  obtain ⟨u2, h2, -⟩ := sh_f sh k (j := 2) (k := 14) (m := 24) rfl
  obtain ⟨u3, h3, -⟩ := sh_f sh k (j := 3) (k := 14) (m := 24) rfl
  exact (MF_at sh k h h1 h2 h3 hY s hs).2.2.2
/-! ===== what a pilgrim's routes are told ===== -/
theorem rx_X6_init {v0 v1 : Nat} {v2 v3 v4 : Int32} {Z : jZ} {I : jI} {L : jL} {Q1 Q2 : jZ → jI → jL → Prop} (h : f_X6_init v0 v1 v2 v3 v4 Z I L Q1) (hq : ∀ (Z : jZ) (I : jI) (L : jL), jr Z v0 0 = some v1 → I v0 1 = v2 → I v0 2 = v3 → I v0 3 = v4 → Q1 Z I L → Q2 Z I L) : f_X6_init v0 v1 v2 v3 v4 Z I L Q2 := by
  unfold f_X6_init at h ⊢
  intro q1 eq1 Z2 eZ2 I3 eI3 L4 eL4 Z7 eZ7 q10 eq10 Z11 eZ11 I12 eI12 L13 eL13 Z16 eZ16 q19 eq19 Z20 eZ20 I21 eI21 L22 eL22 Z25 eZ25 q28 eq28 Z29 eZ29 I30 eI30 L31 eL31 Z34 eZ34 q37 eq37 Z38 eZ38 I39 eI39 L40 eL40 Z43 eZ43 q46 eq46 Z47 eZ47 I48 eI48 L49 eL49
  refine cj_X7_init (h q1 eq1 Z2 eZ2 I3 eI3 L4 eL4 Z7 eZ7 q10 eq10 Z11 eZ11 I12 eI12 L13 eL13 Z16 eZ16 q19 eq19 Z20 eZ20 I21 eI21 L22 eL22 Z25 eZ25 q28 eq28 Z29 eZ29 I30 eI30 L31 eL31 Z34 eZ34 q37 eq37 Z38 eZ38 I39 eI39 L40 eL40 Z43 eZ43 q46 eq46 Z47 eZ47 I48 eI48 L49 eL49) (h q1 eq1 Z2 eZ2 I3 eI3 L4 eL4 Z7 eZ7 q10 eq10 Z11 eZ11 I12 eI12 L13 eL13 Z16 eZ16 q19 eq19 Z20 eZ20 I21 eI21 L22 eL22 Z25 eZ25 q28 eq28 Z29 eZ29 I30 eI30 L31 eL31 Z34 eZ34 q37 eq37 Z38 eZ38 I39 eI39 L40 eL40 Z43 eZ43 q46 eq46 Z47 eZ47 I48 eI48 L49 eL49) (fun Z53 I54 L55 h _ => ?_)
  intro Z61 eZ61 q64 eq64 Z65 eZ65 I66 eI66 L67 eL67
  refine cj_X7_init (h Z61 eZ61 q64 eq64 Z65 eZ65 I66 eI66 L67 eL67) (h Z61 eZ61 q64 eq64 Z65 eZ65 I66 eI66 L67 eL67) (fun Z71 I72 L73 h _ => ?_)
  intro Z79 eZ79 q82 eq82 Z83 eZ83 I84 eI84 L85 eL85 Z88 eZ88 q91 eq91 Z92 eZ92 I93 eI93 L94 eL94 Z97 eZ97 q100 eq100 Z101 eZ101 I102 eI102 L103 eL103 Z106 eZ106 I109 eI109 I110 eI110 Z111 eZ111 I114 eI114 I115 eI115 I116 eI116
  refine hq Z111 I116 L103 ?_ ?_ ?_ ?_ (h Z79 eZ79 q82 eq82 Z83 eZ83 I84 eI84 L85 eL85 Z88 eZ88 q91 eq91 Z92 eZ92 I93 eI93 L94 eL94 Z97 eZ97 q100 eq100 Z101 eZ101 I102 eI102 L103 eL103 Z106 eZ106 I109 eI109 I110 eI110 Z111 eZ111 I114 eI114 I115 eI115 I116 eI116)
  · rw [eZ111]; exact jrR_at
  · rw [eI116, jpI_off (by decide), eI115, jpI_off (by decide), eI114, jpI_at]
  · rw [eI116, jpI_off (by decide), eI115, jpI_at]
  · rw [eI116, jpI_at]
theorem rx_X5_init {v0 v1 : Nat} {v2 v3 v4 v5 : Int32} {Z : jZ} {I : jI} {L : jL} {Q1 Q2 : jZ → jI → jL → Prop} (hv : v0 ∈ Z.1) (h : f_X5_init v0 v1 v2 v3 v4 v5 Z I L Q1) (hq : ∀ (Z' : jZ) (I' : jI) (L' : jL) (r : Nat), r ∉ Z.1 → jr Z' v0 8 = some r → jr Z' r 0 = some v1 → I' r 1 = v2 → I' r 2 = v3 → I' r 3 = v4 → Q1 Z' I' L' → Q2 Z' I' L') : f_X5_init v0 v1 v2 v3 v4 v5 Z I L Q2 := by
  unfold f_X5_init at h ⊢
  intro I1 e1 I2 e2 I3 e3 I4 e4 I5 e5 I6 e6 I7 e7 I8 e8 q9 n9 Z10 e10 I11 e11 L12 e12
  have ne : q9 ≠ v0 := fun e => n9 (by rw [e]; exact hv)
  refine rx_X6_init (h I1 e1 I2 e2 I3 e3 I4 e4 I5 e5 I6 e6 I7 e7 I8 e8 q9 n9 Z10 e10 I11 e11 L12 e12) (fun Z16 I17 L18 r0 r1 r2 r3 h => ?_)
  intro Z24 e24
  refine hq Z24 I17 L18 q9 n9 ?_ ?_ r1 r2 r3 (h Z24 e24)
  · rw [e24]; exact jrR_at
  · rw [e24, jrR_ne ne]; exact r0
/-- a told pilgrim's routes: its STAIRS, knees, purse, leap -/
def RTp (Z' : jZ) (I' : jI) (uF A i : Nat) (v1 v2 v3 : Int32) : Prop := ∃ q r, jr Z' A i = some q ∧ jr Z' q 8 = some r ∧ jr Z' r 0 = some uF ∧ I' r 1 = v1 ∧ I' r 2 = v2 ∧ I' r 3 = v3
theorem rx_X11_pilgrim {v0 : Nat} {v1 v2 v3 v4 : Int32} {Z : jZ} {I : jI} {L : jL} {Q1 Q2 : Int32 → jZ → jI → jL → Prop} (w : WD Z I) (kv0 : jk Z v0 11) (uF A : Nat) (hF : jr Z v0 2 = some uF) (hA : jr Z v0 3 = some A) (h : f_X11_pilgrim v0 v1 v2 v3 v4 Z I L Q1) (hq : ∀ (r : Int32) (Z' : jZ) (I' : jI) (L' : jL), (Z' = Z ∧ I' = I) ∨ RTp Z' I' uF A (I v0 4).toNatClampNeg v1 v2 v3 → Q1 r Z' I' L' → Q2 r Z' I' L') : f_X11_pilgrim v0 v1 v2 v3 v4 Z I L Q2 := by
  have go : ∀ s0 : Int32, f_X11_pilgrim_b49 Q1 v0 v1 v2 v3 v4 s0 Z I L → f_X11_pilgrim_b49 Q2 v0 v1 v2 v3 v4 s0 Z I L := fun s0 h => by
    unfold f_X11_pilgrim_b49 at h ⊢
    refine ⟨fun c => hq _ _ _ _ (Or.inl ⟨rfl, rfl⟩) (h.1 c), fun c => ⟨fun c2 => ?_, fun c2 => hq _ _ _ _ (Or.inl ⟨rfl, rfl⟩) ((h.2 c).2 c2)⟩⟩
    intro b3 e3 q4 n4 Z5 eZ5 I6 eI6 L7 eL7 b11 e11
    have h := (h.2 c).1 c2 b3 e3 q4 n4 Z5 eZ5 I6 eI6 L7 eL7 b11 e11
    have hAb : b3 = A := Option.some.inj (e3.symm.trans hA)
    have in5 : ∀ x, x ∈ Z.1 → x ∈ Z5.1 := fun x hx => by rw [eZ5]; exact List.mem_append_left _ hx
    have hb3 : b3 ∈ Z.1 := w.2.1.2.1 v0 11 3 b3 kv0 e3
    have q5 : q4 ∈ Z5.1 := by rw [eZ5]; exact (jk_nw (Z := Z) (q := q4) (k := 5) (m := 0)).1
    have n04 : v0 ≠ q4 := fun e => n4 (by rw [← e]; exact kv0.1)
    have hFb : b11 = uF := by
      have e : jr Z5 v0 2 = jr Z v0 2 := by rw [eZ5]; exact congrFun (va_up_ne _ _ n04) 2
      rw [e, hF] at e11
      exact (Option.some.inj e11).symm
    refine rx_X5_init q5 h (fun Z13 I14 L15 r nr h8 h0 k1 k2 k3 h => ?_)
    obtain ⟨vi, h⟩ := h
    refine ⟨vi, fun Z22 e22 I24 e24 => ?_⟩
    obtain ⟨s1, h⟩ := h Z22 e22 I24 e24
    refine ⟨s1, hq _ _ _ _ (Or.inr ⟨q4, r, ?_, ?_, ?_, ?_, ?_, ?_⟩) h⟩
    · rw [e22, ← hAb]; exact jrR_at
    · rw [e22, jrR_ne (fun e => n4 (by rw [e]; exact hb3))]; exact h8
    · rw [e22, jrR_ne (fun e => nr (by rw [e]; exact in5 _ hb3)), hFb.symm]; exact h0
    · rw [e24, jpI_ne (fun e => nr (by rw [e]; exact in5 _ kv0.1))]; exact k1
    · rw [e24, jpI_ne (fun e => nr (by rw [e]; exact in5 _ kv0.1))]; exact k2
    · rw [e24, jpI_ne (fun e => nr (by rw [e]; exact in5 _ kv0.1))]; exact k3
  unfold f_X11_pilgrim at h ⊢
  have f0 : f_X11_pilgrim_b48 Q1 v0 v1 v2 v3 v4 Z I L → f_X11_pilgrim_b48 Q2 v0 v1 v2 v3 v4 Z I L := fun h => by
    unfold f_X11_pilgrim_b48 at h ⊢
    exact go 0 h
  exact ⟨fun c => f0 (h.1 c), fun c => ⟨fun c2 => f0 ((h.2 c).1 c2), fun c2 => ⟨fun c3 => f0 (((h.2 c).2 c2).1 c3), fun c3 => ⟨fun c4 => f0 ((((h.2 c).2 c2).2 c3).1 c4), fun c4 => ⟨fun c5 => f0 (((((h.2 c).2 c2).2 c3).2 c4).1 c5), fun c5 => ⟨fun c6 => f0 ((((((h.2 c).2 c2).2 c3).2 c4).2 c5).1 c6), fun c6 => ⟨fun c7 => f0 (((((((h.2 c).2 c2).2 c3).2 c4).2 c5).2 c6).1 c7), fun c7 => ⟨fun c8 => f0 ((((((((h.2 c).2 c2).2 c3).2 c4).2 c5).2 c6).2 c7).1 c8), fun c8 => go 1 ((((((((h.2 c).2 c2).2 c3).2 c4).2 c5).2 c6).2 c7).2 c8)⟩⟩⟩⟩⟩⟩⟩⟩
/-- every told pilgrim's routes are told what the pilgrim is -/
def RTI (Z : jZ) (I : jI) (v1 uF uA : Nat) : Prop := ∀ i : Nat, (i : Int) < (I v1 4).toInt → ∃ q r, jr Z uA i = some q ∧ jk Z q 5 ∧ jr Z q 8 = some r ∧ jk Z r 6 ∧ jr Z r 0 = some uF ∧ I r 1 = I q 0 ∧ I r 2 = I q 1 ∧ I r 3 = I q 2
theorem RTI_fr {W : List (Nat × Nat)} {Z Z' : jZ} {I I' : jI} {v1 uF uA : Nat} (f : FR W Z I Z' I') (k1 : jk Z v1 11) (kA : jk Z uA 18) (n0 : (11, 4) ∉ W) (n1 : (5, 0) ∉ W) (n2 : (5, 1) ∉ W) (n3 : (5, 2) ∉ W) (n4 : (6, 1) ∉ W) (n5 : (6, 2) ∉ W) (n6 : (6, 3) ∉ W) (h : RTI Z I v1 uF uA) : RTI Z' I' v1 uF uA := by
  intro i hi
  rw [f.2.2.1 v1 11 4 k1 (by decide) n0] at hi
  obtain ⟨q, r, a1, kq, a2, kr, a3, a4, a5, a6⟩ := h i hi
  refine ⟨q, r, (f.2.1 uA 18 i kA (by omega) (by omega)).trans a1, (f.1 _ _ kq).1, (f.2.1 q 5 8 kq (by decide) (by decide)).trans a2, (f.1 _ _ kr).1, (f.2.1 r 6 0 kr (by decide) (by decide)).trans a3, ?_, ?_, ?_⟩
  · rw [f.2.2.1 r 6 1 kr (by decide) n4, f.2.2.1 q 5 0 kq (by decide) n1]; exact a4
  · rw [f.2.2.1 r 6 2 kr (by decide) n5, f.2.2.1 q 5 1 kq (by decide) n2]; exact a5
  · rw [f.2.2.1 r 6 3 kr (by decide) n6, f.2.2.1 q 5 2 kq (by decide) n3]; exact a6
/-! ===== sheet: what is asked afterwards ===== -/
def shV (k n : Int32) : Prop := (0 ≤ k.toInt ∧ k.toInt ≤ 3 ∧ n.toInt ≤ 24) ∧ (k.toInt = 3 ∨ 0 ≤ n.toInt)
def shP (k n f b : Int32) (q : Nat) : Int := if k.toInt = 3 then 0 else shG k n f b q
theorem a2_sheet {Z : jZ} {I0 : jI} {v0 uF uA : Nat} {v1 v3 v4 v5 v6 : Int32} {s : Nat} {Q : Int32 → jI → jL → Prop} (w0 : WD Z I0) (hF : jr Z v0 2 = some uF) (kF : jk Z uF 8) (hA : jr Z uF 2 = some uA) (kA : jk Z uA 14) (lA : jlen Z uA = 24) (hs : s ≤ 24)
    (hQ : ∀ (r : Int32) (I' : jI) (L' : jL), WD Z I' → FR Ws_X11_sheet Z I0 Z I' → ((v5 = 0 ∧ r.toInt = shS (shG v1 v6 v3 v4) s) ∨ (¬ v5 = 0 ∧ r.toInt = -3)) → (∀ q, q < s → (I' uA q).toInt = shG v1 v6 v3 v4 q) → Q r I' L') :
    ∀ (m i : Nat) (v7 : Int32) (I : jI) (L : jL), WD Z I → FR Ws_X11_sheet Z I0 Z I → (I uF 9).toInt = (s : Int) → v7.toInt = (i : Int) → i ≤ s → (∀ q, q < i → (I uA q).toInt = shG v1 v6 v3 v4 q) → 25 ≤ m + i → f_X11_sheet_L56 Z Q m v0 v1 v3 v4 v5 v6 v7 I L := by
  intro m
  induction m with
  | zero => intro i v7 I L w f e1 e2 h1 h2 h3; exfalso; omega
  | succ m ih =>
    intro i v7 I L w f e1 e2 h1 h2 h3
    unfold f_X11_sheet_L56
    intro b4 eb4
    cases hF.symm.trans eb4
    refine ⟨fun c => ?_, fun c => ?_⟩
    · have c := (i_le e1 e2).mp c
      have ei : i = s := by omega
      rw [ei] at h2
      refine ⟨fun c5 => ?_, fun c5 => hQ _ I L w f (Or.inr ⟨c5, rfl⟩) h2⟩
      intro b7 eb7
      cases hF.symm.trans eb7
      exact a_sumOfAsks hA e1 hs (shG_rg v1 v6 v3 v4) h2 (fun r er => hQ r I L w f (Or.inl ⟨c5, er⟩) h2)
    have c := (not_congr (i_le e1 e2)).mp c
    have n7 := i_nat e2 (by omega)
    intro b15 eb15
    cases hF.symm.trans eb15
    intro b16 eb16
    cases hA.symm.trans eb16
    have key : ∀ s2 : Int32, s2.toInt = shG v1 v6 v3 v4 i → f_X11_sheet_b99 (f_X11_sheet_L56 Z Q m) Z Q v0 v1 v3 v4 v5 v6 v7 uA v7 s2 I L := by
      intro s2 es
      have rg2 := shG_rg v1 v6 v3 v4 i
      unfold f_X11_sheet_b99
      refine ⟨vi_of e2 (by omega) (by rw [lA]; omega), ?_⟩
      intro I2 eI2 x3 e3
      have w2 : WD Z I2 := by rw [eI2]; exact WD_putA w 8 2 kF hA kA rfl rfl (by decide) (by constructor <;> omega)
      have f2 : FR Ws_X11_sheet Z I Z I2 := by rw [eI2]; exact FR_upA w.2.1 kF hA kA rfl rfl (by decide)
      refine ih (i + 1) x3 I2 L w2 (f.trans w0.1 w0.2.1 f2) ?_ ?_ (by omega) (fun q hq => ?_) (by omega)
      · rw [f2.2.2.1 uF 8 9 kF (by decide) (by decide)]; exact e1
      · rw [e3]; exact (i_add e2 (show (1 : Int32).toInt = 1 from rfl) (by omega) (by omega)).trans (by omega)
      · rw [eI2]
        by_cases h : q = i
        · rw [h, show v7.toNatClampNeg = i by omega, jpI_at]; exact es
        · rw [jpI_off (by omega)]; exact h2 q (by omega)
    refine ⟨fun c6 => key 0 ?_, fun c6 => ?_⟩
    · have c6 := (i_le rfl e2).mp c6
      unfold shG; rw [if_neg (by omega)]; rfl
    have c6 := (not_congr (i_le rfl e2)).mp c6
    have ev7 : v7 = Int32.ofNat i := (i_eq e2 (i_nI (n := i) (by omega))).mpr rfl
    refine a_entryOf _ _ (fun r er => key r ?_)
    unfold shG; rw [if_pos (by omega), ← ev7]; exact er
theorem s20_X11_sheet {Z : jZ} {I : jI} {L : jL} (w : WD Z I) (v0 : Nat) (v1 v2 v3 v4 : Int32) (kv0 : jk Z v0 11) (uF : Nat) (huF : jr Z v0 2 = some uF) (uA : Nat) (hA : jr Z uF 2 = some uA) {Q : Int32 → jI → jL → Prop} (hQ : ∀ (r : Int32) (I' : jI) (L' : jL), WD Z I' → FR Ws_X11_sheet Z I Z I' → r.toInt = shetA (I uF 9).toInt v1 v2 v3 v4 → (shV v1 v2 → ∀ q : Nat, (q : Int) < (I uF 9).toInt → (I' uA q).toInt = shP v1 v2 v3 v4 q) ∧ (¬ shV v1 v2 → I' uA = I uA) → Q r I' L') : f_X11_sheet v0 v1 v2 v3 v4 Z I L Q := by
  have kF : jk Z uF 8 := by obtain ⟨b9, e9, k9⟩ := sh_o w.1 kv0 (j := 2) (k := 8) rfl; cases huF.symm.trans e9; exact k9
  have sz : 0 ≤ (I uF 9).toInt ∧ (I uF 9).toInt ≤ 24 := w.fld 8 9 kF (by decide)
  obtain ⟨x9, ex9, kA, lA⟩ := sh_f w.1 kF (j := 2) (k := 14) (m := 24) rfl
  cases hA.symm.trans ex9
  have go : ∀ v5 v6 : Int32, ((v5 = 0 ∧ v6 = v2 ∧ 0 ≤ v2.toInt ∧ ¬ v1.toInt = 3) ∨ (¬ v5 = 0 ∧ v6 = 0 ∧ v1.toInt = 3)) → (0 ≤ v1.toInt ∧ v1.toInt ≤ 3 ∧ v2.toInt ≤ 24) → f_X11_sheet_b51 Z Q v0 v1 v3 v4 v5 v6 I L := by
    intro v5 v6 hh hr
    unfold f_X11_sheet_b51
    refine ⟨25, a2_sheet (s := (I uF 9).toInt.toNat) w huF kF hA kA lA (by omega) (fun r I' L' w' f' p ha => hQ r I' L' w' f' ?_ ⟨fun _ q hq => ?_, fun h => absurd ⟨hr, hh.elim (fun z => Or.inr z.2.2.1) (fun z => Or.inl z.2.2)⟩ h⟩) 25 0 0 I L w FR.rf (by omega) rfl (by omega) (fun q hq => absurd hq (Nat.not_lt_zero q)) (by omega)⟩
    · unfold shetA
      rw [if_neg (fun h => h hr)]
      rcases p with ⟨p1, p2⟩ | ⟨p1, p2⟩
      · rcases hh with ⟨h1, h2, h3, h4⟩ | ⟨h1, -⟩
        · rw [if_neg h4, if_neg (by omega), p2, h2]
        · exact absurd p1 h1
      · rcases hh with ⟨h1, -⟩ | ⟨h1, -, h2⟩
        · exact absurd h1 p1
        · rw [if_pos h2]; exact p2
    · rw [ha q (by omega)]
      unfold shP
      rcases hh with ⟨h1, h2, h3, h4⟩ | ⟨h1, h2, h3⟩
      · rw [if_neg h4, h2]
      · rw [if_pos h3, h2]
        unfold shG
        rw [if_neg (show ¬ (q : Int) < (0 : Int32).toInt from by have : (0 : Int32).toInt = 0 := rfl; omega)]
  have bad : ¬ (0 ≤ v1.toInt ∧ v1.toInt ≤ 3 ∧ v2.toInt ≤ 24) → Q (-1 : Int32) I L := fun h => hQ _ I L w FR.rf (by unfold shetA; rw [if_pos h]; rfl) ⟨fun z => absurd z.1 h, fun _ => rfl⟩
  unfold f_X11_sheet
  refine ⟨fun c => bad (by have c := (i_lt (x := v1) (y := 0) rfl (show (0 : Int32).toInt = 0 from rfl)).mp c; omega), fun c => ⟨fun c1 => bad (by have c1 := (i_lt (x := 3) (y := v1) (show (3 : Int32).toInt = 3 from rfl) rfl).mp c1; omega), fun c1 => ⟨fun c2 => ?_, fun c2 => bad (by have c2 := (not_congr (i_le (x := v2) (y := 24) rfl (show (24 : Int32).toInt = 24 from rfl))).mp c2; omega)⟩⟩⟩
  have c := (not_congr (i_lt (x := v1) (y := 0) rfl (show (0 : Int32).toInt = 0 from rfl))).mp c
  have c1 := (not_congr (i_lt (x := 3) (y := v1) (show (3 : Int32).toInt = 3 from rfl) rfl)).mp c1
  have c2 := (i_le (x := v2) (y := 24) rfl (show (24 : Int32).toInt = 24 from rfl)).mp c2
  have hr : 0 ≤ v1.toInt ∧ v1.toInt ≤ 3 ∧ v2.toInt ≤ 24 := by omega
  refine ⟨fun c3 => ?_, fun c3 => ?_⟩
  · have c3 : ¬ v1.toInt = 3 := (not_congr (i_eq rfl (show (3 : Int32).toInt = 3 from rfl))).mp c3
    unfold f_X11_sheet_b27
    refine ⟨fun h => absurd rfl h, fun _ => ⟨fun c4 => ?_, fun c4 => ?_⟩⟩
    · have c4 := (i_le (x := 0) (y := v2) (show (0 : Int32).toInt = 0 from rfl) rfl).mp c4
      unfold f_X11_sheet_b41
      exact ⟨fun _ => go 0 v2 (Or.inl ⟨rfl, rfl, c4, c3⟩) hr, fun h => absurd rfl h⟩
    · have c4 := (not_congr (i_le (x := 0) (y := v2) (show (0 : Int32).toInt = 0 from rfl) rfl)).mp c4
      exact hQ _ I L w FR.rf (by unfold shetA; rw [if_neg (fun h => h hr), if_neg c3, if_pos (by omega)]; rfl) ⟨fun z => absurd z.2 (by omega), fun _ => rfl⟩
  · have c3 : v1.toInt = 3 := (i_eq rfl (show (3 : Int32).toInt = 3 from rfl)).mp c3
    have n1 : ¬ (1 : Int32) = 0 := by decide
    unfold f_X11_sheet_b27
    refine ⟨fun _ => ?_, fun h => absurd h n1⟩
    unfold f_X11_sheet_b41
    exact ⟨fun h => absurd h n1, fun _ => go 1 0 (Or.inr ⟨n1, rfl, c3⟩) hr⟩
theorem m2_sheet {Z : jZ} {I0 : jI} {v0 uA : Nat} {v1 v2 v3 v4 : Int32} {s : Nat} {Q : Int32 → jI → jL → Prop} (w0 : WD Z I0) (k0 : jk Z v0 12) (hA : jr Z v0 3 = some uA) (kA : jk Z uA 14) (lA : jlen Z uA = 24) (hs : s ≤ 24)
    (hQ : ∀ (r : Int32) (I' : jI) (L' : jL), WD Z I' → FR Ws_X12_sheet Z I0 Z I' → ((v1.toInt = 3 ∧ r.toInt = -3) ∨ (¬ v1.toInt = 3 ∧ r.toInt = shS (shG v1 v2 v3 v4) s)) → (∀ q, q < s → (I' uA q).toInt = shP v1 v2 v3 v4 q) → Q r I' L') :
    ∀ (m i : Nat) (v5 v6 v7 : Int32) (I : jI) (L : jL), WD Z I → FR Ws_X12_sheet Z I0 Z I → (I v0 0).toInt = (s : Int) → (v1.toInt = 3 ∨ v5.toInt = shS (shG v1 v2 v3 v4) i) → v6 = v3 + Int32.ofNat i * v4 → v7.toInt = (i : Int) → i ≤ s → (∀ q, q < i → (I uA q).toInt = shP v1 v2 v3 v4 q) → 25 ≤ m + i → f_X12_sheet_L43 Z Q m v0 v1 v2 v4 v5 v6 v7 I L := by
  intro m
  induction m with
  | zero => intro i v5 v6 v7 I L w f e1 h5 h6 e2 h1 ha h3; exfalso; omega
  | succ m ih =>
    intro i v5 v6 v7 I L w f e1 h5 h6 e2 h1 ha h3
    unfold f_X12_sheet_L43
    refine ⟨fun c => ?_, fun c => ?_⟩
    · have c := (i_le e1 e2).mp c
      have ei : i = s := by omega
      rw [ei] at h5 ha
      refine ⟨fun c3 => ?_, fun c3 => ?_⟩
      · have c3 := (not_congr (i_eq rfl (show (3 : Int32).toInt = 3 from rfl))).mp c3
        exact hQ _ I L w f (Or.inr ⟨c3, h5.resolve_left c3⟩) ha
      · have c3 := (i_eq rfl (show (3 : Int32).toInt = 3 from rfl)).mp c3
        exact hQ _ I L w f (Or.inl ⟨c3, rfl⟩) ha
    have c := (not_congr (i_le e1 e2)).mp c
    have n7 := i_nat e2 (by omega)
    have fin : ∀ s2 : Int32, (0 ≤ s2.toInt ∧ s2.toInt ≤ 20) → s2.toInt = shP v1 v2 v3 v4 i → f_X12_sheet_b109 (f_X12_sheet_L43 Z Q m) Z Q v0 v1 v2 v4 v5 v6 v7 uA v7 s2 I L := by
      intro s2 rg2 hg
      unfold f_X12_sheet_b109
      refine ⟨vi_of e2 (by omega) (by rw [lA]; omega), ?_⟩
      intro I2 eI2 b3 eb3
      cases hA.symm.trans eb3
      refine ⟨vi_of e2 (by omega) (by omega), ?_⟩
      intro x5 e5 x6 e6 x7 e7
      have w2 : WD Z I2 := by rw [eI2]; exact WD_putA w 12 3 k0 hA kA rfl rfl (by decide) (by constructor <;> omega)
      have f2 : FR Ws_X12_sheet Z I Z I2 := by rw [eI2]; exact FR_upA w.2.1 k0 hA kA rfl rfl (by decide)
      have a1 : I2 uA v7.toNatClampNeg = s2 := by rw [eI2]; exact jpI_at
      refine ih (i + 1) x5 x6 x7 I2 L w2 (f.trans w0.1 w0.2.1 f2) ?_ ?_ ?_ ?_ (by omega) (fun q hq => ?_) (by omega)
      · rw [f2.2.2.1 v0 12 0 k0 (by decide) (by decide)]; exact e1
      · by_cases h9 : v1.toInt = 3
        · exact Or.inl h9
        · have h : s2.toInt = shG v1 v2 v3 v4 i := by rw [hg]; unfold shP; rw [if_neg h9]
          rcases h5 with g | g
          · exact Or.inl g
          · have r1 := shS_rg (shG_rg v1 v2 v3 v4) i
            right
            rw [e5, a1]
            exact (i_add g h (by omega) (by omega)).trans (by show shS (shG v1 v2 v3 v4) i + shG v1 v2 v3 v4 i = _; rfl)
      · rw [e6, h6]; exact i32_st v3 v4 i
      · rw [e7]; exact (i_add e2 (show (1 : Int32).toInt = 1 from rfl) (by omega) (by omega)).trans (by omega)
      · rw [eI2]
        by_cases h : q = i
        · rw [h, show v7.toNatClampNeg = i by omega, jpI_at]; exact hg
        · rw [jpI_off (by omega)]; exact ha q (by omega)
    have z20 : 0 ≤ (0 : Int32).toInt ∧ (0 : Int32).toInt ≤ 20 := by decide
    have key : ∀ s0 : Int32, (s0.toInt = if v1 = 0 then (v6.toInt8.toInt32).toInt else if v1 = 1 then (v6.toInt16.toInt32).toInt else v6.toInt) → f_X12_sheet_b75 (f_X12_sheet_L43 Z Q m) Z Q v0 v1 v2 v4 v5 v6 v7 s0 I L := by
      intro s0 es
      unfold f_X12_sheet_b75
      intro b8 eb8
      cases hA.symm.trans eb8
      refine ⟨fun c3 => ?_, fun c3 => ⟨fun c4 => ?_, fun c4 => ?_⟩⟩
      · have c3 := (i_eq rfl (show (3 : Int32).toInt = 3 from rfl)).mp c3
        unfold f_X12_sheet_b94
        exact fin 0 z20 (by unfold shP; rw [if_pos c3]; rfl)
      · have c4 := (i_lt e2 rfl).mp c4
        have ee : (if (0 : Int32) < (if s0 < (20 : Int32) then s0 else (20 : Int32)) then (if s0 < (20 : Int32) then s0 else (20 : Int32)) else (0 : Int32)).toInt = shE v1 v6 := by
          unfold shE
          rw [← es]
          exact i_max (show (0 : Int32).toInt = 0 from rfl) (i_min (show (20 : Int32).toInt = 20 from rfl) rfl)
        have c39 := (not_congr (i_eq rfl (show (3 : Int32).toInt = 3 from rfl))).mp c3
        refine fin _ (by rw [ee]; exact shE_rg v1 v6) ?_
        unfold shP
        rw [if_neg c39]
        unfold shG
        rw [if_pos c4, ← h6]; exact ee
      · have c4 := (not_congr (i_lt e2 rfl)).mp c4
        unfold f_X12_sheet_b94
        have c39 := (not_congr (i_eq rfl (show (3 : Int32).toInt = 3 from rfl))).mp c3
        exact fin 0 z20 (by unfold shP; rw [if_neg c39]; unfold shG; rw [if_neg c4]; rfl)
    refine ⟨fun c3 => ⟨fun c4 => key _ ?_, fun c4 => key _ ?_⟩, fun c3 => key _ ?_⟩
    · rw [if_neg c3, if_neg c4]
    · rw [if_neg c3, if_pos c4]
    · rw [if_pos c3]
theorem s20_X12_sheet {Z : jZ} {I : jI} {L : jL} (w : WD Z I) (v0 : Nat) (v1 v2 v3 v4 : Int32) (kv0 : jk Z v0 12) (uA : Nat) (hA : jr Z v0 3 = some uA) {Q : Int32 → jI → jL → Prop} (hQ : ∀ (r : Int32) (I' : jI) (L' : jL), WD Z I' → FR Ws_X12_sheet Z I Z I' → r.toInt = shetA (I v0 0).toInt v1 v2 v3 v4 → (shV v1 v2 → ∀ q : Nat, (q : Int) < (I v0 0).toInt → (I' uA q).toInt = shP v1 v2 v3 v4 q) ∧ (¬ shV v1 v2 → I' uA = I uA) → Q r I' L') : f_X12_sheet v0 v1 v2 v3 v4 Z I L Q := by
  have sz : 0 ≤ (I v0 0).toInt ∧ (I v0 0).toInt ≤ 24 := w.fld 12 0 kv0 (by decide)
  obtain ⟨x9, ex9, kA, lA⟩ := sh_f w.1 kv0 (j := 3) (k := 14) (m := 24) rfl
  cases hA.symm.trans ex9
  unfold f_X12_sheet
  intro I16 e16
  have w16 : WD Z I16 := by rw [e16]; exact WD_putF w 12 22 kv0 (by decide) (by decide) trivial
  have f16 : FR Ws_X12_sheet Z I Z I16 := by rw [e16]; exact FR_putF kv0 (by decide) (by decide)
  have eA : I16 uA = I uA := by rw [e16]; exact jpI_ne (ks_ne kA kv0 (by decide))
  have es16 : (I16 v0 0).toInt = (I v0 0).toInt := by rw [f16.2.2.1 v0 12 0 kv0 (by decide) (by decide)]
  have go : (0 ≤ v1.toInt ∧ v1.toInt ≤ 3 ∧ v2.toInt ≤ 24) → (v1.toInt = 3 ∨ 0 ≤ v2.toInt) → f_X12_sheet_b34 Z Q v0 v1 v2 v3 v4 I16 L := by
    intro hr hh
    unfold f_X12_sheet_b34
    refine ⟨25, m2_sheet (v3 := v3) (s := (I v0 0).toInt.toNat) w kv0 hA kA lA (by omega) (fun r I' L' w' f' p ha => hQ r I' L' w' f' ?_ ⟨fun _ q hq => ha q (by omega), fun h => absurd ⟨hr, hh⟩ h⟩) 25 0 0 v3 0 I16 L w16 f16 (by omega) (Or.inr rfl) ?_ rfl (by omega) (fun q hq => absurd hq (Nat.not_lt_zero q)) (by omega)⟩
    · unfold shetA
      rw [if_neg (fun h => h hr)]
      rcases p with ⟨p1, p2⟩ | ⟨p1, p2⟩
      · rw [if_pos p1]; exact p2
      · rw [if_neg p1, if_neg (by omega)]; exact p2
    · rw [show Int32.ofNat 0 * v4 = 0 from Int32.zero_mul, Int32.add_zero]
  refine s_X12_in w16 _ _ _ (fun r23 p => ?_)
  have z3 : (3 : Int32).toInt = 3 := rfl
  have z0 : (0 : Int32).toInt = 0 := rfl
  refine ⟨fun c => ?_, fun c => ⟨fun c2 => ⟨fun c3 => ?_, fun c3 => ⟨fun c4 => ?_, fun c4 => ?_⟩⟩, fun c2 => ?_⟩⟩
  · have c := (i_eq rfl z0).mp c
    exact hQ _ I16 L w16 f16 (by unfold shetA; rw [if_pos (by omega)]; rfl) ⟨fun z => absurd z.1 (by omega), fun _ => eA⟩
  · have c := (not_congr (i_eq rfl z0)).mp c
    have c2 := (i_le (x := v2) (y := 24) rfl (show (24 : Int32).toInt = 24 from rfl)).mp c2
    have c3 := (i_le (x := 3) (y := v1) z3 rfl).mp c3
    exact go (by omega) (Or.inl (by omega))
  · have c := (not_congr (i_eq rfl z0)).mp c
    have c2 := (i_le (x := v2) (y := 24) rfl (show (24 : Int32).toInt = 24 from rfl)).mp c2
    have c4 := (i_le (x := 0) (y := v2) z0 rfl).mp c4
    exact go (by omega) (Or.inr c4)
  · have c := (not_congr (i_eq rfl z0)).mp c
    have c2 := (i_le (x := v2) (y := 24) rfl (show (24 : Int32).toInt = 24 from rfl)).mp c2
    have c3 := (not_congr (i_le (x := 3) (y := v1) z3 rfl)).mp c3
    have c4 := (not_congr (i_le (x := 0) (y := v2) z0 rfl)).mp c4
    exact hQ _ I16 L w16 f16 (by unfold shetA; rw [if_neg (fun h => h (by omega)), if_neg (by omega), if_pos (by omega)]; rfl) ⟨fun z => absurd z.2 (by omega), fun _ => eA⟩
  · have c2 := (not_congr (i_le (x := v2) (y := 24) rfl (show (24 : Int32).toInt = 24 from rfl))).mp c2
    exact hQ _ I16 L w16 f16 (by unfold shetA; rw [if_pos (by omega)]; rfl) ⟨fun z => absurd z.1 (by omega), fun _ => eA⟩
/-! ===== cells that are not reached: the methods of a pilgrim's routes ===== -/
set_option maxHeartbeats 4000000 in
theorem loc9m_X6_moveTo {P : Nat → Prop} {ZB : jZ} {IB : jI} {LB : jL} {v0 : Int32} {v1 : Int32} {Z : jZ} {I : jI} {L : jL} {Q1 Q2 : Int32 → jI → jL → Prop} (kp : KP P ZB IB LB Z I L) (h1 : f_X6_moveTo v0 v1 Z I L Q1) (hq : ∀ (x0 : Int32) (x1 : jI) (x2 : jL), KP P ZB IB LB Z x1 x2 → Q1 x0 x1 x2 → Q2 x0 x1 x2) : f_X6_moveTo v0 v1 Z I L Q2 := by
  unfold f_X6_moveTo at h1 ⊢
  exact hq _ _ _ kp h1
set_option maxHeartbeats 4000000 in
theorem loc9m_X8_has {P : Nat → Prop} {ZB : jZ} {IB : jI} {LB : jL} {v0 : Nat} {v1 : Int32} {Z : jZ} {I : jI} {L : jL} {Q1 Q2 : Int32 → jI → jL → Prop} (d10 : DN8 P ZB v0) (kp : KP P ZB IB LB Z I L) (h1 : f_X8_has v0 v1 Z I L Q1) (hq : ∀ (x0 : Int32) (x1 : jI) (x2 : jL), KP P ZB IB LB Z x1 x2 → Q1 x0 x1 x2 → Q2 x0 x1 x2) : f_X8_has v0 v1 Z I L Q2 := by
  unfold f_X8_has at h1 ⊢
  refine ⟨fun c => ?_, fun c => ?_⟩
  · have h1 := h1.1 c
    exact hq _ _ _ kp h1
  · have h1 := h1.2 c
    refine ⟨fun c => ?_, fun c => ?_⟩
    · have h1 := h1.1 c
      exact hq _ _ _ kp h1
    · have h1 := h1.2 c
      refine ⟨fun c => ?_, fun c => ?_⟩
      · have h1 := h1.1 c
        exact hq _ _ _ kp h1
      · have h1 := h1.2 c
        exact hq _ _ _ kp h1
set_option maxHeartbeats 4000000 in
theorem loc9m_X3_isTold {P : Nat → Prop} {ZB : jZ} {IB : jI} {LB : jL} {v0 : Nat} {Z : jZ} {I : jI} {L : jL} {Q1 Q2 : Int32 → jI → jL → Prop} (d11 : DN3 P ZB v0) (kp : KP P ZB IB LB Z I L) (h1 : f_X3_isTold v0 Z I L Q1) (hq : ∀ (x0 : Int32) (x1 : jI) (x2 : jL), KP P ZB IB LB Z x1 x2 → Q1 x0 x1 x2 → Q2 x0 x1 x2) : f_X3_isTold v0 Z I L Q2 := by
  unfold f_X3_isTold at h1 ⊢
  refine ⟨fun c => ?_, fun c => ?_⟩
  · have h1 := h1.1 c
    exact hq _ _ _ kp h1
  · have h1 := h1.2 c
    exact hq _ _ _ kp h1
set_option maxHeartbeats 4000000 in
theorem loc9m_X4_mainOf {P : Nat → Prop} {ZB : jZ} {IB : jI} {LB : jL} {v0 : Nat} {v1 : Int32} {Z : jZ} {I : jI} {L : jL} {Q1 Q2 : Int32 → jI → jL → Prop} (d25 : DN4 P ZB v0) (kp : KP P ZB IB LB Z I L) (h1 : f_X4_mainOf v0 v1 Z I L Q1) (hq : ∀ (x0 : Int32) (x1 : jI) (x2 : jL), KP P ZB IB LB Z x1 x2 → Q1 x0 x1 x2 → Q2 x0 x1 x2) : f_X4_mainOf v0 v1 Z I L Q2 := by
  unfold f_X4_mainOf at h1 ⊢
  refine ⟨fun c => ?_, fun c => ?_⟩
  · have h1 := h1.1 c
    exact hq _ _ _ kp h1
  · have h1 := h1.2 c
    refine ⟨fun c => ?_, fun c => ?_⟩
    · have h1 := h1.1 c
      exact hq _ _ _ kp h1
    · have h1 := h1.2 c
      intro b3 eb3
      have h1 := h1 b3 eb3
      have d26 := dn_4 d25 kp (by decide) eb3
      refine ⟨h1.1, ?_⟩
      have h1 := h1.2
      exact hq _ _ _ kp h1
set_option maxHeartbeats 4000000 in
theorem loc9m_X8_inFeud {P : Nat → Prop} {ZB : jZ} {IB : jI} {LB : jL} {v0 : Nat} {v1 : Int32} {v2 : Int32} {Z : jZ} {I : jI} {L : jL} {Q1 Q2 : Int32 → jI → jL → Prop} (d28 : DN8 P ZB v0) (kp : KP P ZB IB LB Z I L) (h1 : f_X8_inFeud v0 v1 v2 Z I L Q1) (hq : ∀ (x0 : Int32) (x1 : jI) (x2 : jL), KP P ZB IB LB Z x1 x2 → Q1 x0 x1 x2 → Q2 x0 x1 x2) : f_X8_inFeud v0 v1 v2 Z I L Q2 := by
  unfold f_X8_inFeud at h1 ⊢
  refine ⟨fun c => ?_, fun c => ?_⟩
  · have h1 := h1.1 c
    exact hq _ _ _ kp h1
  · have h1 := h1.2 c
    refine ⟨fun c => ?_, fun c => ?_⟩
    · have h1 := h1.1 c
      exact hq _ _ _ kp h1
    · have h1 := h1.2 c
      intro b3 eb3
      have h1 := h1 b3 eb3
      have d29 := dn_8 d28 kp (by decide) eb3
      refine ⟨h1.1, ?_⟩
      have h1 := h1.2
      refine ⟨fun c => ?_, fun c => ?_⟩
      · have h1 := h1.1 c
        exact hq _ _ _ kp h1
      · have h1 := h1.2 c
        exact hq _ _ _ kp h1
set_option maxHeartbeats 4000000 in
theorem loc9m_X8_putLetters {P : Nat → Prop} {ZB : jZ} {IB : jI} {LB : jL} {v0 : Nat} {v1 : Int32} {v2 : Int32} {v3 : Int32} {v4 : Int32} {Z : jZ} {I : jI} {L : jL} {Q1 Q2 : jI → jL → Prop} (d12 : DN8 P ZB v0) (kp : KP P ZB IB LB Z I L) (h1 : f_X8_putLetters v0 v1 v2 v3 v4 Z I L Q1) (hq : ∀ (x0 : jI) (x1 : jL), KP P ZB IB LB Z x0 x1 → Q1 x0 x1 → Q2 x0 x1) : f_X8_putLetters v0 v1 v2 v3 v4 Z I L Q2 := by
  unfold f_X8_putLetters at h1 ⊢
  refine loc9m_X8_has d12 kp h1 (fun r13 I9 L10 kp h1 => ?_)
  refine ⟨fun c => ?_, fun c => ?_⟩
  · have h1 := h1.1 c
    intro b15 eb15
    have h1 := h1 b15 eb15
    have d13 := dn_8 d12 kp (by decide) eb15
    intro b16 eb16
    have h1 := h1 b16 eb16
    have d14 := dn_8 d12 kp (by decide) eb16
    refine ⟨h1.1, ?_⟩
    have h1 := h1.2
    intro I18 eI18
    have h1 := h1 I18 eI18
    have kp := KP.wI kp d13 eI18
    intro b19 eb19
    have h1 := h1 b19 eb19
    have d15 := dn_8 d12 kp (by decide) eb19
    intro b20 eb20
    have h1 := h1 b20 eb20
    have d16 := dn_8 d12 kp (by decide) eb20
    refine ⟨h1.1, ?_⟩
    have h1 := h1.2
    intro I22 eI22
    have h1 := h1 I22 eI22
    have kp := KP.wI kp d15 eI22
    intro b23 eb23
    have h1 := h1 b23 eb23
    have d17 := dn_8 d12 kp (by decide) eb23
    intro b24 eb24
    have h1 := h1 b24 eb24
    have d18 := dn_8 d12 kp (by decide) eb24
    refine ⟨h1.1, ?_⟩
    have h1 := h1.2
    intro I26 eI26
    have h1 := h1 I26 eI26
    have kp := KP.wI kp d17 eI26
    intro b27 eb27
    have h1 := h1 b27 eb27
    have d19 := dn_8 d12 kp (by decide) eb27
    intro b28 eb28
    have h1 := h1 b28 eb28
    have d20 := dn_8 d12 kp (by decide) eb28
    refine ⟨h1.1, ?_⟩
    have h1 := h1.2
    intro I30 eI30
    have h1 := h1 I30 eI30
    have kp := KP.wI kp d19 eI30
    intro b31 eb31
    have h1 := h1 b31 eb31
    have d21 := dn_8 d12 kp (by decide) eb31
    refine loc9m_X8_has d12 kp h1 (fun r38 I34 L35 kp h1 => ?_)
    refine ⟨fun c => ?_, fun c => ?_⟩
    · have h1 := h1.1 c
      unfold f_X8_putLetters_b97 at h1 ⊢
      unfold f_X8_putLetters_b98 at h1 ⊢
      refine ⟨h1.1, ?_⟩
      have h1 := h1.2
      intro I2 eI2
      have h1 := h1 I2 eI2
      have kp := KP.wI kp d21 eI2
      intro b3 eb3
      have h1 := h1 b3 eb3
      have d22 := dn_8 d12 kp (by decide) eb3
      intro I4 eI4
      have h1 := h1 I4 eI4
      have kp := KP.wI kp d22 eI4
      intro b5 eb5
      have h1 := h1 b5 eb5
      have d23 := dn_8 d12 kp (by decide) eb5
      intro I6 eI6
      have h1 := h1 I6 eI6
      have kp := KP.wI kp d23 eI6
      exact hq _ _ kp h1
    · have h1 := h1.2 c
      intro b40 eb40
      have h1 := h1 b40 eb40
      have d24 := dn_8_4 d12 kp eb40
      refine loc9m_X4_mainOf d24 kp h1 (fun r47 I43 L44 kp h1 => ?_)
      intro b48 eb48
      have h1 := h1 b48 eb48
      have d27 := dn_8_4 d12 kp eb48
      refine loc9m_X4_mainOf d27 kp h1 (fun r55 I51 L52 kp h1 => ?_)
      refine loc9m_X8_inFeud d12 kp h1 (fun r62 I58 L59 kp h1 => ?_)
      refine ⟨fun c => ?_, fun c => ?_⟩
      · have h1 := h1.1 c
        unfold f_X8_putLetters_b97 at h1 ⊢
        unfold f_X8_putLetters_b98 at h1 ⊢
        refine ⟨h1.1, ?_⟩
        have h1 := h1.2
        intro I2 eI2
        have h1 := h1 I2 eI2
        have kp := KP.wI kp d21 eI2
        intro b3 eb3
        have h1 := h1 b3 eb3
        have d30 := dn_8 d12 kp (by decide) eb3
        intro I4 eI4
        have h1 := h1 I4 eI4
        have kp := KP.wI kp d30 eI4
        intro b5 eb5
        have h1 := h1 b5 eb5
        have d31 := dn_8 d12 kp (by decide) eb5
        intro I6 eI6
        have h1 := h1 I6 eI6
        have kp := KP.wI kp d31 eI6
        exact hq _ _ kp h1
      · have h1 := h1.2 c
        unfold f_X8_putLetters_b98 at h1 ⊢
        refine ⟨h1.1, ?_⟩
        have h1 := h1.2
        intro I2 eI2
        have h1 := h1 I2 eI2
        have kp := KP.wI kp d21 eI2
        intro b3 eb3
        have h1 := h1 b3 eb3
        have d32 := dn_8 d12 kp (by decide) eb3
        intro I4 eI4
        have h1 := h1 I4 eI4
        have kp := KP.wI kp d32 eI4
        intro b5 eb5
        have h1 := h1 b5 eb5
        have d33 := dn_8 d12 kp (by decide) eb5
        intro I6 eI6
        have h1 := h1 I6 eI6
        have kp := KP.wI kp d33 eI6
        exact hq _ _ kp h1
  · have h1 := h1.2 c
    exact hq _ _ kp h1
set_option maxHeartbeats 4000000 in
theorem loc9m_X3_join {P : Nat → Prop} {ZB : jZ} {IB : jI} {LB : jL} {v0 : Int32} {v1 : Int32} {v2 : Int32} {Z : jZ} {I : jI} {L : jL} {Q1 Q2 : Int32 → jI → jL → Prop} (kp : KP P ZB IB LB Z I L) (h1 : f_X3_join v0 v1 v2 Z I L Q1) (hq : ∀ (x0 : Int32) (x1 : jI) (x2 : jL), KP P ZB IB LB Z x1 x2 → Q1 x0 x1 x2 → Q2 x0 x1 x2) : f_X3_join v0 v1 v2 Z I L Q2 := by
  unfold f_X3_join at h1 ⊢
  refine ⟨fun c => ?_, fun c => ?_⟩
  · have h1 := h1.1 c
    exact hq _ _ _ kp h1
  · have h1 := h1.2 c
    refine ⟨fun c => ?_, fun c => ?_⟩
    · have h1 := h1.1 c
      exact hq _ _ _ kp h1
    · have h1 := h1.2 c
      refine ⟨fun c => ?_, fun c => ?_⟩
      · have h1 := h1.1 c
        exact hq _ _ _ kp h1
      · have h1 := h1.2 c
        refine ⟨fun c => ?_, fun c => ?_⟩
        · have h1 := h1.1 c
          refine ⟨fun c => ?_, fun c => ?_⟩
          · have h1 := h1.1 c
            exact hq _ _ _ kp h1
          · have h1 := h1.2 c
            exact hq _ _ _ kp h1
        · have h1 := h1.2 c
          refine ⟨fun c => ?_, fun c => ?_⟩
          · have h1 := h1.1 c
            refine ⟨fun c => ?_, fun c => ?_⟩
            · have h1 := h1.1 c
              exact hq _ _ _ kp h1
            · have h1 := h1.2 c
              exact hq _ _ _ kp h1
          · have h1 := h1.2 c
            refine ⟨fun c => ?_, fun c => ?_⟩
            · have h1 := h1.1 c
              refine ⟨fun c => ?_, fun c => ?_⟩
              · have h1 := h1.1 c
                exact hq _ _ _ kp h1
              · have h1 := h1.2 c
                exact hq _ _ _ kp h1
            · have h1 := h1.2 c
              refine ⟨fun c => ?_, fun c => ?_⟩
              · have h1 := h1.1 c
                refine ⟨h1.1, ?_⟩
                have h1 := h1.2
                exact hq _ _ _ kp h1
              · have h1 := h1.2 c
                exact hq _ _ _ kp h1
set_option maxHeartbeats 4000000 in
theorem loc9m_X3_priceFor_L4 {P : Nat → Prop} {ZB : jZ} {IB : jI} {LB : jL} {Z : jZ} {Q1 Q2 : Int32 → jI → jL → Prop} (hq : ∀ (x0 : Int32) (x1 : jI) (x2 : jL), KP P ZB IB LB Z x1 x2 → Q1 x0 x1 x2 → Q2 x0 x1 x2) : ∀ (n : Nat) (v0 : Nat) (v1 : Nat) (v2 : Int32) (v3 : Int32) (I : jI) (L : jL), DN3 P ZB v0 → ¬ P v1 → KP P ZB IB LB Z I L → f_X3_priceFor_L4 Z Q1 n v0 v1 v2 v3 I L → f_X3_priceFor_L4 Z Q2 n v0 v1 v2 v3 I L := by
  intro n
  induction n with
  | zero => intro v0 v1 v2 v3 I L d37 d38 kp h1; exact h1.elim
  | succ n ih =>
    intro v0 v1 v2 v3 I L d37 d38 kp h1
    unfold f_X3_priceFor_L4 at h1 ⊢
    refine ⟨fun c => ?_, fun c => ?_⟩
    · have h1 := h1.1 c
      unfold f_X3_priceFor_b156 at h1 ⊢
      refine ⟨fun c => ?_, fun c => ?_⟩
      · have h1 := h1.1 c
        intro b2 eb2
        have h1 := h1 b2 eb2
        have d39 := dn_3 d37 kp (by decide) eb2
        refine ⟨h1.1, ?_⟩
        have h1 := h1.2
        exact hq _ _ _ kp h1
      · have h1 := h1.2 c
        exact hq _ _ _ kp h1
    · have h1 := h1.2 c
      refine ⟨fun c => ?_, fun c => ?_⟩
      · have h1 := h1.1 c
        unfold f_X3_priceFor_b156 at h1 ⊢
        refine ⟨fun c => ?_, fun c => ?_⟩
        · have h1 := h1.1 c
          intro b2 eb2
          have h1 := h1 b2 eb2
          have d40 := dn_3 d37 kp (by decide) eb2
          refine ⟨h1.1, ?_⟩
          have h1 := h1.2
          exact hq _ _ _ kp h1
        · have h1 := h1.2 c
          exact hq _ _ _ kp h1
      · have h1 := h1.2 c
        intro b26 eb26
        have h1 := h1 b26 eb26
        have d41 := dn_3 d37 kp (by decide) eb26
        refine ⟨h1.1, ?_⟩
        have h1 := h1.2
        intro x28 ex28
        have h1 := h1 x28 ex28
        refine ⟨fun c => ?_, fun c => ?_⟩
        · have h1 := h1.1 c
          refine ⟨fun c => ?_, fun c => ?_⟩
          · have h1 := h1.1 c
            unfold f_X3_priceFor_b111 at h1 ⊢
            refine ⟨fun c => ?_, fun c => ?_⟩
            · have h1 := h1.1 c
              unfold f_X3_priceFor_b150 at h1 ⊢
              intro x4 ex4
              have h1 := h1 x4 ex4
              exact ih _ _ _ _ _ _ d37 d38 kp h1
            · have h1 := h1.2 c
              intro x6 ex6
              have h1 := h1 x6 ex6
              intro b7 eb7
              have h1 := h1 b7 eb7
              have d42 := dn_3 d37 kp (by decide) eb7
              intro b8 eb8
              have h1 := h1 b8 eb8
              have d43 := dn_3 d37 kp (by decide) eb8
              refine ⟨h1.1, ?_⟩
              have h1 := h1.2
              intro b10 eb10
              have h1 := h1 b10 eb10
              have d44 := dn_3 d37 kp (by decide) eb10
              refine ⟨h1.1, ?_⟩
              have h1 := h1.2
              refine loc9m_X3_join  kp h1 (fun r18 I14 L15 kp h1 => ?_)
              refine ⟨h1.1, ?_⟩
              have h1 := h1.2
              intro I20 eI20
              have h1 := h1 I20 eI20
              have kp := KP.wI kp d42 eI20
              unfold f_X3_priceFor_b150 at h1 ⊢
              intro x4 ex4
              have h1 := h1 x4 ex4
              exact ih _ _ _ _ _ _ d37 d38 kp h1
          · have h1 := h1.2 c
            refine ⟨fun c => ?_, fun c => ?_⟩
            · have h1 := h1.1 c
              unfold f_X3_priceFor_b111 at h1 ⊢
              refine ⟨fun c => ?_, fun c => ?_⟩
              · have h1 := h1.1 c
                unfold f_X3_priceFor_b150 at h1 ⊢
                intro x4 ex4
                have h1 := h1 x4 ex4
                exact ih _ _ _ _ _ _ d37 d38 kp h1
              · have h1 := h1.2 c
                intro x6 ex6
                have h1 := h1 x6 ex6
                intro b7 eb7
                have h1 := h1 b7 eb7
                have d45 := dn_3 d37 kp (by decide) eb7
                intro b8 eb8
                have h1 := h1 b8 eb8
                have d46 := dn_3 d37 kp (by decide) eb8
                refine ⟨h1.1, ?_⟩
                have h1 := h1.2
                intro b10 eb10
                have h1 := h1 b10 eb10
                have d47 := dn_3 d37 kp (by decide) eb10
                refine ⟨h1.1, ?_⟩
                have h1 := h1.2
                refine loc9m_X3_join  kp h1 (fun r18 I14 L15 kp h1 => ?_)
                refine ⟨h1.1, ?_⟩
                have h1 := h1.2
                intro I20 eI20
                have h1 := h1 I20 eI20
                have kp := KP.wI kp d45 eI20
                unfold f_X3_priceFor_b150 at h1 ⊢
                intro x4 ex4
                have h1 := h1 x4 ex4
                exact ih _ _ _ _ _ _ d37 d38 kp h1
            · have h1 := h1.2 c
              intro b32 eb32
              have h1 := h1 b32 eb32
              have d48 := dn_3 d37 kp (by decide) eb32
              intro b33 eb33
              have h1 := h1 b33 eb33
              have d49 := dn_3 d37 kp (by decide) eb33
              refine ⟨h1.1, ?_⟩
              have h1 := h1.2
              refine ⟨h1.1, ?_⟩
              have h1 := h1.2
              intro I36 eI36
              have h1 := h1 I36 eI36
              have kp := KP.wI kp d48 eI36
              unfold f_X3_priceFor_b150 at h1 ⊢
              intro x4 ex4
              have h1 := h1 x4 ex4
              exact ih _ _ _ _ _ _ d37 d38 kp h1
        · have h1 := h1.2 c
          intro x37 ex37
          have h1 := h1 x37 ex37
          intro b38 eb38
          have h1 := h1 b38 eb38
          have d50 := dn_3 d37 kp (by decide) eb38
          refine ⟨fun c => ?_, fun c => ?_⟩
          · have h1 := h1.1 c
            refine ⟨fun c => ?_, fun c => ?_⟩
            · have h1 := h1.1 c
              unfold f_X3_priceFor_b72 at h1 ⊢
              refine ⟨h1.1, ?_⟩
              have h1 := h1.2
              intro I22 eI22
              have h1 := h1 I22 eI22
              have kp := KP.wI kp d50 eI22
              intro x23 ex23
              have h1 := h1 x23 ex23
              unfold f_X3_priceFor_b150 at h1 ⊢
              intro x4 ex4
              have h1 := h1 x4 ex4
              exact ih _ _ _ _ _ _ d37 d38 kp h1
            · have h1 := h1.2 c
              refine ⟨h1.1, ?_⟩
              have h1 := h1.2
              unfold f_X3_priceFor_b72 at h1 ⊢
              refine ⟨h1.1, ?_⟩
              have h1 := h1.2
              intro I22 eI22
              have h1 := h1 I22 eI22
              have kp := KP.wI kp d50 eI22
              intro x23 ex23
              have h1 := h1 x23 ex23
              unfold f_X3_priceFor_b150 at h1 ⊢
              intro x4 ex4
              have h1 := h1 x4 ex4
              exact ih _ _ _ _ _ _ d37 d38 kp h1
          · have h1 := h1.2 c
            unfold f_X3_priceFor_b72 at h1 ⊢
            refine ⟨h1.1, ?_⟩
            have h1 := h1.2
            intro I22 eI22
            have h1 := h1 I22 eI22
            have kp := KP.wI kp d50 eI22
            intro x23 ex23
            have h1 := h1 x23 ex23
            unfold f_X3_priceFor_b150 at h1 ⊢
            intro x4 ex4
            have h1 := h1 x4 ex4
            exact ih _ _ _ _ _ _ d37 d38 kp h1
set_option maxHeartbeats 4000000 in
theorem loc9m_X3_priceFor {P : Nat → Prop} {ZB : jZ} {IB : jI} {LB : jL} {v0 : Nat} {v1 : Nat} {Z : jZ} {I : jI} {L : jL} {Q1 Q2 : Int32 → jI → jL → Prop} (d35 : DN3 P ZB v0) (d36 : ¬ P v1) (kp : KP P ZB IB LB Z I L) (h1 : f_X3_priceFor v0 v1 Z I L Q1) (hq : ∀ (x0 : Int32) (x1 : jI) (x2 : jL), KP P ZB IB LB Z x1 x2 → Q1 x0 x1 x2 → Q2 x0 x1 x2) : f_X3_priceFor v0 v1 Z I L Q2 := by
  unfold f_X3_priceFor at h1 ⊢
  obtain ⟨n1, h1⟩ := h1
  exact ⟨n1, loc9m_X3_priceFor_L4  hq n1 _ _ _ _ _ _ d35 d36 kp h1⟩
set_option maxHeartbeats 4000000 in
theorem loc9m_X8_priceOf {P : Nat → Prop} {ZB : jZ} {IB : jI} {LB : jL} {v0 : Nat} {v1 : Int32} {v2 : Int32} {v3 : Int32} {v4 : Int32} {v5 : Int32} {Z : jZ} {I : jI} {L : jL} {Q1 Q2 : Int32 → jI → jL → Prop} (d8 : DN8 P ZB v0) (kp : KP P ZB IB LB Z I L) (h1 : f_X8_priceOf v0 v1 v2 v3 v4 v5 Z I L Q1) (hq : ∀ (x0 : Int32) (x1 : jI) (x2 : jL), KP P ZB IB LB Z x1 x2 → Q1 x0 x1 x2 → Q2 x0 x1 x2) : f_X8_priceOf v0 v1 v2 v3 v4 v5 Z I L Q2 := by
  unfold f_X8_priceOf at h1 ⊢
  refine ⟨fun c => ?_, fun c => ?_⟩
  · have h1 := h1.1 c
    intro b38 eb38
    have h1 := h1 b38 eb38
    have d9 := dn_8_3 d8 kp (by decide) eb38
    unfold f_X8_priceOf_b15 at h1 ⊢
    refine loc9m_X8_has d8 kp h1 (fun r7 I3 L4 kp h1 => ?_)
    refine ⟨fun c => ?_, fun c => ?_⟩
    · have h1 := h1.1 c
      refine loc9m_X3_isTold d9 kp h1 (fun r15 I11 L12 kp h1 => ?_)
      refine ⟨fun c => ?_, fun c => ?_⟩
      · have h1 := h1.1 c
        refine loc9m_X8_putLetters d8 kp h1 (fun I19 L20 kp h1 => ?_)
        intro b23 eb23
        have h1 := h1 b23 eb23
        have d34 := dn_8 d8 kp (by decide) eb23
        refine loc9m_X3_priceFor d9 d34 kp h1 (fun r30 I26 L27 kp h1 => ?_)
        exact hq _ _ _ kp h1
      · have h1 := h1.2 c
        refine ⟨fun c => ?_, fun c => ?_⟩
        · have h1 := h1.1 c
          exact hq _ _ _ kp h1
        · have h1 := h1.2 c
          intro b32 eb32
          have h1 := h1 b32 eb32
          have d51 := dn_8 d8 kp (by decide) eb32
          refine ⟨h1.1, ?_⟩
          have h1 := h1.2
          refine ⟨fun c => ?_, fun c => ?_⟩
          · have h1 := h1.1 c
            exact hq _ _ _ kp h1
          · have h1 := h1.2 c
            intro b35 eb35
            have h1 := h1 b35 eb35
            have d52 := dn_8 d8 kp (by decide) eb35
            refine ⟨h1.1, ?_⟩
            have h1 := h1.2
            exact hq _ _ _ kp h1
    · have h1 := h1.2 c
      exact hq _ _ _ kp h1
  · have h1 := h1.2 c
    intro b39 eb39
    have h1 := h1 b39 eb39
    have d53 := dn_8_3 d8 kp (by decide) eb39
    unfold f_X8_priceOf_b15 at h1 ⊢
    refine loc9m_X8_has d8 kp h1 (fun r7 I3 L4 kp h1 => ?_)
    refine ⟨fun c => ?_, fun c => ?_⟩
    · have h1 := h1.1 c
      refine loc9m_X3_isTold d53 kp h1 (fun r15 I11 L12 kp h1 => ?_)
      refine ⟨fun c => ?_, fun c => ?_⟩
      · have h1 := h1.1 c
        refine loc9m_X8_putLetters d8 kp h1 (fun I19 L20 kp h1 => ?_)
        intro b23 eb23
        have h1 := h1 b23 eb23
        have d54 := dn_8 d8 kp (by decide) eb23
        refine loc9m_X3_priceFor d53 d54 kp h1 (fun r30 I26 L27 kp h1 => ?_)
        exact hq _ _ _ kp h1
      · have h1 := h1.2 c
        refine ⟨fun c => ?_, fun c => ?_⟩
        · have h1 := h1.1 c
          exact hq _ _ _ kp h1
        · have h1 := h1.2 c
          intro b32 eb32
          have h1 := h1 b32 eb32
          have d55 := dn_8 d8 kp (by decide) eb32
          refine ⟨h1.1, ?_⟩
          have h1 := h1.2
          refine ⟨fun c => ?_, fun c => ?_⟩
          · have h1 := h1.1 c
            exact hq _ _ _ kp h1
          · have h1 := h1.2 c
            intro b35 eb35
            have h1 := h1 b35 eb35
            have d56 := dn_8 d8 kp (by decide) eb35
            refine ⟨h1.1, ?_⟩
            have h1 := h1.2
            exact hq _ _ _ kp h1
    · have h1 := h1.2 c
      exact hq _ _ _ kp h1
set_option maxHeartbeats 4000000 in
theorem loc9m_X8_costOfMove_L24 {P : Nat → Prop} {ZB : jZ} {IB : jI} {LB : jL} {Z : jZ} {Q1 Q2 : Int32 → jI → jL → Prop} (hq : ∀ (x0 : Int32) (x1 : jI) (x2 : jL), KP P ZB IB LB Z x1 x2 → Q1 x0 x1 x2 → Q2 x0 x1 x2) : ∀ (n : Nat) (v0 : Nat) (v1 : Int32) (v2 : Int32) (v3 : Int32) (v4 : Int32) (v5 : Int32) (v6 : Int32) (I : jI) (L : jL), DN8 P ZB v0 → KP P ZB IB LB Z I L → f_X8_costOfMove_L24 Z Q1 n v0 v1 v2 v3 v4 v5 v6 I L → f_X8_costOfMove_L24 Z Q2 n v0 v1 v2 v3 v4 v5 v6 I L := by
  intro n
  induction n with
  | zero => intro v0 v1 v2 v3 v4 v5 v6 I L d57 kp h1; exact h1.elim
  | succ n ih =>
    intro v0 v1 v2 v3 v4 v5 v6 I L d57 kp h1
    unfold f_X8_costOfMove_L24 at h1 ⊢
    refine ⟨fun c => ?_, fun c => ?_⟩
    · have h1 := h1.1 c
      exact hq _ _ _ kp h1
    · have h1 := h1.2 c
      refine loc9m_X8_priceOf d57 kp h1 (fun r8 I4 L5 kp h1 => ?_)
      intro x9 ex9
      have h1 := h1 x9 ex9
      intro x10 ex10
      have h1 := h1 x10 ex10
      exact ih _ _ _ _ _ _ _ _ _ d57 kp h1
set_option maxHeartbeats 4000000 in
theorem loc9m_X8_costOfMove {P : Nat → Prop} {ZB : jZ} {IB : jI} {LB : jL} {v0 : Nat} {v1 : Int32} {v2 : Int32} {v3 : Int32} {Z : jZ} {I : jI} {L : jL} {Q1 Q2 : Int32 → jI → jL → Prop} (d7 : DN8 P ZB v0) (kp : KP P ZB IB LB Z I L) (h1 : f_X8_costOfMove v0 v1 v2 v3 Z I L Q1) (hq : ∀ (x0 : Int32) (x1 : jI) (x2 : jL), KP P ZB IB LB Z x1 x2 → Q1 x0 x1 x2 → Q2 x0 x1 x2) : f_X8_costOfMove v0 v1 v2 v3 Z I L Q2 := by
  unfold f_X8_costOfMove at h1 ⊢
  intro x11 ex11
  have h1 := h1 x11 ex11
  refine loc9m_X8_priceOf d7 kp h1 (fun r18 I14 L15 kp h1 => ?_)
  intro x19 ex19
  have h1 := h1 x19 ex19
  obtain ⟨n1, h1⟩ := h1
  exact ⟨n1, loc9m_X8_costOfMove_L24  hq n1 _ _ _ _ _ _ _ _ _ d7 kp h1⟩
set_option maxHeartbeats 4000000 in
theorem loc9m_X8_effortOfMove_L8 {P : Nat → Prop} {ZB : jZ} {IB : jI} {LB : jL} {Z : jZ} {Q1 Q2 : Int32 → jI → jL → Prop} (hq : ∀ (x0 : Int32) (x1 : jI) (x2 : jL), KP P ZB IB LB Z x1 x2 → Q1 x0 x1 x2 → Q2 x0 x1 x2) : ∀ (n : Nat) (v0 : Nat) (v1 : Int32) (v2 : Int32) (v3 : Int32) (v4 : Int32) (v5 : Int32) (I : jI) (L : jL), DN8 P ZB v0 → KP P ZB IB LB Z I L → f_X8_effortOfMove_L8 Z Q1 n v0 v1 v2 v3 v4 v5 I L → f_X8_effortOfMove_L8 Z Q2 n v0 v1 v2 v3 v4 v5 I L := by
  intro n
  induction n with
  | zero => intro v0 v1 v2 v3 v4 v5 I L d61 kp h1; exact h1.elim
  | succ n ih =>
    intro v0 v1 v2 v3 v4 v5 I L d61 kp h1
    unfold f_X8_effortOfMove_L8 at h1 ⊢
    refine ⟨fun c => ?_, fun c => ?_⟩
    · have h1 := h1.1 c
      refine loc9m_X8_has d61 kp h1 (fun r10 I6 L7 kp h1 => ?_)
      refine ⟨fun c => ?_, fun c => ?_⟩
      · have h1 := h1.1 c
        unfold f_X8_effortOfMove_b66 at h1 ⊢
        exact hq _ _ _ kp h1
      · have h1 := h1.2 c
        intro b12 eb12
        have h1 := h1 b12 eb12
        have d62 := dn_8 d61 kp (by decide) eb12
        refine ⟨h1.1, ?_⟩
        have h1 := h1.2
        unfold f_X8_effortOfMove_b66 at h1 ⊢
        exact hq _ _ _ kp h1
    · have h1 := h1.2 c
      refine loc9m_X8_has d61 kp h1 (fun r20 I16 L17 kp h1 => ?_)
      refine ⟨fun c => ?_, fun c => ?_⟩
      · have h1 := h1.1 c
        unfold f_X8_effortOfMove_b36 at h1 ⊢
        intro x1 ex1
        have h1 := h1 x1 ex1
        intro x2 ex2
        have h1 := h1 x2 ex2
        exact ih _ _ _ _ _ _ _ _ d61 kp h1
      · have h1 := h1.2 c
        intro b22 eb22
        have h1 := h1 b22 eb22
        have d63 := dn_8 d61 kp (by decide) eb22
        refine ⟨h1.1, ?_⟩
        have h1 := h1.2
        unfold f_X8_effortOfMove_b36 at h1 ⊢
        intro x1 ex1
        have h1 := h1 x1 ex1
        intro x2 ex2
        have h1 := h1 x2 ex2
        exact ih _ _ _ _ _ _ _ _ d61 kp h1
set_option maxHeartbeats 4000000 in
theorem loc9m_X8_effortOfMove {P : Nat → Prop} {ZB : jZ} {IB : jI} {LB : jL} {v0 : Nat} {v1 : Int32} {v2 : Int32} {v3 : Int32} {Z : jZ} {I : jI} {L : jL} {Q1 Q2 : Int32 → jI → jL → Prop} (d60 : DN8 P ZB v0) (kp : KP P ZB IB LB Z I L) (h1 : f_X8_effortOfMove v0 v1 v2 v3 Z I L Q1) (hq : ∀ (x0 : Int32) (x1 : jI) (x2 : jL), KP P ZB IB LB Z x1 x2 → Q1 x0 x1 x2 → Q2 x0 x1 x2) : f_X8_effortOfMove v0 v1 v2 v3 Z I L Q2 := by
  unfold f_X8_effortOfMove at h1 ⊢
  intro x24 ex24
  have h1 := h1 x24 ex24
  obtain ⟨n1, h1⟩ := h1
  exact ⟨n1, loc9m_X8_effortOfMove_L8  hq n1 _ _ _ _ _ _ _ _ d60 kp h1⟩
set_option maxHeartbeats 4000000 in
theorem loc9m_X6_measure_L22 {P : Nat → Prop} {ZB : jZ} {IB : jI} {LB : jL} {Z : jZ} {K6 K6b : Nat → Int32 → Int32 → jI → jL → Prop} {Q1 Q2 : jI → jL → Prop} (hK6 : ∀ (x0 : Nat) (x1 : Int32) (x2 : Int32) (x3 : jI) (x4 : jL), DN9 P ZB x0 → KP P ZB IB LB Z x3 x4 → K6 x0 x1 x2 x3 x4 → K6b x0 x1 x2 x3 x4) (hq : ∀ (x0 : jI) (x1 : jL), KP P ZB IB LB Z x0 x1 → Q1 x0 x1 → Q2 x0 x1) : ∀ (n : Nat) (v0 : Nat) (v2 : Int32) (v3 : Int32) (v4 : Int32) (I : jI) (L : jL), DN9 P ZB v0 → KP P ZB IB LB Z I L → f_X6_measure_L22 K6 Z Q1 n v0 v2 v3 v4 I L → f_X6_measure_L22 K6b Z Q2 n v0 v2 v3 v4 I L := by
  intro n
  induction n with
  | zero => intro v0 v2 v3 v4 I L d3 kp h1; exact h1.elim
  | succ n ih =>
    intro v0 v2 v3 v4 I L d3 kp h1
    unfold f_X6_measure_L22 at h1 ⊢
    refine ⟨fun c => ?_, fun c => ?_⟩
    · have h1 := h1.1 c
      unfold f_X6_measure_b114 at h1 ⊢
      intro x1 ex1
      have h1 := h1 x1 ex1
      exact hK6 _ _ _ _ _ d3 kp h1
    · have h1 := h1.2 c
      refine ⟨fun c => ?_, fun c => ?_⟩
      · have h1 := h1.1 c
        unfold f_X6_measure_b114 at h1 ⊢
        intro x1 ex1
        have h1 := h1 x1 ex1
        exact hK6 _ _ _ _ _ d3 kp h1
      · have h1 := h1.2 c
        intro b4 eb4
        have h1 := h1 b4 eb4
        have d4 := dn_9 d3 kp (by decide) eb4
        refine ⟨h1.1, ?_⟩
        have h1 := h1.2
        refine ⟨fun c => ?_, fun c => ?_⟩
        · have h1 := h1.1 c
          unfold f_X6_measure_b114 at h1 ⊢
          intro x1 ex1
          have h1 := h1 x1 ex1
          exact hK6 _ _ _ _ _ d3 kp h1
        · have h1 := h1.2 c
          refine loc9m_X6_moveTo  kp h1 (fun r13 I9 L10 kp h1 => ?_)
          intro b14 eb14
          have h1 := h1 b14 eb14
          have d5 := dn_9 d3 kp (by decide) eb14
          intro b15 eb15
          have h1 := h1 b15 eb15
          have d6 := dn_9_8 d3 kp eb15
          refine loc9m_X8_costOfMove d6 kp h1 (fun r22 I18 L19 kp h1 => ?_)
          refine ⟨h1.1, ?_⟩
          have h1 := h1.2
          intro I24 eI24
          have h1 := h1 I24 eI24
          have kp := KP.wI kp d5 eI24
          intro b25 eb25
          have h1 := h1 b25 eb25
          have d58 := dn_9 d3 kp (by decide) eb25
          intro b26 eb26
          have h1 := h1 b26 eb26
          have d59 := dn_9_8 d3 kp eb26
          refine loc9m_X8_effortOfMove d59 kp h1 (fun r33 I29 L30 kp h1 => ?_)
          refine ⟨h1.1, ?_⟩
          have h1 := h1.2
          intro I35 eI35
          have h1 := h1 I35 eI35
          have kp := KP.wI kp d58 eI35
          intro x36 ex36
          have h1 := h1 x36 ex36
          exact ih _ _ _ _ _ _ d3 kp h1
set_option maxHeartbeats 4000000 in
theorem loc9m_X6_measure_L6 {P : Nat → Prop} {ZB : jZ} {IB : jI} {LB : jL} {Z : jZ} {Q1 Q2 : jI → jL → Prop} (hq : ∀ (x0 : jI) (x1 : jL), KP P ZB IB LB Z x0 x1 → Q1 x0 x1 → Q2 x0 x1) : ∀ (n : Nat) (v0 : Nat) (v2 : Int32) (v3 : Int32) (I : jI) (L : jL), DN9 P ZB v0 → KP P ZB IB LB Z I L → f_X6_measure_L6 Z Q1 n v0 v2 v3 I L → f_X6_measure_L6 Z Q2 n v0 v2 v3 I L := by
  intro n
  induction n with
  | zero => intro v0 v2 v3 I L d2 kp h1; exact h1.elim
  | succ n ih =>
    intro v0 v2 v3 I L d2 kp h1
    unfold f_X6_measure_L6 at h1 ⊢
    refine ⟨fun c => ?_, fun c => ?_⟩
    · have h1 := h1.1 c
      exact hq _ _ kp h1
    · have h1 := h1.2 c
      refine ⟨fun c => ?_, fun c => ?_⟩
      · have h1 := h1.1 c
        exact hq _ _ kp h1
      · have h1 := h1.2 c
        obtain ⟨n1, h1⟩ := h1
        exact ⟨n1, loc9m_X6_measure_L22 (fun _ _ _ _ _ g0 kp h => ih _ _ _ _ _ g0 kp h) hq n1 _ _ _ _ _ _ d2 kp h1⟩
set_option maxHeartbeats 4000000 in
theorem loc9m_X6_measure {P : Nat → Prop} {ZB : jZ} {IB : jI} {LB : jL} {v0 : Nat} {v1 : Int32} {v2 : Int32} {Z : jZ} {I : jI} {L : jL} {Q1 Q2 : jI → jL → Prop} (d1 : DN9 P ZB v0) (kp : KP P ZB IB LB Z I L) (h1 : f_X6_measure v0 v1 v2 Z I L Q1) (hq : ∀ (x0 : jI) (x1 : jL), KP P ZB IB LB Z x0 x1 → Q1 x0 x1 → Q2 x0 x1) : f_X6_measure v0 v1 v2 Z I L Q2 := by
  unfold f_X6_measure at h1 ⊢
  intro x40 ex40
  have h1 := h1 x40 ex40
  obtain ⟨n1, h1⟩ := h1
  exact ⟨n1, loc9m_X6_measure_L6  hq n1 _ _ _ _ _ d1 kp h1⟩
/-! ===== cells that are not reached: the methods of a pilgrim's routes ===== -/
set_option maxHeartbeats 4000000 in
theorem loc10m_X6_moveTo {P : Nat → Prop} {ZB : jZ} {IB : jI} {LB : jL} {v0 : Int32} {v1 : Int32} {Z : jZ} {I : jI} {L : jL} {Q1 Q2 : Int32 → jI → jL → Prop} (kp : KP P ZB IB LB Z I L) (h1 : f_X6_moveTo v0 v1 Z I L Q1) (hq : ∀ (x0 : Int32) (x1 : jI) (x2 : jL), KP P ZB IB LB Z x1 x2 → Q1 x0 x1 x2 → Q2 x0 x1 x2) : f_X6_moveTo v0 v1 Z I L Q2 := by
  unfold f_X6_moveTo at h1 ⊢
  exact hq _ _ _ kp h1
set_option maxHeartbeats 4000000 in
theorem loc10m_X8_has {P : Nat → Prop} {ZB : jZ} {IB : jI} {LB : jL} {v0 : Nat} {v1 : Int32} {Z : jZ} {I : jI} {L : jL} {Q1 Q2 : Int32 → jI → jL → Prop} (d10 : DN8 P ZB v0) (kp : KP P ZB IB LB Z I L) (h1 : f_X8_has v0 v1 Z I L Q1) (hq : ∀ (x0 : Int32) (x1 : jI) (x2 : jL), KP P ZB IB LB Z x1 x2 → Q1 x0 x1 x2 → Q2 x0 x1 x2) : f_X8_has v0 v1 Z I L Q2 := by
  unfold f_X8_has at h1 ⊢
  refine ⟨fun c => ?_, fun c => ?_⟩
  · have h1 := h1.1 c
    exact hq _ _ _ kp h1
  · have h1 := h1.2 c
    refine ⟨fun c => ?_, fun c => ?_⟩
    · have h1 := h1.1 c
      exact hq _ _ _ kp h1
    · have h1 := h1.2 c
      refine ⟨fun c => ?_, fun c => ?_⟩
      · have h1 := h1.1 c
        exact hq _ _ _ kp h1
      · have h1 := h1.2 c
        exact hq _ _ _ kp h1
set_option maxHeartbeats 4000000 in
theorem loc10m_X3_isTold {P : Nat → Prop} {ZB : jZ} {IB : jI} {LB : jL} {v0 : Nat} {Z : jZ} {I : jI} {L : jL} {Q1 Q2 : Int32 → jI → jL → Prop} (d11 : DN3 P ZB v0) (kp : KP P ZB IB LB Z I L) (h1 : f_X3_isTold v0 Z I L Q1) (hq : ∀ (x0 : Int32) (x1 : jI) (x2 : jL), KP P ZB IB LB Z x1 x2 → Q1 x0 x1 x2 → Q2 x0 x1 x2) : f_X3_isTold v0 Z I L Q2 := by
  unfold f_X3_isTold at h1 ⊢
  refine ⟨fun c => ?_, fun c => ?_⟩
  · have h1 := h1.1 c
    exact hq _ _ _ kp h1
  · have h1 := h1.2 c
    exact hq _ _ _ kp h1
set_option maxHeartbeats 4000000 in
theorem loc10m_X4_mainOf {P : Nat → Prop} {ZB : jZ} {IB : jI} {LB : jL} {v0 : Nat} {v1 : Int32} {Z : jZ} {I : jI} {L : jL} {Q1 Q2 : Int32 → jI → jL → Prop} (d25 : DN4 P ZB v0) (kp : KP P ZB IB LB Z I L) (h1 : f_X4_mainOf v0 v1 Z I L Q1) (hq : ∀ (x0 : Int32) (x1 : jI) (x2 : jL), KP P ZB IB LB Z x1 x2 → Q1 x0 x1 x2 → Q2 x0 x1 x2) : f_X4_mainOf v0 v1 Z I L Q2 := by
  unfold f_X4_mainOf at h1 ⊢
  refine ⟨fun c => ?_, fun c => ?_⟩
  · have h1 := h1.1 c
    exact hq _ _ _ kp h1
  · have h1 := h1.2 c
    refine ⟨fun c => ?_, fun c => ?_⟩
    · have h1 := h1.1 c
      exact hq _ _ _ kp h1
    · have h1 := h1.2 c
      intro b3 eb3
      have h1 := h1 b3 eb3
      have d26 := dn_4 d25 kp (by decide) eb3
      refine ⟨h1.1, ?_⟩
      have h1 := h1.2
      exact hq _ _ _ kp h1
set_option maxHeartbeats 4000000 in
theorem loc10m_X8_inFeud {P : Nat → Prop} {ZB : jZ} {IB : jI} {LB : jL} {v0 : Nat} {v1 : Int32} {v2 : Int32} {Z : jZ} {I : jI} {L : jL} {Q1 Q2 : Int32 → jI → jL → Prop} (d28 : DN8 P ZB v0) (kp : KP P ZB IB LB Z I L) (h1 : f_X8_inFeud v0 v1 v2 Z I L Q1) (hq : ∀ (x0 : Int32) (x1 : jI) (x2 : jL), KP P ZB IB LB Z x1 x2 → Q1 x0 x1 x2 → Q2 x0 x1 x2) : f_X8_inFeud v0 v1 v2 Z I L Q2 := by
  unfold f_X8_inFeud at h1 ⊢
  refine ⟨fun c => ?_, fun c => ?_⟩
  · have h1 := h1.1 c
    exact hq _ _ _ kp h1
  · have h1 := h1.2 c
    refine ⟨fun c => ?_, fun c => ?_⟩
    · have h1 := h1.1 c
      exact hq _ _ _ kp h1
    · have h1 := h1.2 c
      intro b3 eb3
      have h1 := h1 b3 eb3
      have d29 := dn_8 d28 kp (by decide) eb3
      refine ⟨h1.1, ?_⟩
      have h1 := h1.2
      refine ⟨fun c => ?_, fun c => ?_⟩
      · have h1 := h1.1 c
        exact hq _ _ _ kp h1
      · have h1 := h1.2 c
        exact hq _ _ _ kp h1
set_option maxHeartbeats 4000000 in
theorem loc10m_X8_putLetters {P : Nat → Prop} {ZB : jZ} {IB : jI} {LB : jL} {v0 : Nat} {v1 : Int32} {v2 : Int32} {v3 : Int32} {v4 : Int32} {Z : jZ} {I : jI} {L : jL} {Q1 Q2 : jI → jL → Prop} (d12 : DN8 P ZB v0) (kp : KP P ZB IB LB Z I L) (h1 : f_X8_putLetters v0 v1 v2 v3 v4 Z I L Q1) (hq : ∀ (x0 : jI) (x1 : jL), KP P ZB IB LB Z x0 x1 → Q1 x0 x1 → Q2 x0 x1) : f_X8_putLetters v0 v1 v2 v3 v4 Z I L Q2 := by
  unfold f_X8_putLetters at h1 ⊢
  refine loc10m_X8_has d12 kp h1 (fun r13 I9 L10 kp h1 => ?_)
  refine ⟨fun c => ?_, fun c => ?_⟩
  · have h1 := h1.1 c
    intro b15 eb15
    have h1 := h1 b15 eb15
    have d13 := dn_8 d12 kp (by decide) eb15
    intro b16 eb16
    have h1 := h1 b16 eb16
    have d14 := dn_8 d12 kp (by decide) eb16
    refine ⟨h1.1, ?_⟩
    have h1 := h1.2
    intro I18 eI18
    have h1 := h1 I18 eI18
    have kp := KP.wI kp d13 eI18
    intro b19 eb19
    have h1 := h1 b19 eb19
    have d15 := dn_8 d12 kp (by decide) eb19
    intro b20 eb20
    have h1 := h1 b20 eb20
    have d16 := dn_8 d12 kp (by decide) eb20
    refine ⟨h1.1, ?_⟩
    have h1 := h1.2
    intro I22 eI22
    have h1 := h1 I22 eI22
    have kp := KP.wI kp d15 eI22
    intro b23 eb23
    have h1 := h1 b23 eb23
    have d17 := dn_8 d12 kp (by decide) eb23
    intro b24 eb24
    have h1 := h1 b24 eb24
    have d18 := dn_8 d12 kp (by decide) eb24
    refine ⟨h1.1, ?_⟩
    have h1 := h1.2
    intro I26 eI26
    have h1 := h1 I26 eI26
    have kp := KP.wI kp d17 eI26
    intro b27 eb27
    have h1 := h1 b27 eb27
    have d19 := dn_8 d12 kp (by decide) eb27
    intro b28 eb28
    have h1 := h1 b28 eb28
    have d20 := dn_8 d12 kp (by decide) eb28
    refine ⟨h1.1, ?_⟩
    have h1 := h1.2
    intro I30 eI30
    have h1 := h1 I30 eI30
    have kp := KP.wI kp d19 eI30
    intro b31 eb31
    have h1 := h1 b31 eb31
    have d21 := dn_8 d12 kp (by decide) eb31
    refine loc10m_X8_has d12 kp h1 (fun r38 I34 L35 kp h1 => ?_)
    refine ⟨fun c => ?_, fun c => ?_⟩
    · have h1 := h1.1 c
      unfold f_X8_putLetters_b97 at h1 ⊢
      unfold f_X8_putLetters_b98 at h1 ⊢
      refine ⟨h1.1, ?_⟩
      have h1 := h1.2
      intro I2 eI2
      have h1 := h1 I2 eI2
      have kp := KP.wI kp d21 eI2
      intro b3 eb3
      have h1 := h1 b3 eb3
      have d22 := dn_8 d12 kp (by decide) eb3
      intro I4 eI4
      have h1 := h1 I4 eI4
      have kp := KP.wI kp d22 eI4
      intro b5 eb5
      have h1 := h1 b5 eb5
      have d23 := dn_8 d12 kp (by decide) eb5
      intro I6 eI6
      have h1 := h1 I6 eI6
      have kp := KP.wI kp d23 eI6
      exact hq _ _ kp h1
    · have h1 := h1.2 c
      intro b40 eb40
      have h1 := h1 b40 eb40
      have d24 := dn_8_4 d12 kp eb40
      refine loc10m_X4_mainOf d24 kp h1 (fun r47 I43 L44 kp h1 => ?_)
      intro b48 eb48
      have h1 := h1 b48 eb48
      have d27 := dn_8_4 d12 kp eb48
      refine loc10m_X4_mainOf d27 kp h1 (fun r55 I51 L52 kp h1 => ?_)
      refine loc10m_X8_inFeud d12 kp h1 (fun r62 I58 L59 kp h1 => ?_)
      refine ⟨fun c => ?_, fun c => ?_⟩
      · have h1 := h1.1 c
        unfold f_X8_putLetters_b97 at h1 ⊢
        unfold f_X8_putLetters_b98 at h1 ⊢
        refine ⟨h1.1, ?_⟩
        have h1 := h1.2
        intro I2 eI2
        have h1 := h1 I2 eI2
        have kp := KP.wI kp d21 eI2
        intro b3 eb3
        have h1 := h1 b3 eb3
        have d30 := dn_8 d12 kp (by decide) eb3
        intro I4 eI4
        have h1 := h1 I4 eI4
        have kp := KP.wI kp d30 eI4
        intro b5 eb5
        have h1 := h1 b5 eb5
        have d31 := dn_8 d12 kp (by decide) eb5
        intro I6 eI6
        have h1 := h1 I6 eI6
        have kp := KP.wI kp d31 eI6
        exact hq _ _ kp h1
      · have h1 := h1.2 c
        unfold f_X8_putLetters_b98 at h1 ⊢
        refine ⟨h1.1, ?_⟩
        have h1 := h1.2
        intro I2 eI2
        have h1 := h1 I2 eI2
        have kp := KP.wI kp d21 eI2
        intro b3 eb3
        have h1 := h1 b3 eb3
        have d32 := dn_8 d12 kp (by decide) eb3
        intro I4 eI4
        have h1 := h1 I4 eI4
        have kp := KP.wI kp d32 eI4
        intro b5 eb5
        have h1 := h1 b5 eb5
        have d33 := dn_8 d12 kp (by decide) eb5
        intro I6 eI6
        have h1 := h1 I6 eI6
        have kp := KP.wI kp d33 eI6
        exact hq _ _ kp h1
  · have h1 := h1.2 c
    exact hq _ _ kp h1
set_option maxHeartbeats 4000000 in
theorem loc10m_X3_join {P : Nat → Prop} {ZB : jZ} {IB : jI} {LB : jL} {v0 : Int32} {v1 : Int32} {v2 : Int32} {Z : jZ} {I : jI} {L : jL} {Q1 Q2 : Int32 → jI → jL → Prop} (kp : KP P ZB IB LB Z I L) (h1 : f_X3_join v0 v1 v2 Z I L Q1) (hq : ∀ (x0 : Int32) (x1 : jI) (x2 : jL), KP P ZB IB LB Z x1 x2 → Q1 x0 x1 x2 → Q2 x0 x1 x2) : f_X3_join v0 v1 v2 Z I L Q2 := by
  unfold f_X3_join at h1 ⊢
  refine ⟨fun c => ?_, fun c => ?_⟩
  · have h1 := h1.1 c
    exact hq _ _ _ kp h1
  · have h1 := h1.2 c
    refine ⟨fun c => ?_, fun c => ?_⟩
    · have h1 := h1.1 c
      exact hq _ _ _ kp h1
    · have h1 := h1.2 c
      refine ⟨fun c => ?_, fun c => ?_⟩
      · have h1 := h1.1 c
        exact hq _ _ _ kp h1
      · have h1 := h1.2 c
        refine ⟨fun c => ?_, fun c => ?_⟩
        · have h1 := h1.1 c
          refine ⟨fun c => ?_, fun c => ?_⟩
          · have h1 := h1.1 c
            exact hq _ _ _ kp h1
          · have h1 := h1.2 c
            exact hq _ _ _ kp h1
        · have h1 := h1.2 c
          refine ⟨fun c => ?_, fun c => ?_⟩
          · have h1 := h1.1 c
            refine ⟨fun c => ?_, fun c => ?_⟩
            · have h1 := h1.1 c
              exact hq _ _ _ kp h1
            · have h1 := h1.2 c
              exact hq _ _ _ kp h1
          · have h1 := h1.2 c
            refine ⟨fun c => ?_, fun c => ?_⟩
            · have h1 := h1.1 c
              refine ⟨fun c => ?_, fun c => ?_⟩
              · have h1 := h1.1 c
                exact hq _ _ _ kp h1
              · have h1 := h1.2 c
                exact hq _ _ _ kp h1
            · have h1 := h1.2 c
              refine ⟨fun c => ?_, fun c => ?_⟩
              · have h1 := h1.1 c
                refine ⟨h1.1, ?_⟩
                have h1 := h1.2
                exact hq _ _ _ kp h1
              · have h1 := h1.2 c
                exact hq _ _ _ kp h1
set_option maxHeartbeats 4000000 in
theorem loc10m_X3_priceFor_L4 {P : Nat → Prop} {ZB : jZ} {IB : jI} {LB : jL} {Z : jZ} {Q1 Q2 : Int32 → jI → jL → Prop} (hq : ∀ (x0 : Int32) (x1 : jI) (x2 : jL), KP P ZB IB LB Z x1 x2 → Q1 x0 x1 x2 → Q2 x0 x1 x2) : ∀ (n : Nat) (v0 : Nat) (v1 : Nat) (v2 : Int32) (v3 : Int32) (I : jI) (L : jL), DN3 P ZB v0 → ¬ P v1 → KP P ZB IB LB Z I L → f_X3_priceFor_L4 Z Q1 n v0 v1 v2 v3 I L → f_X3_priceFor_L4 Z Q2 n v0 v1 v2 v3 I L := by
  intro n
  induction n with
  | zero => intro v0 v1 v2 v3 I L d37 d38 kp h1; exact h1.elim
  | succ n ih =>
    intro v0 v1 v2 v3 I L d37 d38 kp h1
    unfold f_X3_priceFor_L4 at h1 ⊢
    refine ⟨fun c => ?_, fun c => ?_⟩
    · have h1 := h1.1 c
      unfold f_X3_priceFor_b156 at h1 ⊢
      refine ⟨fun c => ?_, fun c => ?_⟩
      · have h1 := h1.1 c
        intro b2 eb2
        have h1 := h1 b2 eb2
        have d39 := dn_3 d37 kp (by decide) eb2
        refine ⟨h1.1, ?_⟩
        have h1 := h1.2
        exact hq _ _ _ kp h1
      · have h1 := h1.2 c
        exact hq _ _ _ kp h1
    · have h1 := h1.2 c
      refine ⟨fun c => ?_, fun c => ?_⟩
      · have h1 := h1.1 c
        unfold f_X3_priceFor_b156 at h1 ⊢
        refine ⟨fun c => ?_, fun c => ?_⟩
        · have h1 := h1.1 c
          intro b2 eb2
          have h1 := h1 b2 eb2
          have d40 := dn_3 d37 kp (by decide) eb2
          refine ⟨h1.1, ?_⟩
          have h1 := h1.2
          exact hq _ _ _ kp h1
        · have h1 := h1.2 c
          exact hq _ _ _ kp h1
      · have h1 := h1.2 c
        intro b26 eb26
        have h1 := h1 b26 eb26
        have d41 := dn_3 d37 kp (by decide) eb26
        refine ⟨h1.1, ?_⟩
        have h1 := h1.2
        intro x28 ex28
        have h1 := h1 x28 ex28
        refine ⟨fun c => ?_, fun c => ?_⟩
        · have h1 := h1.1 c
          refine ⟨fun c => ?_, fun c => ?_⟩
          · have h1 := h1.1 c
            unfold f_X3_priceFor_b111 at h1 ⊢
            refine ⟨fun c => ?_, fun c => ?_⟩
            · have h1 := h1.1 c
              unfold f_X3_priceFor_b150 at h1 ⊢
              intro x4 ex4
              have h1 := h1 x4 ex4
              exact ih _ _ _ _ _ _ d37 d38 kp h1
            · have h1 := h1.2 c
              intro x6 ex6
              have h1 := h1 x6 ex6
              intro b7 eb7
              have h1 := h1 b7 eb7
              have d42 := dn_3 d37 kp (by decide) eb7
              intro b8 eb8
              have h1 := h1 b8 eb8
              have d43 := dn_3 d37 kp (by decide) eb8
              refine ⟨h1.1, ?_⟩
              have h1 := h1.2
              intro b10 eb10
              have h1 := h1 b10 eb10
              have d44 := dn_3 d37 kp (by decide) eb10
              refine ⟨h1.1, ?_⟩
              have h1 := h1.2
              refine loc10m_X3_join  kp h1 (fun r18 I14 L15 kp h1 => ?_)
              refine ⟨h1.1, ?_⟩
              have h1 := h1.2
              intro I20 eI20
              have h1 := h1 I20 eI20
              have kp := KP.wI kp d42 eI20
              unfold f_X3_priceFor_b150 at h1 ⊢
              intro x4 ex4
              have h1 := h1 x4 ex4
              exact ih _ _ _ _ _ _ d37 d38 kp h1
          · have h1 := h1.2 c
            refine ⟨fun c => ?_, fun c => ?_⟩
            · have h1 := h1.1 c
              unfold f_X3_priceFor_b111 at h1 ⊢
              refine ⟨fun c => ?_, fun c => ?_⟩
              · have h1 := h1.1 c
                unfold f_X3_priceFor_b150 at h1 ⊢
                intro x4 ex4
                have h1 := h1 x4 ex4
                exact ih _ _ _ _ _ _ d37 d38 kp h1
              · have h1 := h1.2 c
                intro x6 ex6
                have h1 := h1 x6 ex6
                intro b7 eb7
                have h1 := h1 b7 eb7
                have d45 := dn_3 d37 kp (by decide) eb7
                intro b8 eb8
                have h1 := h1 b8 eb8
                have d46 := dn_3 d37 kp (by decide) eb8
                refine ⟨h1.1, ?_⟩
                have h1 := h1.2
                intro b10 eb10
                have h1 := h1 b10 eb10
                have d47 := dn_3 d37 kp (by decide) eb10
                refine ⟨h1.1, ?_⟩
                have h1 := h1.2
                refine loc10m_X3_join  kp h1 (fun r18 I14 L15 kp h1 => ?_)
                refine ⟨h1.1, ?_⟩
                have h1 := h1.2
                intro I20 eI20
                have h1 := h1 I20 eI20
                have kp := KP.wI kp d45 eI20
                unfold f_X3_priceFor_b150 at h1 ⊢
                intro x4 ex4
                have h1 := h1 x4 ex4
                exact ih _ _ _ _ _ _ d37 d38 kp h1
            · have h1 := h1.2 c
              intro b32 eb32
              have h1 := h1 b32 eb32
              have d48 := dn_3 d37 kp (by decide) eb32
              intro b33 eb33
              have h1 := h1 b33 eb33
              have d49 := dn_3 d37 kp (by decide) eb33
              refine ⟨h1.1, ?_⟩
              have h1 := h1.2
              refine ⟨h1.1, ?_⟩
              have h1 := h1.2
              intro I36 eI36
              have h1 := h1 I36 eI36
              have kp := KP.wI kp d48 eI36
              unfold f_X3_priceFor_b150 at h1 ⊢
              intro x4 ex4
              have h1 := h1 x4 ex4
              exact ih _ _ _ _ _ _ d37 d38 kp h1
        · have h1 := h1.2 c
          intro x37 ex37
          have h1 := h1 x37 ex37
          intro b38 eb38
          have h1 := h1 b38 eb38
          have d50 := dn_3 d37 kp (by decide) eb38
          refine ⟨fun c => ?_, fun c => ?_⟩
          · have h1 := h1.1 c
            refine ⟨fun c => ?_, fun c => ?_⟩
            · have h1 := h1.1 c
              unfold f_X3_priceFor_b72 at h1 ⊢
              refine ⟨h1.1, ?_⟩
              have h1 := h1.2
              intro I22 eI22
              have h1 := h1 I22 eI22
              have kp := KP.wI kp d50 eI22
              intro x23 ex23
              have h1 := h1 x23 ex23
              unfold f_X3_priceFor_b150 at h1 ⊢
              intro x4 ex4
              have h1 := h1 x4 ex4
              exact ih _ _ _ _ _ _ d37 d38 kp h1
            · have h1 := h1.2 c
              refine ⟨h1.1, ?_⟩
              have h1 := h1.2
              unfold f_X3_priceFor_b72 at h1 ⊢
              refine ⟨h1.1, ?_⟩
              have h1 := h1.2
              intro I22 eI22
              have h1 := h1 I22 eI22
              have kp := KP.wI kp d50 eI22
              intro x23 ex23
              have h1 := h1 x23 ex23
              unfold f_X3_priceFor_b150 at h1 ⊢
              intro x4 ex4
              have h1 := h1 x4 ex4
              exact ih _ _ _ _ _ _ d37 d38 kp h1
          · have h1 := h1.2 c
            unfold f_X3_priceFor_b72 at h1 ⊢
            refine ⟨h1.1, ?_⟩
            have h1 := h1.2
            intro I22 eI22
            have h1 := h1 I22 eI22
            have kp := KP.wI kp d50 eI22
            intro x23 ex23
            have h1 := h1 x23 ex23
            unfold f_X3_priceFor_b150 at h1 ⊢
            intro x4 ex4
            have h1 := h1 x4 ex4
            exact ih _ _ _ _ _ _ d37 d38 kp h1
set_option maxHeartbeats 4000000 in
theorem loc10m_X3_priceFor {P : Nat → Prop} {ZB : jZ} {IB : jI} {LB : jL} {v0 : Nat} {v1 : Nat} {Z : jZ} {I : jI} {L : jL} {Q1 Q2 : Int32 → jI → jL → Prop} (d35 : DN3 P ZB v0) (d36 : ¬ P v1) (kp : KP P ZB IB LB Z I L) (h1 : f_X3_priceFor v0 v1 Z I L Q1) (hq : ∀ (x0 : Int32) (x1 : jI) (x2 : jL), KP P ZB IB LB Z x1 x2 → Q1 x0 x1 x2 → Q2 x0 x1 x2) : f_X3_priceFor v0 v1 Z I L Q2 := by
  unfold f_X3_priceFor at h1 ⊢
  obtain ⟨n1, h1⟩ := h1
  exact ⟨n1, loc10m_X3_priceFor_L4  hq n1 _ _ _ _ _ _ d35 d36 kp h1⟩
set_option maxHeartbeats 4000000 in
theorem loc10m_X8_priceOf {P : Nat → Prop} {ZB : jZ} {IB : jI} {LB : jL} {v0 : Nat} {v1 : Int32} {v2 : Int32} {v3 : Int32} {v4 : Int32} {v5 : Int32} {Z : jZ} {I : jI} {L : jL} {Q1 Q2 : Int32 → jI → jL → Prop} (d8 : DN8 P ZB v0) (kp : KP P ZB IB LB Z I L) (h1 : f_X8_priceOf v0 v1 v2 v3 v4 v5 Z I L Q1) (hq : ∀ (x0 : Int32) (x1 : jI) (x2 : jL), KP P ZB IB LB Z x1 x2 → Q1 x0 x1 x2 → Q2 x0 x1 x2) : f_X8_priceOf v0 v1 v2 v3 v4 v5 Z I L Q2 := by
  unfold f_X8_priceOf at h1 ⊢
  refine ⟨fun c => ?_, fun c => ?_⟩
  · have h1 := h1.1 c
    intro b38 eb38
    have h1 := h1 b38 eb38
    have d9 := dn_8_3 d8 kp (by decide) eb38
    unfold f_X8_priceOf_b15 at h1 ⊢
    refine loc10m_X8_has d8 kp h1 (fun r7 I3 L4 kp h1 => ?_)
    refine ⟨fun c => ?_, fun c => ?_⟩
    · have h1 := h1.1 c
      refine loc10m_X3_isTold d9 kp h1 (fun r15 I11 L12 kp h1 => ?_)
      refine ⟨fun c => ?_, fun c => ?_⟩
      · have h1 := h1.1 c
        refine loc10m_X8_putLetters d8 kp h1 (fun I19 L20 kp h1 => ?_)
        intro b23 eb23
        have h1 := h1 b23 eb23
        have d34 := dn_8 d8 kp (by decide) eb23
        refine loc10m_X3_priceFor d9 d34 kp h1 (fun r30 I26 L27 kp h1 => ?_)
        exact hq _ _ _ kp h1
      · have h1 := h1.2 c
        refine ⟨fun c => ?_, fun c => ?_⟩
        · have h1 := h1.1 c
          exact hq _ _ _ kp h1
        · have h1 := h1.2 c
          intro b32 eb32
          have h1 := h1 b32 eb32
          have d51 := dn_8 d8 kp (by decide) eb32
          refine ⟨h1.1, ?_⟩
          have h1 := h1.2
          refine ⟨fun c => ?_, fun c => ?_⟩
          · have h1 := h1.1 c
            exact hq _ _ _ kp h1
          · have h1 := h1.2 c
            intro b35 eb35
            have h1 := h1 b35 eb35
            have d52 := dn_8 d8 kp (by decide) eb35
            refine ⟨h1.1, ?_⟩
            have h1 := h1.2
            exact hq _ _ _ kp h1
    · have h1 := h1.2 c
      exact hq _ _ _ kp h1
  · have h1 := h1.2 c
    intro b39 eb39
    have h1 := h1 b39 eb39
    have d53 := dn_8_3 d8 kp (by decide) eb39
    unfold f_X8_priceOf_b15 at h1 ⊢
    refine loc10m_X8_has d8 kp h1 (fun r7 I3 L4 kp h1 => ?_)
    refine ⟨fun c => ?_, fun c => ?_⟩
    · have h1 := h1.1 c
      refine loc10m_X3_isTold d53 kp h1 (fun r15 I11 L12 kp h1 => ?_)
      refine ⟨fun c => ?_, fun c => ?_⟩
      · have h1 := h1.1 c
        refine loc10m_X8_putLetters d8 kp h1 (fun I19 L20 kp h1 => ?_)
        intro b23 eb23
        have h1 := h1 b23 eb23
        have d54 := dn_8 d8 kp (by decide) eb23
        refine loc10m_X3_priceFor d53 d54 kp h1 (fun r30 I26 L27 kp h1 => ?_)
        exact hq _ _ _ kp h1
      · have h1 := h1.2 c
        refine ⟨fun c => ?_, fun c => ?_⟩
        · have h1 := h1.1 c
          exact hq _ _ _ kp h1
        · have h1 := h1.2 c
          intro b32 eb32
          have h1 := h1 b32 eb32
          have d55 := dn_8 d8 kp (by decide) eb32
          refine ⟨h1.1, ?_⟩
          have h1 := h1.2
          refine ⟨fun c => ?_, fun c => ?_⟩
          · have h1 := h1.1 c
            exact hq _ _ _ kp h1
          · have h1 := h1.2 c
            intro b35 eb35
            have h1 := h1 b35 eb35
            have d56 := dn_8 d8 kp (by decide) eb35
            refine ⟨h1.1, ?_⟩
            have h1 := h1.2
            exact hq _ _ _ kp h1
    · have h1 := h1.2 c
      exact hq _ _ _ kp h1
set_option maxHeartbeats 4000000 in
theorem loc10m_X8_costOfMove_L24 {P : Nat → Prop} {ZB : jZ} {IB : jI} {LB : jL} {Z : jZ} {Q1 Q2 : Int32 → jI → jL → Prop} (hq : ∀ (x0 : Int32) (x1 : jI) (x2 : jL), KP P ZB IB LB Z x1 x2 → Q1 x0 x1 x2 → Q2 x0 x1 x2) : ∀ (n : Nat) (v0 : Nat) (v1 : Int32) (v2 : Int32) (v3 : Int32) (v4 : Int32) (v5 : Int32) (v6 : Int32) (I : jI) (L : jL), DN8 P ZB v0 → KP P ZB IB LB Z I L → f_X8_costOfMove_L24 Z Q1 n v0 v1 v2 v3 v4 v5 v6 I L → f_X8_costOfMove_L24 Z Q2 n v0 v1 v2 v3 v4 v5 v6 I L := by
  intro n
  induction n with
  | zero => intro v0 v1 v2 v3 v4 v5 v6 I L d57 kp h1; exact h1.elim
  | succ n ih =>
    intro v0 v1 v2 v3 v4 v5 v6 I L d57 kp h1
    unfold f_X8_costOfMove_L24 at h1 ⊢
    refine ⟨fun c => ?_, fun c => ?_⟩
    · have h1 := h1.1 c
      exact hq _ _ _ kp h1
    · have h1 := h1.2 c
      refine loc10m_X8_priceOf d57 kp h1 (fun r8 I4 L5 kp h1 => ?_)
      intro x9 ex9
      have h1 := h1 x9 ex9
      intro x10 ex10
      have h1 := h1 x10 ex10
      exact ih _ _ _ _ _ _ _ _ _ d57 kp h1
set_option maxHeartbeats 4000000 in
theorem loc10m_X8_costOfMove {P : Nat → Prop} {ZB : jZ} {IB : jI} {LB : jL} {v0 : Nat} {v1 : Int32} {v2 : Int32} {v3 : Int32} {Z : jZ} {I : jI} {L : jL} {Q1 Q2 : Int32 → jI → jL → Prop} (d7 : DN8 P ZB v0) (kp : KP P ZB IB LB Z I L) (h1 : f_X8_costOfMove v0 v1 v2 v3 Z I L Q1) (hq : ∀ (x0 : Int32) (x1 : jI) (x2 : jL), KP P ZB IB LB Z x1 x2 → Q1 x0 x1 x2 → Q2 x0 x1 x2) : f_X8_costOfMove v0 v1 v2 v3 Z I L Q2 := by
  unfold f_X8_costOfMove at h1 ⊢
  intro x11 ex11
  have h1 := h1 x11 ex11
  refine loc10m_X8_priceOf d7 kp h1 (fun r18 I14 L15 kp h1 => ?_)
  intro x19 ex19
  have h1 := h1 x19 ex19
  obtain ⟨n1, h1⟩ := h1
  exact ⟨n1, loc10m_X8_costOfMove_L24  hq n1 _ _ _ _ _ _ _ _ _ d7 kp h1⟩
set_option maxHeartbeats 4000000 in
theorem loc10m_X8_effortOfMove_L8 {P : Nat → Prop} {ZB : jZ} {IB : jI} {LB : jL} {Z : jZ} {Q1 Q2 : Int32 → jI → jL → Prop} (hq : ∀ (x0 : Int32) (x1 : jI) (x2 : jL), KP P ZB IB LB Z x1 x2 → Q1 x0 x1 x2 → Q2 x0 x1 x2) : ∀ (n : Nat) (v0 : Nat) (v1 : Int32) (v2 : Int32) (v3 : Int32) (v4 : Int32) (v5 : Int32) (I : jI) (L : jL), DN8 P ZB v0 → KP P ZB IB LB Z I L → f_X8_effortOfMove_L8 Z Q1 n v0 v1 v2 v3 v4 v5 I L → f_X8_effortOfMove_L8 Z Q2 n v0 v1 v2 v3 v4 v5 I L := by
  intro n
  induction n with
  | zero => intro v0 v1 v2 v3 v4 v5 I L d61 kp h1; exact h1.elim
  | succ n ih =>
    intro v0 v1 v2 v3 v4 v5 I L d61 kp h1
    unfold f_X8_effortOfMove_L8 at h1 ⊢
    refine ⟨fun c => ?_, fun c => ?_⟩
    · have h1 := h1.1 c
      refine loc10m_X8_has d61 kp h1 (fun r10 I6 L7 kp h1 => ?_)
      refine ⟨fun c => ?_, fun c => ?_⟩
      · have h1 := h1.1 c
        unfold f_X8_effortOfMove_b66 at h1 ⊢
        exact hq _ _ _ kp h1
      · have h1 := h1.2 c
        intro b12 eb12
        have h1 := h1 b12 eb12
        have d62 := dn_8 d61 kp (by decide) eb12
        refine ⟨h1.1, ?_⟩
        have h1 := h1.2
        unfold f_X8_effortOfMove_b66 at h1 ⊢
        exact hq _ _ _ kp h1
    · have h1 := h1.2 c
      refine loc10m_X8_has d61 kp h1 (fun r20 I16 L17 kp h1 => ?_)
      refine ⟨fun c => ?_, fun c => ?_⟩
      · have h1 := h1.1 c
        unfold f_X8_effortOfMove_b36 at h1 ⊢
        intro x1 ex1
        have h1 := h1 x1 ex1
        intro x2 ex2
        have h1 := h1 x2 ex2
        exact ih _ _ _ _ _ _ _ _ d61 kp h1
      · have h1 := h1.2 c
        intro b22 eb22
        have h1 := h1 b22 eb22
        have d63 := dn_8 d61 kp (by decide) eb22
        refine ⟨h1.1, ?_⟩
        have h1 := h1.2
        unfold f_X8_effortOfMove_b36 at h1 ⊢
        intro x1 ex1
        have h1 := h1 x1 ex1
        intro x2 ex2
        have h1 := h1 x2 ex2
        exact ih _ _ _ _ _ _ _ _ d61 kp h1
set_option maxHeartbeats 4000000 in
theorem loc10m_X8_effortOfMove {P : Nat → Prop} {ZB : jZ} {IB : jI} {LB : jL} {v0 : Nat} {v1 : Int32} {v2 : Int32} {v3 : Int32} {Z : jZ} {I : jI} {L : jL} {Q1 Q2 : Int32 → jI → jL → Prop} (d60 : DN8 P ZB v0) (kp : KP P ZB IB LB Z I L) (h1 : f_X8_effortOfMove v0 v1 v2 v3 Z I L Q1) (hq : ∀ (x0 : Int32) (x1 : jI) (x2 : jL), KP P ZB IB LB Z x1 x2 → Q1 x0 x1 x2 → Q2 x0 x1 x2) : f_X8_effortOfMove v0 v1 v2 v3 Z I L Q2 := by
  unfold f_X8_effortOfMove at h1 ⊢
  intro x24 ex24
  have h1 := h1 x24 ex24
  obtain ⟨n1, h1⟩ := h1
  exact ⟨n1, loc10m_X8_effortOfMove_L8  hq n1 _ _ _ _ _ _ _ _ d60 kp h1⟩
set_option maxHeartbeats 4000000 in
theorem loc10m_X6_measure_L22 {P : Nat → Prop} {ZB : jZ} {IB : jI} {LB : jL} {Z : jZ} {K6 K6b : Nat → Int32 → Int32 → jI → jL → Prop} {Q1 Q2 : jI → jL → Prop} (hK6 : ∀ (x0 : Nat) (x1 : Int32) (x2 : Int32) (x3 : jI) (x4 : jL), DN10 P ZB x0 → KP P ZB IB LB Z x3 x4 → K6 x0 x1 x2 x3 x4 → K6b x0 x1 x2 x3 x4) (hq : ∀ (x0 : jI) (x1 : jL), KP P ZB IB LB Z x0 x1 → Q1 x0 x1 → Q2 x0 x1) : ∀ (n : Nat) (v0 : Nat) (v2 : Int32) (v3 : Int32) (v4 : Int32) (I : jI) (L : jL), DN10 P ZB v0 → KP P ZB IB LB Z I L → f_X6_measure_L22 K6 Z Q1 n v0 v2 v3 v4 I L → f_X6_measure_L22 K6b Z Q2 n v0 v2 v3 v4 I L := by
  intro n
  induction n with
  | zero => intro v0 v2 v3 v4 I L d3 kp h1; exact h1.elim
  | succ n ih =>
    intro v0 v2 v3 v4 I L d3 kp h1
    unfold f_X6_measure_L22 at h1 ⊢
    refine ⟨fun c => ?_, fun c => ?_⟩
    · have h1 := h1.1 c
      unfold f_X6_measure_b114 at h1 ⊢
      intro x1 ex1
      have h1 := h1 x1 ex1
      exact hK6 _ _ _ _ _ d3 kp h1
    · have h1 := h1.2 c
      refine ⟨fun c => ?_, fun c => ?_⟩
      · have h1 := h1.1 c
        unfold f_X6_measure_b114 at h1 ⊢
        intro x1 ex1
        have h1 := h1 x1 ex1
        exact hK6 _ _ _ _ _ d3 kp h1
      · have h1 := h1.2 c
        intro b4 eb4
        have h1 := h1 b4 eb4
        have d4 := dn_10 d3 kp (by decide) eb4
        refine ⟨h1.1, ?_⟩
        have h1 := h1.2
        refine ⟨fun c => ?_, fun c => ?_⟩
        · have h1 := h1.1 c
          unfold f_X6_measure_b114 at h1 ⊢
          intro x1 ex1
          have h1 := h1 x1 ex1
          exact hK6 _ _ _ _ _ d3 kp h1
        · have h1 := h1.2 c
          refine loc10m_X6_moveTo  kp h1 (fun r13 I9 L10 kp h1 => ?_)
          intro b14 eb14
          have h1 := h1 b14 eb14
          have d5 := dn_10 d3 kp (by decide) eb14
          intro b15 eb15
          have h1 := h1 b15 eb15
          have d6 := dn_10_8 d3 kp eb15
          refine loc10m_X8_costOfMove d6 kp h1 (fun r22 I18 L19 kp h1 => ?_)
          refine ⟨h1.1, ?_⟩
          have h1 := h1.2
          intro I24 eI24
          have h1 := h1 I24 eI24
          have kp := KP.wI kp d5 eI24
          intro b25 eb25
          have h1 := h1 b25 eb25
          have d58 := dn_10 d3 kp (by decide) eb25
          intro b26 eb26
          have h1 := h1 b26 eb26
          have d59 := dn_10_8 d3 kp eb26
          refine loc10m_X8_effortOfMove d59 kp h1 (fun r33 I29 L30 kp h1 => ?_)
          refine ⟨h1.1, ?_⟩
          have h1 := h1.2
          intro I35 eI35
          have h1 := h1 I35 eI35
          have kp := KP.wI kp d58 eI35
          intro x36 ex36
          have h1 := h1 x36 ex36
          exact ih _ _ _ _ _ _ d3 kp h1
set_option maxHeartbeats 4000000 in
theorem loc10m_X6_measure_L6 {P : Nat → Prop} {ZB : jZ} {IB : jI} {LB : jL} {Z : jZ} {Q1 Q2 : jI → jL → Prop} (hq : ∀ (x0 : jI) (x1 : jL), KP P ZB IB LB Z x0 x1 → Q1 x0 x1 → Q2 x0 x1) : ∀ (n : Nat) (v0 : Nat) (v2 : Int32) (v3 : Int32) (I : jI) (L : jL), DN10 P ZB v0 → KP P ZB IB LB Z I L → f_X6_measure_L6 Z Q1 n v0 v2 v3 I L → f_X6_measure_L6 Z Q2 n v0 v2 v3 I L := by
  intro n
  induction n with
  | zero => intro v0 v2 v3 I L d2 kp h1; exact h1.elim
  | succ n ih =>
    intro v0 v2 v3 I L d2 kp h1
    unfold f_X6_measure_L6 at h1 ⊢
    refine ⟨fun c => ?_, fun c => ?_⟩
    · have h1 := h1.1 c
      exact hq _ _ kp h1
    · have h1 := h1.2 c
      refine ⟨fun c => ?_, fun c => ?_⟩
      · have h1 := h1.1 c
        exact hq _ _ kp h1
      · have h1 := h1.2 c
        obtain ⟨n1, h1⟩ := h1
        exact ⟨n1, loc10m_X6_measure_L22 (fun _ _ _ _ _ g0 kp h => ih _ _ _ _ _ g0 kp h) hq n1 _ _ _ _ _ _ d2 kp h1⟩
set_option maxHeartbeats 4000000 in
theorem loc10m_X6_measure {P : Nat → Prop} {ZB : jZ} {IB : jI} {LB : jL} {v0 : Nat} {v1 : Int32} {v2 : Int32} {Z : jZ} {I : jI} {L : jL} {Q1 Q2 : jI → jL → Prop} (d1 : DN10 P ZB v0) (kp : KP P ZB IB LB Z I L) (h1 : f_X6_measure v0 v1 v2 Z I L Q1) (hq : ∀ (x0 : jI) (x1 : jL), KP P ZB IB LB Z x0 x1 → Q1 x0 x1 → Q2 x0 x1) : f_X6_measure v0 v1 v2 Z I L Q2 := by
  unfold f_X6_measure at h1 ⊢
  intro x40 ex40
  have h1 := h1 x40 ex40
  obtain ⟨n1, h1⟩ := h1
  exact ⟨n1, loc10m_X6_measure_L6  hq n1 _ _ _ _ _ d1 kp h1⟩
/-! ===== the class: its world, the pilgrims' routes ===== -/
def CWD (Z : jZ) (I : jI) (v0 v8 u0 u1 u2 u3 u4 u41 u5 u8 uL0 uC0 uL1 uC1 uP p13 p14 : Nat) (pc rc : Nat → Nat) (D : DAT) (a : Nat → Int32) : Prop := (WD Z I) ∧ (jk Z v0 11) ∧ (jr Z v0 2 = some v8) ∧ (STc Z v8 u0 u1 u2 u3 u4 u41 u5 u8) ∧ (LWs Z I v8 uL0 uC0 uL1 uC1 (dC0 D) (dC1 D)) ∧ ((I v8 9).toInt = (dN D : Int)) ∧ ((I v0 4).toInt = (dP D : Int)) ∧ (I u2 = a) ∧ (I u0 = dR D) ∧ (I u1 = dS D) ∧ (I u3 = dW D) ∧ (xLc (I u41) (I u5) = dX D) ∧ (I u41 = dMn D) ∧ (jr Z v0 3 = some uP) ∧ (jr Z v0 13 = some p13) ∧ (jr Z v0 14 = some p14) ∧ (∀ p, p < dP D → jr Z uP p = some (pc p) ∧ jk Z (pc p) 5 ∧ jr Z (pc p) 8 = some (rc p) ∧ jk Z (rc p) 6 ∧ jr Z (rc p) 0 = some v8) ∧ (∀ p, p < dP D → (I (pc p) 3).toInt = dLd D p ∧ I (pc p) 4 = dVw D p ∧ (I (rc p) 1).toInt = dKn D p ∧ (I (rc p) 2).toInt = dPu D p ∧ (I (rc p) 3).toInt = (dLp D p : Int)) ∧ (DOK D)
theorem CWD.w {Z : jZ} {I : jI} {v0 v8 u0 u1 u2 u3 u4 u41 u5 u8 uL0 uC0 uL1 uC1 uP p13 p14 : Nat} {pc rc : Nat → Nat} {D : DAT} {a : Nat → Int32} (h : CWD Z I v0 v8 u0 u1 u2 u3 u4 u41 u5 u8 uL0 uC0 uL1 uC1 uP p13 p14 pc rc D a) : WD Z I := h.1
theorem CWD.kv {Z : jZ} {I : jI} {v0 v8 u0 u1 u2 u3 u4 u41 u5 u8 uL0 uC0 uL1 uC1 uP p13 p14 : Nat} {pc rc : Nat → Nat} {D : DAT} {a : Nat → Int32} (h : CWD Z I v0 v8 u0 u1 u2 u3 u4 u41 u5 u8 uL0 uC0 uL1 uC1 uP p13 p14 pc rc D a) : jk Z v0 11 := h.2.1
theorem CWD.h2 {Z : jZ} {I : jI} {v0 v8 u0 u1 u2 u3 u4 u41 u5 u8 uL0 uC0 uL1 uC1 uP p13 p14 : Nat} {pc rc : Nat → Nat} {D : DAT} {a : Nat → Int32} (h : CWD Z I v0 v8 u0 u1 u2 u3 u4 u41 u5 u8 uL0 uC0 uL1 uC1 uP p13 p14 pc rc D a) : jr Z v0 2 = some v8 := h.2.2.1
theorem CWD.S {Z : jZ} {I : jI} {v0 v8 u0 u1 u2 u3 u4 u41 u5 u8 uL0 uC0 uL1 uC1 uP p13 p14 : Nat} {pc rc : Nat → Nat} {D : DAT} {a : Nat → Int32} (h : CWD Z I v0 v8 u0 u1 u2 u3 u4 u41 u5 u8 uL0 uC0 uL1 uC1 uP p13 p14 pc rc D a) : STc Z v8 u0 u1 u2 u3 u4 u41 u5 u8 := h.2.2.2.1
theorem CWD.hl {Z : jZ} {I : jI} {v0 v8 u0 u1 u2 u3 u4 u41 u5 u8 uL0 uC0 uL1 uC1 uP p13 p14 : Nat} {pc rc : Nat → Nat} {D : DAT} {a : Nat → Int32} (h : CWD Z I v0 v8 u0 u1 u2 u3 u4 u41 u5 u8 uL0 uC0 uL1 uC1 uP p13 p14 pc rc D a) : LWs Z I v8 uL0 uC0 uL1 uC1 (dC0 D) (dC1 D) := h.2.2.2.2.1
theorem CWD.hn {Z : jZ} {I : jI} {v0 v8 u0 u1 u2 u3 u4 u41 u5 u8 uL0 uC0 uL1 uC1 uP p13 p14 : Nat} {pc rc : Nat → Nat} {D : DAT} {a : Nat → Int32} (h : CWD Z I v0 v8 u0 u1 u2 u3 u4 u41 u5 u8 uL0 uC0 uL1 uC1 uP p13 p14 pc rc D a) : (I v8 9).toInt = (dN D : Int) := h.2.2.2.2.2.1
theorem CWD.hp {Z : jZ} {I : jI} {v0 v8 u0 u1 u2 u3 u4 u41 u5 u8 uL0 uC0 uL1 uC1 uP p13 p14 : Nat} {pc rc : Nat → Nat} {D : DAT} {a : Nat → Int32} (h : CWD Z I v0 v8 u0 u1 u2 u3 u4 u41 u5 u8 uL0 uC0 uL1 uC1 uP p13 p14 pc rc D a) : (I v0 4).toInt = (dP D : Int) := h.2.2.2.2.2.2.1
theorem CWD.iA {Z : jZ} {I : jI} {v0 v8 u0 u1 u2 u3 u4 u41 u5 u8 uL0 uC0 uL1 uC1 uP p13 p14 : Nat} {pc rc : Nat → Nat} {D : DAT} {a : Nat → Int32} (h : CWD Z I v0 v8 u0 u1 u2 u3 u4 u41 u5 u8 uL0 uC0 uL1 uC1 uP p13 p14 pc rc D a) : I u2 = a := h.2.2.2.2.2.2.2.1
theorem CWD.iR {Z : jZ} {I : jI} {v0 v8 u0 u1 u2 u3 u4 u41 u5 u8 uL0 uC0 uL1 uC1 uP p13 p14 : Nat} {pc rc : Nat → Nat} {D : DAT} {a : Nat → Int32} (h : CWD Z I v0 v8 u0 u1 u2 u3 u4 u41 u5 u8 uL0 uC0 uL1 uC1 uP p13 p14 pc rc D a) : I u0 = dR D := h.2.2.2.2.2.2.2.2.1
theorem CWD.iS {Z : jZ} {I : jI} {v0 v8 u0 u1 u2 u3 u4 u41 u5 u8 uL0 uC0 uL1 uC1 uP p13 p14 : Nat} {pc rc : Nat → Nat} {D : DAT} {a : Nat → Int32} (h : CWD Z I v0 v8 u0 u1 u2 u3 u4 u41 u5 u8 uL0 uC0 uL1 uC1 uP p13 p14 pc rc D a) : I u1 = dS D := h.2.2.2.2.2.2.2.2.2.1
theorem CWD.iW {Z : jZ} {I : jI} {v0 v8 u0 u1 u2 u3 u4 u41 u5 u8 uL0 uC0 uL1 uC1 uP p13 p14 : Nat} {pc rc : Nat → Nat} {D : DAT} {a : Nat → Int32} (h : CWD Z I v0 v8 u0 u1 u2 u3 u4 u41 u5 u8 uL0 uC0 uL1 uC1 uP p13 p14 pc rc D a) : I u3 = dW D := h.2.2.2.2.2.2.2.2.2.2.1
theorem CWD.iX {Z : jZ} {I : jI} {v0 v8 u0 u1 u2 u3 u4 u41 u5 u8 uL0 uC0 uL1 uC1 uP p13 p14 : Nat} {pc rc : Nat → Nat} {D : DAT} {a : Nat → Int32} (h : CWD Z I v0 v8 u0 u1 u2 u3 u4 u41 u5 u8 uL0 uC0 uL1 uC1 uP p13 p14 pc rc D a) : xLc (I u41) (I u5) = dX D := h.2.2.2.2.2.2.2.2.2.2.2.1
theorem CWD.iM {Z : jZ} {I : jI} {v0 v8 u0 u1 u2 u3 u4 u41 u5 u8 uL0 uC0 uL1 uC1 uP p13 p14 : Nat} {pc rc : Nat → Nat} {D : DAT} {a : Nat → Int32} (h : CWD Z I v0 v8 u0 u1 u2 u3 u4 u41 u5 u8 uL0 uC0 uL1 uC1 uP p13 p14 pc rc D a) : I u41 = dMn D := h.2.2.2.2.2.2.2.2.2.2.2.2.1
theorem CWD.h3 {Z : jZ} {I : jI} {v0 v8 u0 u1 u2 u3 u4 u41 u5 u8 uL0 uC0 uL1 uC1 uP p13 p14 : Nat} {pc rc : Nat → Nat} {D : DAT} {a : Nat → Int32} (h : CWD Z I v0 v8 u0 u1 u2 u3 u4 u41 u5 u8 uL0 uC0 uL1 uC1 uP p13 p14 pc rc D a) : jr Z v0 3 = some uP := h.2.2.2.2.2.2.2.2.2.2.2.2.2.1
theorem CWD.h13 {Z : jZ} {I : jI} {v0 v8 u0 u1 u2 u3 u4 u41 u5 u8 uL0 uC0 uL1 uC1 uP p13 p14 : Nat} {pc rc : Nat → Nat} {D : DAT} {a : Nat → Int32} (h : CWD Z I v0 v8 u0 u1 u2 u3 u4 u41 u5 u8 uL0 uC0 uL1 uC1 uP p13 p14 pc rc D a) : jr Z v0 13 = some p13 := h.2.2.2.2.2.2.2.2.2.2.2.2.2.2.1
theorem CWD.h14 {Z : jZ} {I : jI} {v0 v8 u0 u1 u2 u3 u4 u41 u5 u8 uL0 uC0 uL1 uC1 uP p13 p14 : Nat} {pc rc : Nat → Nat} {D : DAT} {a : Nat → Int32} (h : CWD Z I v0 v8 u0 u1 u2 u3 u4 u41 u5 u8 uL0 uC0 uL1 uC1 uP p13 p14 pc rc D a) : jr Z v0 14 = some p14 := h.2.2.2.2.2.2.2.2.2.2.2.2.2.2.2.1
theorem CWD.pil {Z : jZ} {I : jI} {v0 v8 u0 u1 u2 u3 u4 u41 u5 u8 uL0 uC0 uL1 uC1 uP p13 p14 : Nat} {pc rc : Nat → Nat} {D : DAT} {a : Nat → Int32} (h : CWD Z I v0 v8 u0 u1 u2 u3 u4 u41 u5 u8 uL0 uC0 uL1 uC1 uP p13 p14 pc rc D a) : ∀ p, p < dP D → jr Z uP p = some (pc p) ∧ jk Z (pc p) 5 ∧ jr Z (pc p) 8 = some (rc p) ∧ jk Z (rc p) 6 ∧ jr Z (rc p) 0 = some v8 := h.2.2.2.2.2.2.2.2.2.2.2.2.2.2.2.2.1
theorem CWD.piv {Z : jZ} {I : jI} {v0 v8 u0 u1 u2 u3 u4 u41 u5 u8 uL0 uC0 uL1 uC1 uP p13 p14 : Nat} {pc rc : Nat → Nat} {D : DAT} {a : Nat → Int32} (h : CWD Z I v0 v8 u0 u1 u2 u3 u4 u41 u5 u8 uL0 uC0 uL1 uC1 uP p13 p14 pc rc D a) : ∀ p, p < dP D → (I (pc p) 3).toInt = dLd D p ∧ I (pc p) 4 = dVw D p ∧ (I (rc p) 1).toInt = dKn D p ∧ (I (rc p) 2).toInt = dPu D p ∧ (I (rc p) 3).toInt = (dLp D p : Int) := h.2.2.2.2.2.2.2.2.2.2.2.2.2.2.2.2.2.1
theorem CWD.dk {Z : jZ} {I : jI} {v0 v8 u0 u1 u2 u3 u4 u41 u5 u8 uL0 uC0 uL1 uC1 uP p13 p14 : Nat} {pc rc : Nat → Nat} {D : DAT} {a : Nat → Int32} (h : CWD Z I v0 v8 u0 u1 u2 u3 u4 u41 u5 u8 uL0 uC0 uL1 uC1 uP p13 p14 pc rc D a) : DOK D := h.2.2.2.2.2.2.2.2.2.2.2.2.2.2.2.2.2.2
theorem CWD.kP {Z : jZ} {I : jI} {v0 v8 u0 u1 u2 u3 u4 u41 u5 u8 uL0 uC0 uL1 uC1 uP p13 p14 : Nat} {pc rc : Nat → Nat} {D : DAT} {a : Nat → Int32} (X : CWD Z I v0 v8 u0 u1 u2 u3 u4 u41 u5 u8 uL0 uC0 uL1 uC1 uP p13 p14 pc rc D a) : jk Z uP 18 := by
  obtain ⟨x, ex, k, -⟩ := sh_f X.w.1 X.kv (j := 3) (k := 18) (m := 6) rfl
  cases X.h3.symm.trans ex
  exact k
theorem CWD.inj {Z : jZ} {I : jI} {v0 v8 u0 u1 u2 u3 u4 u41 u5 u8 uL0 uC0 uL1 uC1 uP p13 p14 : Nat} {pc rc : Nat → Nat} {D : DAT} {a : Nat → Int32} (X : CWD Z I v0 v8 u0 u1 u2 u3 u4 u41 u5 u8 uL0 uC0 uL1 uC1 uP p13 p14 pc rc D a) (p q : Nat) (hp : p < dP D) (hq : q < dP D) (e : rc p = rc q) : p = q := by
  obtain ⟨a1, a2, a3, a4, a5⟩ := X.pil p hp
  obtain ⟨b1, b2, b3, b4, b5⟩ := X.pil q hq
  rw [← e] at b3
  have g := (X.w.2.1.2.2 (pc p) 5 8 (pc q) 5 8 (rc p) a2 b2 a3 b3 rfl rfl).1
  rw [← g] at b1
  exact (X.w.2.1.2.2 uP 18 p uP 18 q (pc p) X.kP X.kP a1 b1 rfl rfl).2
theorem CWD.ok {Z : jZ} {I : jI} {v0 v8 u0 u1 u2 u3 u4 u41 u5 u8 uL0 uC0 uL1 uC1 uP p13 p14 : Nat} {pc rc : Nat → Nat} {D : DAT} {a : Nat → Int32} (X : CWD Z I v0 v8 u0 u1 u2 u3 u4 u41 u5 u8 uL0 uC0 uL1 uC1 uP p13 p14 pc rc D a) : aOK a := fun k => by
  obtain ⟨q0, q1, q2, -⟩ := STc_k X.w X.S
  obtain ⟨k8, s0, s1, s2, -⟩ := X.S
  rw [← X.iA]
  exact X.w.arr 8 2 k8 s2 q2 rfl rfl k
theorem CWD.dok {Z : jZ} {I : jI} {v0 v8 u0 u1 u2 u3 u4 u41 u5 u8 uL0 uC0 uL1 uC1 uP p13 p14 : Nat} {pc rc : Nat → Nat} {D : DAT} {a : Nat → Int32} (X : CWD Z I v0 v8 u0 u1 u2 u3 u4 u41 u5 u8 uL0 uC0 uL1 uC1 uP p13 p14 pc rc D a) : DOK D := X.dk
def Wk11 : List (Nat × Nat) := [(8, 9), (8, 0), (8, 1), (8, 3), (8, 5), (4, 1), (3, 0), (3, 3), (3, 4), (11, 4), (5, 3), (5, 4), (6, 1), (6, 2), (6, 3)]
/-- the class's world stays while nothing of it is written but what is asked -/
theorem CWD.fra {W : List (Nat × Nat)} {Z' : jZ} {I' : jI} {a' : Nat → Int32} {Z : jZ} {I : jI} {v0 v8 u0 u1 u2 u3 u4 u41 u5 u8 uL0 uC0 uL1 uC1 uP p13 p14 : Nat} {pc rc : Nat → Nat} {D : DAT} {a : Nat → Int32} (X : CWD Z I v0 v8 u0 u1 u2 u3 u4 u41 u5 u8 uL0 uC0 uL1 uC1 uP p13 p14 pc rc D a) (w' : WD Z' I') (f : FR W Z I Z' I') (hW : ∀ p ∈ Wk11, p ∉ W) (hA : I' u2 = a') : CWD Z' I' v0 v8 u0 u1 u2 u3 u4 u41 u5 u8 uL0 uC0 uL1 uC1 uP p13 p14 pc rc D a' := by
  have w := X.w
  have kv := X.kv
  obtain ⟨q0, q1, q2, q3, q4, q41, q5, q8, -⟩ := STc_k w X.S
  obtain ⟨k8, s0, s1, s2, s3, s4, s41, s5, s8⟩ := X.S
  have kP := X.kP
  have rf : ∀ (v c j b : Nat), jk Z v c → jr Z v j = some b → ¬ (c = 7 ∧ j = 0) → ¬ (c = 12 ∧ j = 23) → jr Z' v j = some b := fun v c j b k e n1 n2 => (f.2.1 v c j k n1 n2).trans e
  have kk : ∀ x c, jk Z x c → jk Z' x c := fun x c k => (f.1 x c k).1
  have ar : ∀ (v c j b : Nat), jk Z v c → jr Z v j = some b → jk Z b 14 → jsr c j = false → (c, j) ∈ Wk11 → I' b = I b := fun v c j b ka e kb hs hw => f.2.2.2 v c j b ka e (by rw [kb.2]; rfl) hs (hW _ hw)
  have fl : ∀ (v c j : Nat), jk Z v c → c < 13 → (c, j) ∈ Wk11 → I' v j = I v j := fun v c j k hc hw => f.2.2.1 v c j k hc (hW _ hw)
  have i0 := ar v8 8 0 u0 k8 s0 q0 rfl (by decide)
  have i1 := ar v8 8 1 u1 k8 s1 q1 rfl (by decide)
  have i3 := ar v8 8 3 u3 k8 s3 q3 rfl (by decide)
  have i41 := ar u4 4 1 u41 q4 s41 q41 rfl (by decide)
  have i5 := ar v8 8 5 u5 k8 s5 q5 rfl (by decide)
  have S' : STc Z' v8 u0 u1 u2 u3 u4 u41 u5 u8 := ⟨kk _ _ k8, rf v8 8 0 _ k8 s0 (by decide) (by decide), rf v8 8 1 _ k8 s1 (by decide) (by decide), rf v8 8 2 _ k8 s2 (by decide) (by decide), rf v8 8 3 _ k8 s3 (by decide) (by decide), rf v8 8 4 _ k8 s4 (by decide) (by decide), rf u4 4 1 _ q4 s41 (by decide) (by decide), rf v8 8 5 _ k8 s5 (by decide) (by decide), rf v8 8 8 _ k8 s8 (by decide) (by decide)⟩
  have hl' : LWs Z' I' v8 uL0 uC0 uL1 uC1 (dC0 D) (dC1 D) := by
    obtain ⟨hL0, hC0, hL1, hC1, g0, g1, ok0, ok1⟩ := X.hl
    obtain ⟨x, ex, kL0⟩ := sh_o w.1 k8 (j := 6) (k := 3) rfl
    cases hL0.symm.trans ex
    obtain ⟨x, ex, kL1⟩ := sh_o w.1 k8 (j := 7) (k := 3) rfl
    cases hL1.symm.trans ex
    obtain ⟨x, ex, kC0, -⟩ := sh_f w.1 kL0 (j := 0) (k := 14) (m := 40) rfl
    cases hC0.symm.trans ex
    obtain ⟨x, ex, kC1, -⟩ := sh_f w.1 kL1 (j := 0) (k := 14) (m := 40) rfl
    cases hC1.symm.trans ex
    exact ⟨rf v8 8 6 _ k8 hL0 (by decide) (by decide), rf uL0 3 0 _ kL0 hC0 (by decide) (by decide), rf v8 8 7 _ k8 hL1 (by decide) (by decide), rf uL1 3 0 _ kL1 hC1 (by decide) (by decide), LWc_eq g0 (fl uL0 3 3 kL0 (by decide) (by decide)) (fl uL0 3 4 kL0 (by decide) (by decide)) (ar uL0 3 0 uC0 kL0 hC0 kC0 rfl (by decide)), LWc_eq g1 (fl uL1 3 3 kL1 (by decide) (by decide)) (fl uL1 3 4 kL1 (by decide) (by decide)) (ar uL1 3 0 uC1 kL1 hC1 kC1 rfl (by decide)), ok0, ok1⟩
  refine ⟨w', kk _ _ kv, rf v0 11 2 _ kv X.h2 (by decide) (by decide), S', hl', ?_, ?_, hA, ?_, ?_, ?_, ?_, ?_, rf v0 11 3 _ kv X.h3 (by decide) (by decide), rf v0 11 13 _ kv X.h13 (by decide) (by decide), rf v0 11 14 _ kv X.h14 (by decide) (by decide), fun p hp => ?_, fun p hp => ?_, X.dk⟩
  · rw [fl v8 8 9 k8 (by decide) (by decide)]; exact X.hn
  · rw [fl v0 11 4 kv (by decide) (by decide)]; exact X.hp
  · rw [i0]; exact X.iR
  · rw [i1]; exact X.iS
  · rw [i3]; exact X.iW
  · rw [i41, i5]; exact X.iX
  · rw [i41]; exact X.iM
  · obtain ⟨a1, a2, a3, a4, a5⟩ := X.pil p hp
    exact ⟨rf uP 18 p _ kP a1 (by omega) (by omega), kk _ _ a2, rf (pc p) 5 8 _ a2 a3 (by decide) (by decide), kk _ _ a4, rf (rc p) 6 0 _ a4 a5 (by decide) (by decide)⟩
  · obtain ⟨a1, a2, a3, a4, a5⟩ := X.pil p hp
    rw [fl (pc p) 5 3 a2 (by decide) (by decide), fl (pc p) 5 4 a2 (by decide) (by decide), fl (rc p) 6 1 a4 (by decide) (by decide), fl (rc p) 6 2 a4 (by decide) (by decide), fl (rc p) 6 3 a4 (by decide) (by decide)]
    exact X.piv p hp
theorem CWD.fr {W : List (Nat × Nat)} {Z' : jZ} {I' : jI} {Z : jZ} {I : jI} {v0 v8 u0 u1 u2 u3 u4 u41 u5 u8 uL0 uC0 uL1 uC1 uP p13 p14 : Nat} {pc rc : Nat → Nat} {D : DAT} {a : Nat → Int32} (X : CWD Z I v0 v8 u0 u1 u2 u3 u4 u41 u5 u8 uL0 uC0 uL1 uC1 uP p13 p14 pc rc D a) (w' : WD Z' I') (f : FR W Z I Z' I') (hW : ∀ p ∈ Wk11, p ∉ W) (h2 : (8, 2) ∉ W) : CWD Z' I' v0 v8 u0 u1 u2 u3 u4 u41 u5 u8 uL0 uC0 uL1 uC1 uP p13 p14 pc rc D a := by
  obtain ⟨q0, q1, q2, -⟩ := STc_k X.w X.S
  obtain ⟨k8, s0, s1, s2, -⟩ := X.S
  have i2 : I' u2 = I u2 := f.2.2.2 v8 8 2 u2 k8 s2 (by rw [q2.2]; rfl) rfl h2
  exact X.fra w' f hW (by rw [i2]; exact X.iA)
theorem CWD.put {Z : jZ} {I : jI} {v0 v8 u0 u1 u2 u3 u4 u41 u5 u8 uL0 uC0 uL1 uC1 uP p13 p14 : Nat} {pc rc : Nat → Nat} {D : DAT} {a : Nat → Int32} (X : CWD Z I v0 v8 u0 u1 u2 u3 u4 u41 u5 u8 uL0 uC0 uL1 uC1 uP p13 p14 pc rc D a) (s : Nat) (v : Int32) (rv : 0 ≤ v.toInt ∧ v.toInt ≤ 20) : CWD Z (jpI I u2 s v) v0 v8 u0 u1 u2 u3 u4 u41 u5 u8 uL0 uC0 uL1 uC1 uP p13 p14 pc rc D (updA a s v) ∧ FR [(8, 2)] Z I Z (jpI I u2 s v) := by
  obtain ⟨q0, q1, q2, -⟩ := STc_k X.w X.S
  obtain ⟨k8, s0, s1, s2, -⟩ := X.S
  have w' : WD Z (jpI I u2 s v) := WD_putA X.w 8 2 k8 s2 q2 rfl rfl (by decide) (by constructor <;> omega)
  have f' : FR [(8, 2)] Z I Z (jpI I u2 s v) := FR_upA X.w.2.1 k8 s2 q2 rfl rfl List.mem_cons_self
  refine ⟨X.fra w' f' (by decide) ?_, f'⟩
  funext k
  unfold updA
  by_cases c : k = s
  · rw [if_pos c, c, jpI_at]
  · rw [if_neg c, jpI_off c, X.iA]
theorem CWD.pr {Z : jZ} {I : jI} {v0 v8 u0 u1 u2 u3 u4 u41 u5 u8 uL0 uC0 uL1 uC1 uP p13 p14 : Nat} {pc rc : Nat → Nat} {D : DAT} {a : Nat → Int32} (X : CWD Z I v0 v8 u0 u1 u2 u3 u4 u41 u5 u8 uL0 uC0 uL1 uC1 uP p13 p14 pc rc D a) : PRC Z I v8 (dN D : Int) (PRa D a) := by
  have h := PRC_of X.w v8 u0 u1 u2 u3 u4 u41 u5 u8 X.S uL0 uC0 uL1 uC1 (dC0 D) (dC1 D) X.hl (dN D : Int) X.hn (by have := X.dok.1; omega)
  rw [X.iA, X.iR, X.iS, X.iW, X.iX] at h
  exact h
theorem CWD.sq {Z : jZ} {I : jI} {v0 v8 u0 u1 u2 u3 u4 u41 u5 u8 uL0 uC0 uL1 uC1 uP p13 p14 : Nat} {pc rc : Nat → Nat} {D : DAT} {a : Nat → Int32} (X : CWD Z I v0 v8 u0 u1 u2 u3 u4 u41 u5 u8 uL0 uC0 uL1 uC1 uP p13 p14 pc rc D a) (p : Nat) (hp : p < dP D) : SQ Z I (rc p) v8 u0 u1 (dLp D p) (dN D) (dLd D p) (PRa D a) (Hn (dR D) (dN D)) (Hn (dS D) (dN D)) := by
  have d := X.dok
  obtain ⟨a1, a2, a3, a4, a5⟩ := X.pil p hp
  obtain ⟨e1, e2, e3, e4, e5⟩ := X.piv p hp
  obtain ⟨q1, q2, q3, q4⟩ := d.2.2.2.2 p hp
  refine ⟨X.w, a4, X.S.1, a5, X.S.2.1, X.S.2.2.1, X.pr, PRa_rng X.ok, Hn_rng (by omega) d.2.2.1, Hn_rng (by omega) d.2.2.2.1, fun s hs => ?_, fun s hs => ?_, X.hn, e5, q1, d.1, q2⟩
  · rw [Hn_at hs, X.iR]
  · rw [Hn_at hs, X.iS]
theorem CWD.mnc {Z : jZ} {I : jI} {v0 v8 u0 u1 u2 u3 u4 u41 u5 u8 uL0 uC0 uL1 uC1 uP p13 p14 : Nat} {pc rc : Nat → Nat} {D : DAT} {a : Nat → Int32} (X : CWD Z I v0 v8 u0 u1 u2 u3 u4 u41 u5 u8 uL0 uC0 uL1 uC1 uP p13 p14 pc rc D a) : MNC Z I u4 (dN D) (dMn D) := by
  intro v1 s I' L Q w' f e1 hs hQ
  have n24 := X.dok.1
  obtain ⟨q0, q1, q2, q3, q4, q41, -⟩ := STc_k X.w X.S
  have s41 := X.S.2.2.2.2.2.2.1
  refine r_X4_mainOf u4 u41 s41 v1 s e1 (by omega) ?_
  rw [f.2.2.2 u4 4 1 u41 q4 s41 (by rw [q41.2]; rfl) rfl (by decide), X.iM]
  exact hQ
/-- a pilgrim's routes, its moves measured, its rising rows below place t, its rows of ends from place t on -/
def RAD (Z : jZ) (I : jI) (L : jL) (r lp n : Nat) (op : Nat → Prop) (C E : Nat → Nat → Int) (K P ld : Int) (t : Nat) : Prop := ∃ (t4 t5 t6 t7 u9 u10 b0 b1 b2 b4 b5 b6 b7 d0 d1 d2 d4 d5 d6 d7 : Nat) (R R2 : Nat → List Int) (lu lf : Nat → Int), MVs Z I r t4 t5 t6 t7 lp n op C E lu ∧ (LUs lp n op E lu ∧ (∀ q, lu q ≤ 2000000) ∧ LFs lp n op E lf) ∧ jr Z r 9 = some u9 ∧ jr Z r 10 = some u10 ∧ RCs Z u9 b0 b1 b2 b4 b5 b6 b7 ∧ RCs Z u10 d0 d1 d2 d4 d5 d6 d7 ∧ RRb I L b0 b1 b2 R ∧ RRb I L d0 d1 d2 R2 ∧ (∀ q, q < t → ROW lp op C E P K lu q (R q)) ∧ (∀ q, t ≤ q → q ≤ n → EROW lp op C E P K lf n q (R2 q)) ∧ (I u9 3).toInt ≤ 1 + 1000 * (t : Int) ∧ (I r 14).toInt = ld
def RADd (Z : jZ) (I : jI) (L : jL) (rc : Nat → Nat) (D : DAT) (a : Nat → Int32) (p t : Nat) : Prop := RAD Z I L (rc p) (dLp D p) (dN D) (dOp D p) (dC D a p) (dE D p) (dKn D p) (dPu D p) (dLd D p) t
/-- the cells of one pilgrim's routes -/
def OW1 (Z : jZ) (r x : Nat) : Prop := OWN Z (fun u => jr Z r 9 = some u ∨ jr Z r 10 = some u) (fun t => t = r) x
theorem RAD_kp {P : Nat → Prop} {Z Z' : jZ} {I I' : jI} {L L' : jL} {r lp n : Nat} {op : Nat → Prop} {C E : Nat → Nat → Int} {K Pu ld : Int} {t : Nat} (kp : KP P Z I L Z' I' L') (ho : ∀ x, OW1 Z r x → P x) (h : RAD Z I L r lp n op C E K Pu ld t) : RAD Z' I' L' r lp n op C E K Pu ld t := by
  obtain ⟨t4, t5, t6, t7, u9, u10, b0, b1, b2, b4, b5, b6, b7, d0, d1, d2, d4, d5, d6, d7, R, R2, lu, lf, ⟨⟨g4, g5, g6, g7⟩, m3, m15, mo, mm, mu⟩, hu, h9, h10, r9, r10, hR, hR2, hW, hW2, hfl, h14⟩ := h
  have k := kp.2.2.1
  have kr := k r (ho r (Or.inr ⟨r, rfl, Or.inl rfl⟩))
  have o9 : ∀ x, OWR Z u9 x → P x := fun x q => ho x (Or.inl ⟨u9, Or.inl h9, q⟩)
  have o10 : ∀ x, OWR Z u10 x → P x := fun x q => ho x (Or.inl ⟨u10, Or.inr h10, q⟩)
  obtain ⟨a1, a2, a3⟩ := RR_kp kp o9 r9 hR
  obtain ⟨c1, c2, c3⟩ := RR_kp kp o10 r10 hR2
  have ka : ∀ j b, j ∈ ([4, 5, 6, 7, 8, 11, 12, 13] : List Nat) → jr Z r j = some b → I' b = I b := fun j b hj e => (k b (ho b (Or.inr ⟨r, rfl, Or.inr ⟨j, hj, e⟩⟩))).1
  have i4 := ka 4 t4 (by decide) g4
  have i5 := ka 5 t5 (by decide) g5
  have i6 := ka 6 t6 (by decide) g6
  have i7 := ka 7 t7 (by decide) g7
  refine ⟨t4, t5, t6, t7, u9, u10, b0, b1, b2, b4, b5, b6, b7, d0, d1, d2, d4, d5, d6, d7, R, R2, lu, lf, ⟨⟨(kr.2.2 4).trans g4, (kr.2.2 5).trans g5, (kr.2.2 6).trans g6, (kr.2.2 7).trans g7⟩, ?_, ?_, ?_, ?_, ?_⟩, hu, (kr.2.2 9).trans h9, (kr.2.2 10).trans h10, a1, c1, a2, c2, hW, hW2, ?_, ?_⟩
  · rw [kr.1]; exact m3
  · rw [kr.1]; exact m15
  · rw [i6]; exact mo
  · rw [i4, i5]; exact mm
  · rw [i7]; exact mu
  · rw [a3]; exact hfl
  · rw [kr.1]; exact h14
/-- it stays while nothing of it is written -/
theorem RAD_fr {W : List (Nat × Nat)} {Z : jZ} {I I' : jI} {L L' : jL} {r lp n : Nat} {op : Nat → Prop} {C E : Nat → Nat → Int} {K Pu ld : Int} {t : Nat} (w : WD Z I) (kr : jk Z r 6) (f : FR W Z I Z I') (hW0 : ∀ p ∈ ([(6, 3), (6, 4), (6, 5), (6, 6), (6, 7), (6, 14), (6, 15), (7, 1), (7, 2), (7, 3)] : List (Nat × Nat)), p ∉ W) (hL : ∀ u b, jk Z u 7 → jr Z u 0 = some b → L' b = L b) (h : RAD Z I L r lp n op C E K Pu ld t) : RAD Z I' L' r lp n op C E K Pu ld t := by
  obtain ⟨t4, t5, t6, t7, u9, u10, b0, b1, b2, b4, b5, b6, b7, d0, d1, d2, d4, d5, d6, d7, R, R2, lu, lf, hM, hu, h9, h10, r9, r10, hR, hR2, hW, hW2, hfl, h14⟩ := h
  obtain ⟨x, ex, ku9⟩ := sh_o w.1 kr (j := 9) (k := 7) rfl
  cases h9.symm.trans ex
  obtain ⟨x, ex, ku10⟩ := sh_o w.1 kr (j := 10) (k := 7) rfl
  cases h10.symm.trans ex
  refine ⟨t4, t5, t6, t7, u9, u10, b0, b1, b2, b4, b5, b6, b7, d0, d1, d2, d4, d5, d6, d7, R, R2, lu, lf, MVs_g w kr f (hW0 _ (by decide)) (hW0 _ (by decide)) (hW0 _ (by decide)) (hW0 _ (by decide)) (hW0 _ (by decide)) (hW0 _ (by decide)) hM, hu, h9, h10, r9, r10, RR_fr w ku9 r9 f (hW0 _ (by decide)) (hW0 _ (by decide)) (hL u9 b0 ku9 r9.1) hR, RR_fr w ku10 r10 f (hW0 _ (by decide)) (hW0 _ (by decide)) (hL u10 d0 ku10 r10.1) hR2, hW, hW2, ?_, ?_⟩
  · rw [f.2.2.1 u9 7 3 ku9 (by decide) (hW0 _ (by decide))]; exact hfl
  · rw [f.2.2.1 r 6 14 kr (by decide) (hW0 _ (by decide))]; exact h14
/-- what step s asks is not felt below it, nor in the ends behind it -/
theorem dC_put {D : DAT} {a : Nat → Int32} {p s : Nat} {v : Int32} : ∀ lw st fr lp : Int, 0 ≤ st → st ≠ (s : Int) → PRa D (updA a s v) lw st fr lp (dLd D p) = PRa D a lw st fr lp (dLd D p) := fun lw st fr lp h0 h => PRf_updA (by omega)
theorem ROW_cg {lp : Nat} {op : Nat → Prop} {C C' E : Nat → Nat → Int} {P K : Int} {lu : Nat → Int} {q : Nat} {l : List Int} (h : ∀ x far, 1 ≤ far → far ≤ x → x ≤ q → C' x far = C x far) (g : ROW lp op C E P K lu q l) : ROW lp op C' E P K lu q l := by
  obtain ⟨⟨g1, g2⟩, g3⟩ := g
  refine ⟨⟨fun k hk => ?_, fun m c e b hx he hc => ?_⟩, g3⟩
  · obtain ⟨m, c, e, b, hx, q1⟩ := g1 k hk
    exact ⟨m, c, e, b, PX_cg m 0 q c e b (fun x far h1 h2 h3 => h x far h3 (by omega) h2) hx, q1⟩
  · exact g2 m c e b (PX_cg m 0 q c e b (fun x far h1 h2 h3 => (h x far h3 (by omega) h2).symm) hx) he hc
theorem EROW_cg {lp n : Nat} {op : Nat → Prop} {C C' E : Nat → Nat → Int} {P K : Int} {lf : Nat → Int} {q : Nat} {l : List Int} (h : ∀ x far, 1 ≤ far → q + far ≤ x → C' x far = C x far) (g : EROW lp op C E P K lf n q l) : EROW lp op C' E P K lf n q l := by
  obtain ⟨⟨g1, g2⟩, g3⟩ := g
  refine ⟨⟨fun k hk => ?_, fun m c e b ho hx he hc => ?_⟩, g3⟩
  · obtain ⟨m, c, e, b, hx, q1⟩ := g1 k hk
    exact ⟨m, c, e, b, PX_cg m q n c e b (fun x far h1 h2 h3 => h x far h3 h1) hx, q1⟩
  · exact g2 m c e b ho (PX_cg m q n c e b (fun x far h1 h2 h3 => (h x far h3 h1).symm) hx) he hc
/-! ===== the class: all pilgrims' routes ===== -/
def UTu (Z : jZ) (rc : Nat → Nat) (n p : Nat) (u : Nat) : Prop := ∃ q, q < n ∧ q ≠ p ∧ (jr Z (rc q) 9 = some u ∨ jr Z (rc q) 10 = some u)
def UTt (rc : Nat → Nat) (n p : Nat) (t : Nat) : Prop := ∃ q, q < n ∧ q ≠ p ∧ t = rc q
theorem OWN_mono {Z : jZ} {U T U' T' : Nat → Prop} (hU : ∀ u, U u → U' u) (hT : ∀ t, T t → T' t) (x : Nat) (h : OWN Z U T x) : OWN Z U' T' x := by
  rcases h with ⟨u, hu, q⟩ | ⟨t, ht, q⟩
  · exact Or.inl ⟨u, hU u hu, q⟩
  · exact Or.inr ⟨t, hT t ht, q⟩
theorem OW1_p {Z : jZ} {rc : Nat → Nat} {n p q : Nat} (hq : q < n) (h : q ≠ p) (x : Nat) (o : OW1 Z (rc q) x) : OWN Z (UTu Z rc n p) (UTt rc n p) x :=
  OWN_mono (fun _ hu => ⟨q, hq, h, hu⟩) (fun _ ht => ⟨q, hq, h, ht⟩) x o
theorem CWD.utk {Z : jZ} {I : jI} {v0 v8 u0 u1 u2 u3 u4 u41 u5 u8 uL0 uC0 uL1 uC1 uP p13 p14 : Nat} {pc rc : Nat → Nat} {D : DAT} {a : Nat → Int32} (X : CWD Z I v0 v8 u0 u1 u2 u3 u4 u41 u5 u8 uL0 uC0 uL1 uC1 uP p13 p14 pc rc D a) (p : Nat) : UTk Z (UTu Z rc (dP D) p) (UTt rc (dP D) p) := by
  refine ⟨fun u h => ?_, fun t h => ?_⟩
  · obtain ⟨q, hq, -, h⟩ := h
    have k := (X.pil q hq).2.2.2.1
    rcases h with h | h
    · obtain ⟨x, ex, kx⟩ := sh_o X.w.1 k (j := 9) (k := 7) rfl
      cases h.symm.trans ex
      exact kx
    · obtain ⟨x, ex, kx⟩ := sh_o X.w.1 k (j := 10) (k := 7) rfl
      cases h.symm.trans ex
      exact kx
  · obtain ⟨q, hq, -, h⟩ := h
    rw [h]
    exact (X.pil q hq).2.2.2.1
theorem CWD.nT {Z : jZ} {I : jI} {v0 v8 u0 u1 u2 u3 u4 u41 u5 u8 uL0 uC0 uL1 uC1 uP p13 p14 : Nat} {pc rc : Nat → Nat} {D : DAT} {a : Nat → Int32} (X : CWD Z I v0 v8 u0 u1 u2 u3 u4 u41 u5 u8 uL0 uC0 uL1 uC1 uP p13 p14 pc rc D a) (p : Nat) (hp : p < dP D) : ¬ UTt rc (dP D) p (rc p) := fun ⟨q, hq, hn, h⟩ => hn (X.inj p q hp hq h).symm
theorem CWD.nU {Z : jZ} {I : jI} {v0 v8 u0 u1 u2 u3 u4 u41 u5 u8 uL0 uC0 uL1 uC1 uP p13 p14 : Nat} {pc rc : Nat → Nat} {D : DAT} {a : Nat → Int32} (X : CWD Z I v0 v8 u0 u1 u2 u3 u4 u41 u5 u8 uL0 uC0 uL1 uC1 uP p13 p14 pc rc D a) (p : Nat) (hp : p < dP D) (u : Nat) (h : jr Z (rc p) 9 = some u ∨ jr Z (rc p) 10 = some u) : ¬ UTu Z rc (dP D) p u := fun ⟨q, hq, hn, g⟩ => by
  have kp := (X.pil p hp).2.2.2.1
  have kq := (X.pil q hq).2.2.2.1
  refine hn (X.inj p q hp hq ?_).symm
  rcases h with h | h <;> rcases g with g | g
  · exact (X.w.2.1.2.2 _ 6 9 _ 6 9 u kp kq h g rfl rfl).1
  · exact absurd (X.w.2.1.2.2 _ 6 9 _ 6 10 u kp kq h g rfl rfl).2 (by decide)
  · exact absurd (X.w.2.1.2.2 _ 6 10 _ 6 9 u kp kq h g rfl rfl).2 (by decide)
  · exact (X.w.2.1.2.2 _ 6 10 _ 6 10 u kp kq h g rfl rfl).1
/-- the routes of the other pilgrims stay -/
def OTH (Z : jZ) (I : jI) (L : jL) (Z' : jZ) (I' : jI) (L' : jL) (rc : Nat → Nat) (n p : Nat) : Prop := ∀ q, q < n → q ≠ p → ∀ (lp m : Nat) (op : Nat → Prop) (C E : Nat → Nat → Int) (K Pu ld : Int) (t : Nat), RAD Z I L (rc q) lp m op C E K Pu ld t → RAD Z' I' L' (rc q) lp m op C E K Pu ld t
theorem OTH.trans {Z Z1 Z2 : jZ} {I I1 I2 : jI} {L L1 L2 : jL} {rc : Nat → Nat} {n p : Nat} (h : OTH Z I L Z1 I1 L1 rc n p) (g : OTH Z1 I1 L1 Z2 I2 L2 rc n p) : OTH Z I L Z2 I2 L2 rc n p :=
  fun q hq hn lp m op C E K Pu ld t r => g q hq hn lp m op C E K Pu ld t (h q hq hn lp m op C E K Pu ld t r)
theorem OTH_kp {P : Nat → Prop} {Z Z' : jZ} {I I' : jI} {L L' : jL} {rc : Nat → Nat} {n p : Nat} (kp : KP P Z I L Z' I' L') (h : ∀ x, OWN Z (UTu Z rc n p) (UTt rc n p) x → P x) : OTH Z I L Z' I' L' rc n p :=
  fun q hq hn _ _ _ _ _ _ _ _ _ r => RAD_kp kp (fun x o => h x (OW1_p hq hn x o)) r
/-- the cells of the others and the rows u -/
def UTv (Z : jZ) (rc : Nat → Nat) (n p v : Nat) (u : Nat) : Prop := UTu Z rc n p u ∨ u = v
theorem CWD.utv {Z : jZ} {I : jI} {v0 v8 u0 u1 u2 u3 u4 u41 u5 u8 uL0 uC0 uL1 uC1 uP p13 p14 : Nat} {pc rc : Nat → Nat} {D : DAT} {a : Nat → Int32} (X : CWD Z I v0 v8 u0 u1 u2 u3 u4 u41 u5 u8 uL0 uC0 uL1 uC1 uP p13 p14 pc rc D a) (p v : Nat) (kv : jk Z v 7) : UTk Z (UTv Z rc (dP D) p v) (UTt rc (dP D) p) := by
  refine ⟨fun u h => ?_, (X.utk p).2⟩
  rcases h with h | h
  · exact (X.utk p).1 u h
  · rw [h]; exact kv
def tS (s : Nat) : Nat := if s = 0 then 1 else s
theorem tS_s {s : Nat} (h : s ≠ 0) : tS s = s := if_neg h
theorem CWD.find {Z : jZ} {I : jI} {v0 v8 u0 u1 u2 u3 u4 u41 u5 u8 uL0 uC0 uL1 uC1 uP p13 p14 : Nat} {pc rc : Nat → Nat} {D : DAT} {a : Nat → Int32} {L : jL} (X : CWD Z I v0 v8 u0 u1 u2 u3 u4 u41 u5 u8 uL0 uC0 uL1 uC1 uP p13 p14 pc rc D a) (p : Nat) (hp : p < dP D) (v1 : Int32) (e1 : v1.toInt = (p : Int)) {Q : Option Nat → jI → jL → Prop} (hQ : Q (some (pc p)) I L) : f_X11_find v0 v1 Z I L Q := by
  have n1 : v1.toNatClampNeg = p := by have := i_nat e1 (by omega); omega
  have hpp := X.hp
  have g := (X.pil p hp).1
  refine s_X11_find X.w v0 v1 X.kv (fun r hr => ?_)
  cases r with
  | none =>
    have := hr.2 rfl (by omega) (by omega) uP X.h3
    rw [n1, g] at this
    cases this
  | some b =>
    have := (hr.1 b rfl).2.2.2 uP X.h3
    rw [n1, g] at this
    cases this
    exact hQ
set_option maxHeartbeats 4000000 in
/-- one pilgrim's routes rise to place s -/
theorem rs_one {B : Nat × Nat} {T : Nat} {L : jL} {Z : jZ} {I : jI} {v0 v8 u0 u1 u2 u3 u4 u41 u5 u8 uL0 uC0 uL1 uC1 uP p13 p14 : Nat} {pc rc : Nat → Nat} {D : DAT} {a : Nat → Int32} (X : CWD Z I v0 v8 u0 u1 u2 u3 u4 u41 u5 u8 uL0 uC0 uL1 uC1 uP p13 p14 pc rc D a) (bd : BUD B Z T) (p : Nat) (hp : p < dP D) (s : Nat) (hs : s < dN D) (v1 : Int32) (e1 : v1.toInt = (s : Int)) (h : RADd Z I L rc D a p (tS s)) {Q : jZ → jI → jL → Prop}
    (hQ : ∀ (Z' : jZ) (I' : jI) (L' : jL), WD Z' I' → BUD B Z' T → FR W7 Z I Z' I' → CP Z Z' → RADd Z' I' L' rc D a p (s + 1) → OTH Z I L Z' I' L' rc (dP D) p → Q Z' I' L') : f_X6_raiseOne B (rc p) v1 Z I L Q := by
  have z0 : (0 : Int32).toInt = 0 := rfl
  have w := X.w
  have d := X.dok
  have ok := X.ok
  obtain ⟨-, -, -, k6, -⟩ := X.pil p hp
  obtain ⟨e3, e4, eK, eP, e5⟩ := X.piv p hp
  obtain ⟨l3, rl, rK, rP⟩ := d.2.2.2.2 p hp
  by_cases c0 : s = 0
  · subst c0
    unfold f_X6_raiseOne
    exact ⟨fun _ => hQ Z I L w bd FR.rf CP.rf h (fun _ _ _ _ _ _ _ _ _ _ _ _ r => r), fun c => absurd ((i_le e1 z0).mpr (by omega)) c⟩
  rw [tS_s c0] at h
  obtain ⟨t4, t5, t6, t7, u9, u10, b0, b1, b2, b4, b5, b6, b7, d0, d1, d2, d4, d5, d6, d7, R, R2, lu, lf, hM, hu, h9, h10, r9, r10, hR, hR2, hW, hW2, hfl, h14⟩ := h
  obtain ⟨x, ex, ku9⟩ := sh_o w.1 k6 (j := 9) (k := 7) rfl
  cases h9.symm.trans ex
  obtain ⟨x, ex, ku10⟩ := sh_o w.1 k6 (j := 10) (k := 7) rfl
  cases h10.symm.trans ex
  have ut := X.utv p u10 ku10
  have n9 : ¬ UTv Z rc (dP D) p u10 u9 := fun q => by
    rcases q with q | q
    · exact X.nU p hp u9 (Or.inl h9) q
    · exact ds_ne w.2.1 k6 h9 h10 rfl rfl (by decide) q
  have n24 := d.1
  refine loc9_X6_raiseOne (dn_own9 w ut k6 (X.nT p hp) h9 n9) (KP.rf (OWN_in w ut)) (r_X6_raiseOne w bd (rc p) v1 k6 u9 h9 b0 b1 b2 b4 b5 b6 b7 r9 t4 t5 t6 t7 (dLp D p) (dN D) (dOp D p) (dC D a p) (dE D p) lu hM l3 n24 (dC_rng ok) (dE_rng d hp) (Or.inl rfl) hu.1 hu.2.1 (dKn D p) (dPu D p) eK eP (by omega) rP s (by omega) (by omega) e1 R hR hW (by omega) (Q := fun Z' I' L' => ∃ c0 Xr, WD Z' I' ∧ BUD B Z' T ∧ FR W7 Z I Z' I' ∧ CP Z Z' ∧ (I' u9 3).toInt ≤ (I u9 3).toInt + 1000 ∧ RCs Z' u9 c0 b1 b2 b4 b5 b6 b7 ∧ RRb I' L' c0 b1 b2 (fun q => if q = s then Xr else R q) ∧ ROW (dLp D p) (dOp D p) (dC D a p) (dE D p) (dPu D p) (dKn D p) lu s Xr) (fun Z' I' L' c0 Xr w' bd' f' cp' _ hf' rc' rr' row' _ _ => ⟨c0, Xr, w', bd', f', cp', hf', rc', rr', row'⟩)) (fun Z' I' L' kp hq => ?_)
  obtain ⟨c0', Xr, w', bd', f', cp', hf', rc', rr', row'⟩ := hq
  obtain ⟨g1, g2, g3⟩ := RR_kp kp (fun x q => Or.inl ⟨u10, Or.inr rfl, q⟩) r10 hR2
  refine hQ Z' I' L' w' bd' f' cp' ⟨t4, t5, t6, t7, u9, u10, c0', b1, b2, b4, b5, b6, b7, d0, d1, d2, d4, d5, d6, d7, _, R2, lu, lf, MVs_fr w k6 f' hM, hu, (f'.2.1 _ 6 9 k6 (by decide) (by decide)).trans h9, (f'.2.1 _ 6 10 k6 (by decide) (by decide)).trans h10, rc', g1, rr', g2, fun q hq => ?_, fun q h1 h2 => hW2 q (by omega) h2, by omega, ?_⟩ (OTH_kp kp (OWN_mono (fun _ q => Or.inl q) (fun _ q => q)))
  · show ROW (dLp D p) (dOp D p) (dC D a p) (dE D p) (dPu D p) (dKn D p) lu q (if q = s then Xr else R q)
    by_cases c : q = s
    · rw [if_pos c, c]; exact row'
    · rw [if_neg c]; exact hW q (by omega)
  · rw [f'.2.2.1 _ 6 14 k6 (by decide) (by decide)]; exact h14
theorem OTH_d {Z Z' : jZ} {I I' : jI} {L L' : jL} {rc : Nat → Nat} {D : DAT} {p q t : Nat} {a : Nat → Int32} (o : OTH Z I L Z' I' L' rc (dP D) p) (hq : q < dP D) (hn : q ≠ p) (h : RADd Z I L rc D a q t) : RADd Z' I' L' rc D a q t := o q hq hn _ _ _ _ _ _ _ _ _ h
theorem ca_L2 {B : Nat × Nat} {T : Nat} {Z0 : jZ} {I0 : jI} (w0 : WD Z0 I0) {v0 v8 u0 u1 u2 u3 u4 u41 u5 u8 uL0 uC0 uL1 uC1 uP p13 p14 : Nat} {pc rc : Nat → Nat} {D : DAT} {a : Nat → Int32} (s : Nat) (hs : s < dN D) (v1 : Int32) (e1 : v1.toInt = (s : Int)) {Q : jZ → jI → jL → Prop}
    (hQ : ∀ (Z' : jZ) (I' : jI) (L' : jL), CWD Z' I' v0 v8 u0 u1 u2 u3 u4 u41 u5 u8 uL0 uC0 uL1 uC1 uP p13 p14 pc rc D a → BUD B Z' T → FR W7 Z0 I0 Z' I' → CP Z0 Z' → (∀ q, q < dP D → RADd Z' I' L' rc D a q (s + 1)) → Q Z' I' L') :
    ∀ (k p : Nat) (v2 : Int32) (Z : jZ) (I : jI) (L : jL), dP D + 1 ≤ k + p → p ≤ dP D → v2.toInt = (p : Int) → CWD Z I v0 v8 u0 u1 u2 u3 u4 u41 u5 u8 uL0 uC0 uL1 uC1 uP p13 p14 pc rc D a → BUD B Z T → FR W7 Z0 I0 Z I → CP Z0 Z → (∀ q, q < p → RADd Z I L rc D a q (s + 1)) → (∀ q, p ≤ q → q < dP D → RADd Z I L rc D a q (tS s)) → f_X11_climbAllTo_L2 B Q k v0 v1 v2 Z I L := by
  have z1 : (1 : Int32).toInt = 1 := rfl
  intro k
  induction k with
  | zero => intro p v2 Z I L hk hi; omega
  | succ k ih =>
    intro p v2 Z I L hk hi e2 X bd f0 cp0 ha hb
    have p6 := X.dok.2.1
    unfold f_X11_climbAllTo_L2
    refine ⟨fun c => ?_, fun c => ?_⟩
    · have c := (i_le X.hp e2).mp c
      exact hQ Z I L X bd f0 cp0 (fun q hq => ha q (by omega))
    · have c := (not_congr (i_le X.hp e2)).mp c
      have hp : p < dP D := by omega
      refine X.find p hp v2 e2 ⟨(fun q => by cases q), fun b hb' => ?_⟩
      cases hb'
      intro b h8; cases (X.pil p hp).2.2.1.symm.trans h8
      refine rs_one X bd p hp s hs v1 e1 (hb p (Nat.le_refl _) hp) (fun Z' I' L' w' bd' f' cp' hr ho => ?_)
      unfold f_X11_climbAllTo_b28
      intro x ex
      refine ih (p + 1) x Z' I' L' (by omega) (by omega) (by rw [ex]; exact (i_add e2 z1 (by omega) (by omega)).trans (by omega)) (X.fr w' f' (by decide) (by decide)) bd' (f0.trans w0.1 w0.2.1 f') (CP.trans f0.1 cp0 cp') (fun q hq => ?_) (fun q h1 h2 => OTH_d ho h2 (by omega) (hb q (by omega) h2))
      by_cases c9 : q = p
      · rw [c9]; exact hr
      · exact OTH_d ho (by omega) c9 (ha q (by omega))
theorem r_X11_climbAllTo {B : Nat × Nat} {T : Nat} {L : jL} {Z : jZ} {I : jI} {v0 v8 u0 u1 u2 u3 u4 u41 u5 u8 uL0 uC0 uL1 uC1 uP p13 p14 : Nat} {pc rc : Nat → Nat} {D : DAT} {a : Nat → Int32} (X : CWD Z I v0 v8 u0 u1 u2 u3 u4 u41 u5 u8 uL0 uC0 uL1 uC1 uP p13 p14 pc rc D a) (bd : BUD B Z T) (s : Nat) (hs : s < dN D) (v1 : Int32) (e1 : v1.toInt = (s : Int)) (h : ∀ q, q < dP D → RADd Z I L rc D a q (tS s)) {Q : jZ → jI → jL → Prop}
    (hQ : ∀ (Z' : jZ) (I' : jI) (L' : jL), CWD Z' I' v0 v8 u0 u1 u2 u3 u4 u41 u5 u8 uL0 uC0 uL1 uC1 uP p13 p14 pc rc D a → BUD B Z' T → FR W7 Z I Z' I' → CP Z Z' → (∀ q, q < dP D → RADd Z' I' L' rc D a q (s + 1)) → Q Z' I' L') : f_X11_climbAllTo B v0 v1 Z I L Q := by
  unfold f_X11_climbAllTo
  exact ⟨dP D + 1, ca_L2 X.w s hs v1 e1 hQ (dP D + 1) 0 0 Z I L (by omega) (by omega) rfl X bd FR.rf CP.rf (fun q hq => absurd hq (Nat.not_lt_zero q)) (fun q _ hq => h q hq)⟩
/-- an array is filled -/
theorem fli_L5 {Z : jZ} {I : jI} {L : jL} (w : WD Z I) (v0 o c j m : Nat) (kv0 : jk Z v0 14) (ho : jk Z o c) (hr : jr Z o j = some v0) (h7 : c ≠ 7) (hs : jsr c j = false) (lm : jlen Z v0 = m) (hm : m ≤ 1000) (v1 v3 : Int32) (e3 : v3.toInt = (m : Int)) (ok : ∀ i, okA c j i v1) {Q : jI → jL → Prop}
    (hQ : ∀ I' : jI, WD Z I' → FR [(c, j)] Z I Z I' → (∀ i, i < m → I' v0 i = v1) → Q I' L) :
    ∀ (k i : Nat) (v2 : Int32) (I1 : jI), m + 1 ≤ k + i → i ≤ m → v2.toInt = (i : Int) → WD Z I1 → FR [(c, j)] Z I Z I1 → (∀ x, x < i → I1 v0 x = v1) → f_J7_fill_53178_L5 Z Q k v0 v1 v2 v3 I1 L := by
  have z1 : (1 : Int32).toInt = 1 := rfl
  intro k
  induction k with
  | zero => intro i v2 I1 hk hi; omega
  | succ k ih =>
    intro i v2 I1 hk hi e2 w1 f1 hx
    unfold f_J7_fill_53178_L5
    refine ⟨fun c2 => ?_, fun c2 => ?_⟩
    · have c2 := (i_le e3 e2).mp c2
      exact hQ I1 w1 f1 (fun x hxm => hx x (by omega))
    · have c2 := (not_congr (i_le e3 e2)).mp c2
      have n2 : v2.toNatClampNeg = i := by have := i_nat e2 (by omega); omega
      refine ⟨by rw [lm]; exact vi_of e2 (by omega) (by omega), fun I3 e3' x4 e4 => ?_⟩
      rw [n2] at e3'
      refine ih (i + 1) x4 I3 (by omega) (by omega) (by rw [e4]; exact (i_add e2 z1 (by omega) (by omega)).trans (by omega)) (by rw [e3']; exact WD_putA w1 c j ho hr kv0 rfl hs h7 (ok i)) (f1.trans w.1 w.2.1 (by rw [e3']; exact FR_upA w1.2.1 ho hr kv0 rfl hs List.mem_cons_self)) (fun x hxi => ?_)
      by_cases c9 : x = i
      · rw [e3', c9, jpI_at]
      · rw [e3', jpI_off c9]
        exact hx x (by omega)
theorem r_J7_fill_53178 {Z : jZ} {I : jI} {L : jL} (w : WD Z I) (v0 o c j m : Nat) (kv0 : jk Z v0 14) (ho : jk Z o c) (hr : jr Z o j = some v0) (h7 : c ≠ 7) (hs : jsr c j = false) (lm : jlen Z v0 = m) (hm : m ≤ 1000) (v1 : Int32) (ok : ∀ i, okA c j i v1) {Q : jI → jL → Prop}
    (hQ : ∀ I' : jI, WD Z I' → FR [(c, j)] Z I Z I' → (∀ i, i < m → I' v0 i = v1) → Q I' L) : f_J7_fill_53178 v0 v1 Z I L Q := by
  unfold f_J7_fill_53178
  intro x5 e5
  rw [lm] at e5
  exact ⟨m + 1, fli_L5 w v0 o c j m kv0 ho hr h7 hs lm hm v1 x5 (by rw [e5]; exact i_nI (by omega)) ok hQ (m + 1) 0 0 I (by omega) (by omega) rfl w FR.rf (fun x hx => absurd hx (Nat.not_lt_zero x))⟩
/-! ===== the class: offers weighed, a round of the market ===== -/
theorem L15_ne {Z : jZ} {I : jI} {r u11 : Nat} (w : WD Z I) (kr : jk Z r 6) (h11 : jr Z r 11 = some u11) (u b : Nat) (ku : jk Z u 7) (e : jr Z u 0 = some b) : jk Z b 15 ∧ b ≠ u11 := by
  obtain ⟨x, ex, kb⟩ := sh_o w.1 ku (j := 0) (k := 15) rfl
  cases e.symm.trans ex
  exact ⟨kb, fun q => ks_ne ku kr (by decide) (w.2.1.2.2 u 7 0 r 6 11 b ku kr e (by rw [q]; exact h11) rfl rfl).1⟩
/-- what has been put together: of the pilgrims below p, for each ASKS v -/
def SUMo (D : DAT) (a : Nat → Int32) (s p : Nat) (P13 P14 : Nat → Int32) : Prop := ∀ v : Nat, v < 21 → ∃ f g : Nat → Int, (∀ q, q < p → PYd D (updA a s (Int32.ofNat v)) s q (f q) (g q)) ∧ (P13 v).toInt = smN f p ∧ (P14 v).toInt = smN g p
theorem SUMo_rng {D : DAT} {a : Nat → Int32} {s p : Nat} {P13 P14 : Nat → Int32} (ok : aOK a) (hp : p ≤ 6) (h : SUMo D a s p P13 P14) (v : Nat) (hv : v < 21) : (0 ≤ (P13 v).toInt ∧ (P13 v).toInt ≤ 1000) ∧ 0 ≤ (P14 v).toInt ∧ (P14 v).toInt ≤ 1000 := by
  obtain ⟨f, g, q, e1, e2⟩ := h v hv
  have r1 := smN_rng (f := f) (m := 99) p (fun i hi => (PYd_rng (aOK_upd ok hv) (q i hi)).1)
  have r2 := smN_rng (f := g) (m := 1) p (fun i hi => (PYd_rng (aOK_upd ok hv) (q i hi)).2)
  omega
theorem SUMo_tot {D : DAT} {a : Nat → Int32} {s : Nat} {P13 P14 : Nat → Int32} (h : SUMo D a s (dP D) P13 P14) (v : Nat) (hv : v < 21) : TOT D (updA a s (Int32.ofNat v)) s (P13 v).toInt (P14 v).toInt := by
  obtain ⟨f, g, q, e1, e2⟩ := h v hv
  exact ⟨f, g, q, e1, e2⟩
set_option maxHeartbeats 4000000 in
/-- one pilgrim's offers -/
theorem wg_one {L : jL} {Z : jZ} {I : jI} {v0 v8 u0 u1 u2 u3 u4 u41 u5 u8 uL0 uC0 uL1 uC1 uP p13 p14 : Nat} {pc rc : Nat → Nat} {D : DAT} {a : Nat → Int32} (X : CWD Z I v0 v8 u0 u1 u2 u3 u4 u41 u5 u8 uL0 uC0 uL1 uC1 uP p13 p14 pc rc D a) (s : Nat) (hs : s < dN D) (p : Nat) (hp : p < dP D) (v1 : Int32) (e1 : v1.toInt = (s : Int)) (h : ∀ q, q < dP D → RADd Z I L rc D a q (s + 1)) (hS : SUMo D a s p (I p13) (I p14)) {Q : jI → jL → Prop}
    (hQ : ∀ (I' : jI) (L' : jL), WD Z I' → FR Waf Z I Z I' → (∀ q, q < dP D → RADd Z I' L' rc D a q (s + 1)) → SUMo D a s (p + 1) (I' p13) (I' p14) → Q I' L') : f_X6_addOffers (rc p) v1 p13 p14 Z I L Q := by
  have w := X.w
  have d := X.dok
  have ok := X.ok
  obtain ⟨-, -, -, k6, g0⟩ := X.pil p hp
  obtain ⟨e3, e4, eK, eP, e5⟩ := X.piv p hp
  obtain ⟨l3, rl, rK, rP⟩ := d.2.2.2.2 p hp
  obtain ⟨t4, t5, t6, t7, u9, u10, b0, b1, b2, b4, b5, b6, b7, d0, d1, d2, d4, d5, d6, d7, R, R2, lu, lf, hM, hu, h9, h10, r9, r10, hR, hR2, hW, hW2, hfl, h14⟩ := h p hp
  obtain ⟨u11, h11, -, -⟩ := sh_f w.1 k6 (j := 11) (k := 15) (m := 21) rfl
  obtain ⟨u12, h12, -, -⟩ := sh_f w.1 k6 (j := 12) (k := 14) (m := 21) rfl
  obtain ⟨u13, h13, -, -⟩ := sh_f w.1 k6 (j := 13) (k := 14) (m := 21) rfl
  have p6 := d.2.1
  have pr : PRa D a = PRf (dC0 D) (dC1 D) (I u2) (I u0) (I u1) (I u3) (xLc (I u41) (I u5)) := by
    rw [X.iA, X.iR, X.iS, X.iW, X.iX]
    rfl
  have pv : ∀ v, PRV (dC0 D) (dC1 D) (I u2) (I u0) (I u1) (I u3) (xLc (I u41) (I u5)) s v = PRa D (updA a s (Int32.ofNat v)) := fun v => by
    rw [X.iA, X.iR, X.iS, X.iW, X.iX]
    rfl
  have oc : OC Z I L (rc p) v8 u0 u1 u2 u3 u4 u41 u5 u8 uL0 uC0 uL1 uC1 (dC0 D) (dC1 D) t4 t5 t6 t7 (dLp D p) (dN D) (dOp D p) (PRa D a) (dE D p) lu lf (dLd D p) (dKn D p) (dPu D p) s u9 u10 u11 u12 u13 b0 b1 b2 b4 b5 b6 b7 d0 d1 d2 d4 d5 d6 d7 R R2 :=
    ⟨w, k6, g0, X.S, X.hl, X.hn, d.1, pr, hM, l3, dE_rng d hp, h9, h10, r9, r10, hR, hR2, fun q hq => hW q (by omega), fun q h1 h2 => hW2 q (by omega) h2, hs, hu.1, hu.2.2, eK, eP, ⟨by omega, by omega⟩, rP, h14, h11, h12, h13, Or.inl rfl⟩
  refine r_X6_addOffers oc v0 p13 p14 X.kv X.h13 X.h14 v1 e1 (fun v hv => (SUMo_rng ok (by omega) hS v hv).1) (fun v hv => (SUMo_rng ok (by omega) hS v hv).2) (fun I' L' w' f' oL hO => ?_)
  refine hQ I' L' w' f' (fun q hq => RAD_fr w (X.pil q hq).2.2.2.1 f' (by decide) (fun u b ku e => ?_) (h q hq)) (fun v hv => ?_)
  · obtain ⟨n1, n2⟩ := L15_ne w k6 h11 u b ku e
    exact oL b n1 n2
  · obtain ⟨pay, cl, hy, e13, e14⟩ := hO v hv
    rw [pv v] at hy
    obtain ⟨f, g, q, q1, q2⟩ := hS v hv
    refine ⟨fun i => if i = p then pay else f i, fun i => if i = p then cl else g i, fun i hi => ?_, by rw [smN_upd, e13, q1], by rw [smN_upd, e14, q2]⟩
    show PYd D _ s i (if i = p then pay else f i) (if i = p then cl else g i)
    by_cases c : i = p
    · rw [if_pos c, if_pos c, c]; exact hy
    · rw [if_neg c, if_neg c]; exact q i (by omega)
theorem wg_L18 {Z : jZ} {I0 : jI} (w0 : WD Z I0) {v0 v8 u0 u1 u2 u3 u4 u41 u5 u8 uL0 uC0 uL1 uC1 uP p13 p14 : Nat} {pc rc : Nat → Nat} {D : DAT} {a : Nat → Int32} (s : Nat) (hs : s < dN D) (v1 : Int32) (e1 : v1.toInt = (s : Int)) {Q : jI → jL → Prop}
    (hQ : ∀ (I' : jI) (L' : jL), CWD Z I' v0 v8 u0 u1 u2 u3 u4 u41 u5 u8 uL0 uC0 uL1 uC1 uP p13 p14 pc rc D a → FR Waf Z I0 Z I' → (∀ q, q < dP D → RADd Z I' L' rc D a q (s + 1)) → SUMo D a s (dP D) (I' p13) (I' p14) → Q I' L') :
    ∀ (k p : Nat) (v2 : Int32) (I : jI) (L : jL), dP D + 1 ≤ k + p → p ≤ dP D → v2.toInt = (p : Int) → CWD Z I v0 v8 u0 u1 u2 u3 u4 u41 u5 u8 uL0 uC0 uL1 uC1 uP p13 p14 pc rc D a → FR Waf Z I0 Z I → (∀ q, q < dP D → RADd Z I L rc D a q (s + 1)) → SUMo D a s p (I p13) (I p14) → f_X11_weigh_L18 Z Q k v0 v1 v2 I L := by
  have z1 : (1 : Int32).toInt = 1 := rfl
  intro k
  induction k with
  | zero => intro p v2 I L hk hi; omega
  | succ k ih =>
    intro p v2 I L hk hi e2 X f0 h hS
    have p6 := X.dok.2.1
    unfold f_X11_weigh_L18
    refine ⟨fun c => ?_, fun c => ?_⟩
    · have c := (i_le X.hp e2).mp c
      have ep : p = dP D := by omega
      subst ep
      exact hQ I L X f0 h hS
    · have c := (not_congr (i_le X.hp e2)).mp c
      have hp : p < dP D := by omega
      refine X.find p hp v2 e2 ⟨(fun q => by cases q), fun b hb' => ?_⟩
      cases hb'
      intro b h8; cases (X.pil p hp).2.2.1.symm.trans h8
      intro b hb; cases X.h13.symm.trans hb
      intro b hb; cases X.h14.symm.trans hb
      refine wg_one X s hs p hp v1 e1 h hS (fun I' L' w' f' h' hS' => ?_)
      unfold f_X11_weigh_b52
      intro x ex
      exact ih (p + 1) x I' L' (by omega) (by omega) (by rw [ex]; exact (i_add e2 z1 (by omega) (by omega)).trans (by omega)) (X.fr w' f' (by decide) (by decide)) (f0.trans w0.1 w0.2.1 f') h' hS'
/-- offers weighed -/
theorem r_X11_weigh {L : jL} {Z : jZ} {I : jI} {v0 v8 u0 u1 u2 u3 u4 u41 u5 u8 uL0 uC0 uL1 uC1 uP p13 p14 : Nat} {pc rc : Nat → Nat} {D : DAT} {a : Nat → Int32} (X : CWD Z I v0 v8 u0 u1 u2 u3 u4 u41 u5 u8 uL0 uC0 uL1 uC1 uP p13 p14 pc rc D a) (s : Nat) (hs : s < dN D) (v1 : Int32) (e1 : v1.toInt = (s : Int)) (h : ∀ q, q < dP D → RADd Z I L rc D a q (s + 1)) {Q : jI → jL → Prop}
    (hQ : ∀ (I' : jI) (L' : jL), CWD Z I' v0 v8 u0 u1 u2 u3 u4 u41 u5 u8 uL0 uC0 uL1 uC1 uP p13 p14 pc rc D a → FR Waf Z I Z I' → (∀ q, q < dP D → RADd Z I' L' rc D a q (s + 1)) → SUMo D a s (dP D) (I' p13) (I' p14) → Q I' L') : f_X11_weigh v0 v1 Z I L Q := by
  have w := X.w
  have kv := X.kv
  obtain ⟨x, ex, k13, l13⟩ := sh_f w.1 kv (j := 13) (k := 14) (m := 21) rfl
  cases X.h13.symm.trans ex
  obtain ⟨x, ex, k14, l14⟩ := sh_f w.1 kv (j := 14) (k := 14) (m := 21) rfl
  cases X.h14.symm.trans ex
  have n34 : p13 ≠ p14 := ds_ne w.2.1 kv X.h13 X.h14 rfl rfl (by decide)
  unfold f_X11_weigh
  intro b hb; cases X.h13.symm.trans hb
  refine r_J7_fill_53178 w p13 v0 11 13 21 k13 kv X.h13 (by decide) rfl l13 (by omega) 0 (fun i => by first | exact trivial | (constructor <;> decide)) (fun I1 w1 f1 z1' => ?_)
  intro b hb; cases X.h14.symm.trans hb
  refine r_J7_fill_53178 w1 p14 v0 11 14 21 k14 kv X.h14 (by decide) rfl l14 (by omega) 0 (fun i => by first | exact trivial | (constructor <;> decide)) (fun I2 w2 f2 z2' => ?_)
  have f12 : FR Waf Z I Z I2 := (f1.mono (by decide)).trans w.1 w.2.1 (f2.mono (by decide))
  have X2 := X.fr w2 f12 (by decide) (by decide)
  have i13 : I2 p13 = I1 p13 := f2.2.2.2 v0 11 13 p13 kv X.h13 (by rw [k13.2]; rfl) rfl (by decide)
  refine ⟨dP D + 1, wg_L18 w s hs v1 e1 hQ (dP D + 1) 0 0 I2 L (by omega) (by omega) rfl X2 f12 (fun q hq => RAD_fr w (X.pil q hq).2.2.2.1 f12 (by decide) (fun _ _ _ _ => rfl) (h q hq)) (fun v hv => ⟨fun _ => 0, fun _ => 0, fun q hq => absurd hq (Nat.not_lt_zero q), ?_, ?_⟩)⟩
  · rw [i13, z1' v hv]; rfl
  · rw [z2' v hv]; rfl
/-- the first ASKS that is paid most -/
theorem r_X11_mostPaid {Z : jZ} {I : jI} {L : jL} (v0 p13 : Nat) (h13 : jr Z v0 13 = some p13) {Q : Int32 → jI → jL → Prop} (hQ : ∀ r : Int32, r.toInt = (bst (fun v => (I p13 v).toInt) 20 : Int) → Q r I L) : f_X11_mostPaid v0 Z I L Q := by
  have z1 : (1 : Int32).toInt = 1 := rfl
  have z20 : (20 : Int32).toInt = 20 := rfl
  have lp : ∀ (k v : Nat) (v1 v2 : Int32), 22 ≤ k + v → 1 ≤ v → v ≤ 21 → v2.toInt = (v : Int) → v1.toInt = (bst (fun v => (I p13 v).toInt) (v - 1) : Int) → f_X11_mostPaid_L4 Z Q k v0 v1 v2 I L := by
    intro k
    induction k with
    | zero => intro v v1 v2 hk h1 h2; omega
    | succ k ih =>
      intro v v1 v2 hk h1 h2 e2 e1
      have lb := bst_le (fun v => (I p13 v).toInt) (v - 1)
      unfold f_X11_mostPaid_L4
      refine ⟨fun c => ?_, fun c => ?_⟩
      · have c := (i_lt z20 e2).mp c
        have ev : v = 21 := by omega
        subst ev
        exact hQ v1 e1
      · have c := (not_congr (i_lt z20 e2)).mp c
        have n2 : v2.toNatClampNeg = v := by have := i_nat e2 (by omega); omega
        have n1 : v1.toNatClampNeg = bst (fun v => (I p13 v).toInt) (v - 1) := by have := i_nat e1 (by omega); omega
        have nx : ∀ x : Int32, x = v2 + 1 → x.toInt = ((v + 1 : Nat) : Int) := fun x ex => by
          rw [ex]
          exact (i_add e2 z1 (by omega) (by omega)).trans (by omega)
        have eb : bst (fun v => (I p13 v).toInt) v = if (I p13 (bst (fun v => (I p13 v).toInt) (v - 1))).toInt < (I p13 v).toInt then v else bst (fun v => (I p13 v).toInt) (v - 1) := by
          obtain ⟨u, rfl⟩ : ∃ u, v = u + 1 := ⟨v - 1, by omega⟩
          rfl
        intro b hb; cases h13.symm.trans hb
        refine ⟨vi_of e2 (by omega) (by omega), ?_⟩
        intro b hb; cases h13.symm.trans hb
        rw [n2, n1]
        refine ⟨vi_of e1 (by omega) (by omega), fun c2 => ?_, fun c2 => ?_⟩
        · have c2 := (i_le (x := I p13 v) (y := I p13 (bst (fun v => (I p13 v).toInt) (v - 1))) rfl rfl).mp c2
          rw [if_neg (by omega)] at eb
          unfold f_X11_mostPaid_b30
          intro x ex
          exact ih (v + 1) v1 x (by omega) (by omega) (by omega) (nx x ex) (by rw [show v + 1 - 1 = v by omega, eb]; exact e1)
        · have c2 := (not_congr (i_le (x := I p13 v) (y := I p13 (bst (fun v => (I p13 v).toInt) (v - 1))) rfl rfl)).mp c2
          rw [if_pos (by omega)] at eb
          unfold f_X11_mostPaid_b30
          intro x ex
          exact ih (v + 1) v2 x (by omega) (by omega) (by omega) (nx x ex) (by rw [show v + 1 - 1 = v by omega, eb]; exact e2)
  unfold f_X11_mostPaid
  exact ⟨22, lp 22 1 0 1 (by omega) (by omega) (by omega) rfl rfl⟩
set_option maxHeartbeats 4000000 in
/-- one pilgrim's moves measured again: step s asks v -/
theorem ms_one {L : jL} {a' : Nat → Int32} {Z : jZ} {I : jI} {v0 v8 u0 u1 u2 u3 u4 u41 u5 u8 uL0 uC0 uL1 uC1 uP p13 p14 : Nat} {pc rc : Nat → Nat} {D : DAT} {a : Nat → Int32} (X : CWD Z I v0 v8 u0 u1 u2 u3 u4 u41 u5 u8 uL0 uC0 uL1 uC1 uP p13 p14 pc rc D a') (s : Nat) (hs : s < dN D) (v : Int32) (ha : a' = updA a s v) (ok : aOK a) (p : Nat) (hp : p < dP D) (v1 : Int32) (e1 : v1.toInt = (s : Int)) (h : RADd Z I L rc D a p (s + 1)) {Q : jI → jL → Prop}
    (hQ : ∀ (I' : jI) (L' : jL), WD Z I' → FR Wms Z I Z I' → RADd Z I' L' rc D a' p (s + 1) → OTH Z I L Z I' L' rc (dP D) p → Q I' L') : f_X6_measure (rc p) (v1 + (1 : Int32)) (v1 + (3 : Int32)) Z I L Q := by
  subst ha
  have z1 : (1 : Int32).toInt = 1 := rfl
  have z3 : (3 : Int32).toInt = 3 := rfl
  have w := X.w
  have d := X.dok
  have n24 := d.1
  obtain ⟨-, -, -, k6, -⟩ := X.pil p hp
  obtain ⟨t4, t5, t6, t7, u9, u10, b0, b1, b2, b4, b5, b6, b7, d0, d1, d2, d4, d5, d6, d7, R, R2, lu, lf, hM, hu, h9, h10, r9, r10, hR, hR2, hW, hW2, hfl, h14⟩ := h
  obtain ⟨x, ex, ku9⟩ := sh_o w.1 k6 (j := 9) (k := 7) rfl
  cases h9.symm.trans ex
  obtain ⟨x, ex, ku10⟩ := sh_o w.1 k6 (j := 10) (k := 7) rfl
  cases h10.symm.trans ex
  have n910 : u9 ≠ u10 := ds_ne w.2.1 k6 h9 h10 rfl rfl (by decide)
  have utA := X.utv p u10 ku10
  have utB := X.utv p u9 ku9
  have n9 : ¬ UTv Z rc (dP D) p u10 u9 := fun q => by
    rcases q with q | q
    · exact X.nU p hp u9 (Or.inl h9) q
    · exact n910 q
  have n10 : ¬ UTv Z rc (dP D) p u9 u10 := fun q => by
    rcases q with q | q
    · exact X.nU p hp u10 (Or.inr h10) q
    · exact n910 q.symm
  have cg : ∀ lw st fr lp : Int, 0 ≤ st → st ≠ (s : Int) → PRa D (updA a s v) lw st fr lp (dLd D p) = PRa D a lw st fr lp (dLd D p) := dC_put (p := p)
  refine loc10m_X6_measure (Q1 := fun I' L' => KP (OWN Z (UTv Z rc (dP D) p u10) (UTt rc (dP D) p)) Z I L Z I' L' ∧ WD Z I' ∧ FR Wms Z I Z I' ∧ MVs Z I' (rc p) t4 t5 t6 t7 (dLp D p) (dN D) (dOp D p) (dC D (updA a s v) p) (dE D p) lu) (dn_own10 w utB k6 (X.nT p hp) h10 n10) (KP.rf (OWN_in w utB)) (loc9m_X6_measure (dn_own9 w utA k6 (X.nT p hp) h9 n9) (KP.rf (OWN_in w utA)) (r_X6_measure (X.sq p hp) (PR := PRa D a) hM h14 s hs cg _ _ ((i_add e1 z1 (by omega) (by omega)).trans (by omega)) ((i_add e1 z3 (by omega) (by omega)).trans (by omega)) (Q := fun I' L' => WD Z I' ∧ FR Wms Z I Z I' ∧ MVs Z I' (rc p) t4 t5 t6 t7 (dLp D p) (dN D) (dOp D p) (dC D (updA a s v) p) (dE D p) lu) (fun I' L' q1 q2 q3 => ⟨q1, q2, q3⟩)) (fun I' L' kp q => ⟨kp, q⟩)) (fun I' L' kpB hq => ?_)
  obtain ⟨kpA, w', f', m'⟩ := hq
  obtain ⟨g1, g2, g3⟩ := RR_kp kpA (fun x q => Or.inl ⟨u10, Or.inr rfl, q⟩) r10 hR2
  obtain ⟨g4, g5, g6⟩ := RR_kp kpB (fun x q => Or.inl ⟨u9, Or.inr rfl, q⟩) r9 hR
  refine hQ I' L' w' f' ⟨t4, t5, t6, t7, u9, u10, b0, b1, b2, b4, b5, b6, b7, d0, d1, d2, d4, d5, d6, d7, R, R2, lu, lf, m', hu, h9, h10, g4, g1, g5, g2, fun q hq => ROW_cg (fun x far h1 h2 h3 => CC_same cg x far h1 h2 (Or.inl (by omega))) (hW q hq), fun q h1 h2 => EROW_cg (fun x far h3 h4 => CC_same cg x far h3 (by omega) (Or.inr (by omega))) (hW2 q h1 h2), by rw [g6]; exact hfl, ?_⟩ (OTH_kp kpA (OWN_mono (fun _ q => Or.inl q) (fun _ q => q)))
  rw [f'.2.2.1 _ 6 14 k6 (by decide) (by decide)]; exact h14
theorem ma_L2 {Z : jZ} {I0 : jI} (w0 : WD Z I0) {a' : Nat → Int32} {v0 v8 u0 u1 u2 u3 u4 u41 u5 u8 uL0 uC0 uL1 uC1 uP p13 p14 : Nat} {pc rc : Nat → Nat} {D : DAT} {a : Nat → Int32} (s : Nat) (hs : s < dN D) (v : Int32) (ha : a' = updA a s v) (ok : aOK a) (v1 : Int32) (e1 : v1.toInt = (s : Int)) {Q : jI → jL → Prop}
    (hQ : ∀ (I' : jI) (L' : jL), CWD Z I' v0 v8 u0 u1 u2 u3 u4 u41 u5 u8 uL0 uC0 uL1 uC1 uP p13 p14 pc rc D a' → FR Wms Z I0 Z I' → (∀ q, q < dP D → RADd Z I' L' rc D a' q (s + 1)) → Q I' L') :
    ∀ (k p : Nat) (v2 : Int32) (I : jI) (L : jL), dP D + 1 ≤ k + p → p ≤ dP D → v2.toInt = (p : Int) → CWD Z I v0 v8 u0 u1 u2 u3 u4 u41 u5 u8 uL0 uC0 uL1 uC1 uP p13 p14 pc rc D a' → FR Wms Z I0 Z I → (∀ q, q < p → RADd Z I L rc D a' q (s + 1)) → (∀ q, p ≤ q → q < dP D → RADd Z I L rc D a q (s + 1)) → f_X11_measureAllAt_L2 Z Q k v0 v1 v2 I L := by
  have z1 : (1 : Int32).toInt = 1 := rfl
  intro k
  induction k with
  | zero => intro p v2 I L hk hi; omega
  | succ k ih =>
    intro p v2 I L hk hi e2 X f0 h1 h2
    have p6 := X.dok.2.1
    unfold f_X11_measureAllAt_L2
    refine ⟨fun c => ?_, fun c => ?_⟩
    · have c := (i_le X.hp e2).mp c
      exact hQ I L X f0 (fun q hq => h1 q (by omega))
    · have c := (not_congr (i_le X.hp e2)).mp c
      have hp : p < dP D := by omega
      refine X.find p hp v2 e2 ⟨(fun q => by cases q), fun b hb' => ?_⟩
      cases hb'
      intro b h8; cases (X.pil p hp).2.2.1.symm.trans h8
      refine ms_one X s hs v ha ok p hp v1 e1 (h2 p (Nat.le_refl _) hp) (fun I' L' w' f' hr ho => ?_)
      unfold f_X11_measureAllAt_b33
      intro x ex
      refine ih (p + 1) x I' L' (by omega) (by omega) (by rw [ex]; exact (i_add e2 z1 (by omega) (by omega)).trans (by omega)) (X.fr w' f' (by decide) (by decide)) (f0.trans w0.1 w0.2.1 f') (fun q hq => ?_) (fun q g1 g2 => OTH_d ho g2 (by omega) (h2 q (by omega) g2))
      by_cases c9 : q = p
      · rw [c9]; exact hr
      · exact OTH_d ho (by omega) c9 (h1 q (by omega))
theorem r_X11_measureAllAt {L : jL} {a' : Nat → Int32} {Z : jZ} {I : jI} {v0 v8 u0 u1 u2 u3 u4 u41 u5 u8 uL0 uC0 uL1 uC1 uP p13 p14 : Nat} {pc rc : Nat → Nat} {D : DAT} {a : Nat → Int32} (X : CWD Z I v0 v8 u0 u1 u2 u3 u4 u41 u5 u8 uL0 uC0 uL1 uC1 uP p13 p14 pc rc D a') (s : Nat) (hs : s < dN D) (v : Int32) (ha : a' = updA a s v) (ok : aOK a) (v1 : Int32) (e1 : v1.toInt = (s : Int)) (h : ∀ q, q < dP D → RADd Z I L rc D a q (s + 1)) {Q : jI → jL → Prop}
    (hQ : ∀ (I' : jI) (L' : jL), CWD Z I' v0 v8 u0 u1 u2 u3 u4 u41 u5 u8 uL0 uC0 uL1 uC1 uP p13 p14 pc rc D a' → FR Wms Z I Z I' → (∀ q, q < dP D → RADd Z I' L' rc D a' q (s + 1)) → Q I' L') : f_X11_measureAllAt v0 v1 Z I L Q := by
  unfold f_X11_measureAllAt
  exact ⟨dP D + 1, ma_L2 X.w s hs v ha ok v1 e1 hQ (dP D + 1) 0 0 I L (by omega) (by omega) rfl X FR.rf (fun q hq => absurd hq (Nat.not_lt_zero q)) (fun q _ hq => h q hq)⟩
def Whg : List (Nat × Nat) := [(3, 2), (6, 4), (6, 5), (6, 6), (6, 7), (6, 8), (6, 12), (6, 13), (6, 14), (6, 15), (7, 1), (7, 2), (7, 3), (7, 4), (7, 5), (7, 8), (7, 9), (8, 2), (8, 8), (11, 13), (11, 14)]
set_option maxHeartbeats 2000000 in
/-- a round of the class's market -/
theorem hg_L53 {B : Nat × Nat} {T : Nat} {Z0 : jZ} {I0 : jI} (w0 : WD Z0 I0) {v0 v8 u0 u1 u2 u3 u4 u41 u5 u8 uL0 uC0 uL1 uC1 uP p13 p14 : Nat} {pc rc : Nat → Nat} {D : DAT} {a : Nat → Int32} (ok : aOK a) {Q : Int32 → jZ → jI → jL → Prop}
    (hQ : ∀ (r : Int32) (Z' : jZ) (I' : jI) (L' : jL) (a' : Nat → Int32) (ch : Nat), RNm D (dN D) a a' ch → r.toInt = (if ch = 0 then 0 else 1) → CWD Z' I' v0 v8 u0 u1 u2 u3 u4 u41 u5 u8 uL0 uC0 uL1 uC1 uP p13 p14 pc rc D a' → BUD B Z' T → FR Whg Z0 I0 Z' I' → CP Z0 Z' → Q r Z' I' L') :
    ∀ (k i : Nat) (a' : Nat → Int32) (ch : Nat) (v1 v2 : Int32) (Z : jZ) (I : jI) (L : jL), dN D + 1 ≤ k + i → i ≤ dN D → v2.toInt = (i : Int) → RNm D i a a' ch → v1.toInt = (if ch = 0 then 0 else 1) → CWD Z I v0 v8 u0 u1 u2 u3 u4 u41 u5 u8 uL0 uC0 uL1 uC1 uP p13 p14 pc rc D a' → BUD B Z T → FR Whg Z0 I0 Z I → CP Z0 Z → (∀ q, q < dP D → RADd Z I L rc D a' q (tS i)) → f_X11_haggle_L53 B Q k v0 v1 v2 Z I L := by
  have z1 : (1 : Int32).toInt = 1 := rfl
  have z0 : (0 : Int32).toInt = 0 := rfl
  have z20 : (20 : Int32).toInt = 20 := rfl
  intro k
  induction k with
  | zero => intro i a' ch v1 v2 Z I L hk hi; omega
  | succ k ih =>
    intro i a' ch v1 v2 Z I L hk hi e2 hR e1 X bd f0 cp0 h
    have n24 := X.dok.1
    have w := X.w
    unfold f_X11_haggle_L53
    intro b hb; cases X.h2.symm.trans hb
    refine ⟨fun c => ?_, fun c => ?_⟩
    · have c := (i_le X.hn e2).mp c
      have ei : i = dN D := by omega
      subst ei
      refine ⟨?_, hQ v1 Z I L a' ch hR e1 X bd f0 cp0⟩
      by_cases c0 : ch = 0
      · rw [if_pos c0] at e1
        exact Or.inl ((i_eq e1 z0).mpr rfl)
      · rw [if_neg c0] at e1
        exact Or.inr ((i_eq e1 z1).mpr rfl)
    · have c := (not_congr (i_le X.hn e2)).mp c
      have hs : i < dN D := by omega
      have ok' := RNm_ok ok i a' ch hR
      have as := ok' i
      have n2 : v2.toNatClampNeg = i := by have := i_nat e2 (by omega); omega
      have nx : ∀ x : Int32, x = v2 + 1 → x.toInt = ((i + 1 : Nat) : Int) := fun x ex => by
        rw [ex]
        exact (i_add e2 z1 (by omega) (by omega)).trans (by omega)
      refine r_X11_climbAllTo X bd i hs v2 e2 h (fun Z1 I1 L1 X1 bd1 f1 cp1 h1 => ?_)
      refine r_X11_weigh X1 i hs v2 e2 h1 (fun I2 L2 X2 f2 h2 hS => ?_)
      refine r_X11_mostPaid v0 p13 X2.h13 (fun r24 er => ?_)
      have lb := bst_le (fun v => (I2 p13 v).toInt) 20
      have f02 : FR Whg Z0 I0 Z1 I2 := (f0.trans w0.1 w0.2.1 (f1.mono (by decide))).trans w0.1 w0.2.1 (f2.mono (by decide))
      have cp02 := CP.trans f0.1 cp0 cp1
      have tot : ∀ v, v < 21 → ∃ c, TOT D (updA a' i (Int32.ofNat v)) i ((fun v => (I2 p13 v).toInt) v) c := fun v hv => ⟨_, SUMo_tot hS v hv⟩
      have a2 : I2 u2 i = a' i := by rw [X2.iA]
      intro b hb; cases X2.h2.symm.trans hb
      intro b hb; cases X2.S.2.2.2.1.symm.trans hb
      refine ⟨vi_of e2 (by omega) (by omega), fun x28 e28 => ?_⟩
      rw [n2, a2] at e28
      subst e28
      have nA : (a' i).toNatClampNeg = (a' i).toInt.toNat := rfl
      have nR : r24.toNatClampNeg = bst (fun v => (I2 p13 v).toInt) 20 := by have := i_nat er (by omega); omega
      unfold f_X11_isAsked
      refine ⟨fun c2 => absurd ((i_lt rfl z0).mp c2) (by omega), fun _ => ⟨fun c2 => absurd ((i_lt z20 rfl).mp c2) (by omega), fun _ => ⟨fun c2 => absurd ((i_eq z1 z0).mp c2) (by decide), fun _ => ?_⟩⟩⟩
      intro b hb; cases X2.h13.symm.trans hb
      refine ⟨vi_of er (by omega) (by omega), ?_⟩
      intro b hb; cases X2.h13.symm.trans hb
      refine ⟨vi_of rfl (by omega) (by omega), ?_⟩
      rw [nR, nA]
      refine ⟨fun c2 => ?_, fun c2 => ?_⟩
      · have c2 := (i_le (x := I2 p13 (bst (fun v => (I2 p13 v).toInt) 20)) (y := I2 p13 (a' i).toInt.toNat) rfl rfl).mp c2
        unfold f_X11_haggle_b131
        intro x ex
        refine ih (i + 1) a' (if ch = 0 ∧ (0 : Nat) = 0 then 0 else 1) v1 x Z1 I2 L2 (by omega) (by omega) (nx x ex) ⟨a', ch, 0, hR, ⟨fun v => (I2 p13 v).toInt, tot, Or.inr ⟨Int.not_lt.mpr c2, rfl, rfl⟩⟩, rfl⟩ ?_ X2 bd1 f02 cp02 h2
        rw [e1]
        by_cases c0 : ch = 0
        · rw [if_pos c0, if_pos (show ch = 0 ∧ (0 : Nat) = 0 from ⟨c0, rfl⟩), if_pos rfl]
        · rw [if_neg c0, if_neg (show ¬ (ch = 0 ∧ (0 : Nat) = 0) from fun h => c0 h.1), if_neg (by omega)]
      · have c2 := (not_congr (i_le (x := I2 p13 (bst (fun v => (I2 p13 v).toInt) 20)) (y := I2 p13 (a' i).toInt.toNat) rfl rfl)).mp c2
        intro b hb; cases X2.h2.symm.trans hb
        intro b hb; cases X2.S.2.2.2.1.symm.trans hb
        refine ⟨vi_of e2 (by omega) (by omega), fun I45 e45 => ?_⟩
        rw [n2] at e45
        obtain ⟨X3, f3⟩ := X2.put i r24 (by omega)
        rw [← e45] at X3 f3
        have ob : r24 = Int32.ofNat (bst (fun v => (I2 p13 v).toInt) 20) := i_of er (by omega)
        refine r_X11_measureAllAt X3 i hs r24 rfl ok' v2 e2 (fun q hq => RAD_fr X2.w (X2.pil q hq).2.2.2.1 f3 (by decide) (fun _ _ _ _ => rfl) (h2 q hq)) (fun I4 L4 X4 f4 h4 => ?_)
        unfold f_X11_haggle_b131
        intro x ex
        refine ih (i + 1) (updA a' i r24) 1 1 x Z1 I4 L4 (by omega) (by omega) (nx x ex) ⟨a', ch, 1, hR, ⟨fun v => (I2 p13 v).toInt, tot, Or.inl ⟨Int.not_le.mp c2, by rw [ob], rfl⟩⟩, ?_⟩ rfl X4 bd1 ((f02.trans w0.1 w0.2.1 (f3.mono (by decide))).trans w0.1 w0.2.1 (f4.mono (by decide))) cp02 h4
        rw [if_neg (by omega)]
set_option maxHeartbeats 4000000 in
/-- one pilgrim's routes laid and surveyed -/
theorem ls_one {B : Nat × Nat} {T : Nat} {L : jL} {Z : jZ} {I : jI} {v0 v8 u0 u1 u2 u3 u4 u41 u5 u8 uL0 uC0 uL1 uC1 uP p13 p14 : Nat} {pc rc : Nat → Nat} {D : DAT} {a : Nat → Int32} (X : CWD Z I v0 v8 u0 u1 u2 u3 u4 u41 u5 u8 uL0 uC0 uL1 uC1 uP p13 p14 pc rc D a) (bd : BUD B Z T) (p : Nat) (hp : p < dP D) {Q : jZ → jI → jL → Prop}
    (hQ : ∀ (Z' : jZ) (I' : jI) (L' : jL), WD Z' I' → BUD B Z' T → FR Whg Z I Z' I' → CP Z Z' → CWD Z' I' v0 v8 u0 u1 u2 u3 u4 u41 u5 u8 uL0 uC0 uL1 uC1 uP p13 p14 pc rc D a → RADd Z' I' L' rc D a p 1 → OTH Z I L Z' I' L' rc (dP D) p → Q Z' I' L') :
    f_X6_lay (rc p) (I (pc p) 3) (I (pc p) 4) (-1 : Int32) Z I L (fun I67 L68 => (∀ b71 : Nat, jr Z (pc p) 8 = some b71 → (f_X6_survey B b71 Z I67 L68 (fun Z73 I74 L75 => Q Z73 I74 L75)))) := by
  have w := X.w
  have d := X.dok
  have ok := X.ok
  obtain ⟨-, -, g8, k6, -⟩ := X.pil p hp
  obtain ⟨e3, e4, eK, eP, e5⟩ := X.piv p hp
  obtain ⟨l3, rl, rK, rP⟩ := d.2.2.2.2 p hp
  obtain ⟨u9, h9, ku9⟩ := sh_o w.1 k6 (j := 9) (k := 7) rfl
  obtain ⟨u10, h10, ku10⟩ := sh_o w.1 k6 (j := 10) (k := 7) rfl
  have ut := X.utk p
  have dn := dn_own6 w ut k6 (X.nT p hp) h9 (X.nU p hp u9 (Or.inl h9)) h10 (X.nU p hp u10 (Or.inr h10))
  rw [e4]
  refine loc_X6_lay dn (KP.rf (OWN_in w ut)) (r_X6_lay2 (X.sq p hp) X.S.2.2.2.2.2.1 (dMn D) X.mnc (I (pc p) 3) (dVw D p) (-1 : Int32) (-1) e3 (by decide) (Q := fun I' L' => ∃ t4 t5 t6 t7, WD Z I' ∧ FR Wl Z I Z I' ∧ LAID Z I' (rc p) t4 t5 t6 t7 (dLp D p) (dN D) (dOp D p) (dC D a p) (dE D p) ∧ (I' (rc p) 14).toInt = dLd D p) (fun I' L' t4 t5 t6 t7 a1 a2 a3 a4 => ⟨t4, t5, t6, t7, a1, a2, a3, a4⟩)) (fun I1 L1 kp1 hq => ?_)
  obtain ⟨t4, t5, t6, t7, w1, f1, ⟨lu, hM, hu1, hu2⟩, h14⟩ := hq
  have X1 := X.fr w1 f1 (by decide) (by decide)
  intro b hb; cases g8.symm.trans hb
  have rw7 : ∀ u, jk Z u 7 → ∃ b0 b1 b2 b4 b5 b6 b7, RCs Z u b0 b1 b2 b4 b5 b6 b7 := fun u ku => by
    obtain ⟨b0, q0, -⟩ := sh_o w.1 ku (j := 0) (k := 15) rfl
    obtain ⟨b1, q1, -⟩ := sh_f w.1 ku (j := 1) (k := 14) (m := 25) rfl
    obtain ⟨b2, q2, -⟩ := sh_f w.1 ku (j := 2) (k := 14) (m := 25) rfl
    obtain ⟨b4, q4, -⟩ := sh_f w.1 ku (j := 4) (k := 14) (m := 3) rfl
    obtain ⟨b5, q5, -⟩ := sh_f w.1 ku (j := 5) (k := 14) (m := 3) rfl
    obtain ⟨b6, q6, -⟩ := sh_f w.1 ku (j := 6) (k := 15) (m := 3) rfl
    obtain ⟨b7, q7, -⟩ := sh_f w.1 ku (j := 7) (k := 15) (m := 3) rfl
    exact ⟨b0, b1, b2, b4, b5, b6, b7, q0, q1, q2, q4, q5, q6, q7⟩
  obtain ⟨b0, b1, b2, b4, b5, b6, b7, r9⟩ := rw7 u9 ku9
  obtain ⟨d0, d1, d2, d4, d5, d6, d7, r10⟩ := rw7 u10 ku10
  obtain ⟨e3', e4', eK', eP', e5'⟩ := X1.piv p hp
  have dn1 := dn_own6 w1 (X1.utk p) k6 (X1.nT p hp) h9 (X1.nU p hp u9 (Or.inl h9)) h10 (X1.nU p hp u10 (Or.inr h10))
  refine loc_X6_survey dn1 (KP.rf (OWN_in w1 (X1.utk p))) (r_X6_survey w1 bd (rc p) k6 u9 u10 h9 h10 b0 b1 b2 b4 b5 b6 b7 r9 d0 d1 d2 d4 d5 d6 d7 r10 t4 t5 t6 t7 (dLp D p) (dN D) (dOp D p) (dC D a p) (dE D p) lu hM l3 d.1 (dC_rng ok) (dE_rng d hp) (dKn D p) (dPu D p) eK' eP' (by omega) rP (Q := fun Z' I' L' => ∃ (c0 e0 : Nat) (R2 : Nat → List Int) (lf : Nat → Int), WD Z' I' ∧ BUD B Z' T ∧ FR Wsv Z I1 Z' I' ∧ CP Z Z' ∧ LFs (dLp D p) (dN D) (dOp D p) (dE D p) lf ∧ RCs Z' u9 c0 b1 b2 b4 b5 b6 b7 ∧ RRb I' L' c0 b1 b2 (fun p => if p = 0 then [16777215] else []) ∧ (I' u9 3).toInt = 1 ∧ RCs Z' u10 e0 d1 d2 d4 d5 d6 d7 ∧ RRb I' L' e0 d1 d2 R2 ∧ ∀ q, 1 ≤ q → q ≤ dN D → EROW (dLp D p) (dOp D p) (dC D a p) (dE D p) (dPu D p) (dKn D p) lf (dN D) q (R2 q)) (fun Z' I' L' c0 e0 R2 lf q1 q2 q3 q4 q5 q6 q7 q8 q9 q10 q11 => ⟨c0, e0, R2, lf, q1, q2, q3, q4, q5, q6, q7, q8, q9, q10, q11⟩)) (fun Z' I' L' kp2 hq => ?_)
  obtain ⟨c0, e0, R2, lf, w2, bd2, f2, cp2, hf, rc9, rr9, i9, rc10, rr10, hE⟩ := hq
  have f12 : FR Whg Z I Z' I' := (f1.mono (by decide)).trans w.1 w.2.1 (f2.mono (by decide))
  refine hQ Z' I' L' w2 bd2 f12 cp2 (X1.fr w2 f2 (by decide) (by decide)) ⟨t4, t5, t6, t7, u9, u10, c0, b1, b2, b4, b5, b6, b7, e0, d1, d2, d4, d5, d6, d7, _, R2, lu, lf, MVs_g w1 k6 f2 (by decide) (by decide) (by decide) (by decide) (by decide) (by decide) hM, ⟨hu1, hu2, hf⟩, (f2.2.1 _ 6 9 k6 (by decide) (by decide)).trans h9, (f2.2.1 _ 6 10 k6 (by decide) (by decide)).trans h10, rc9, rc10, rr9, rr10, fun q hq => ?_, fun q h1 h2 => hE q h1 h2, by rw [i9]; decide, ?_⟩ ((OTH_kp kp1 (fun _ q => q)).trans (OTH_kp kp2 (fun _ q => q)))
  · have eq : q = 0 := by omega
    subst eq
    show ROW _ _ _ _ _ _ lu 0 (if 0 = 0 then [16777215] else [])
    rw [if_pos rfl]
    exact ⟨RW_0 rP.1, List.pairwise_singleton _ _⟩
  · rw [f2.2.2.1 _ 6 14 k6 (by decide) (by decide)]; exact h14
theorem hg_L4 {B : Nat × Nat} {T : Nat} {Z0 : jZ} {I0 : jI} (w0 : WD Z0 I0) {v0 v8 u0 u1 u2 u3 u4 u41 u5 u8 uL0 uC0 uL1 uC1 uP p13 p14 : Nat} {pc rc : Nat → Nat} {D : DAT} {a : Nat → Int32} (ok : aOK a) {Q : Int32 → jZ → jI → jL → Prop}
    (hQ : ∀ (r : Int32) (Z' : jZ) (I' : jI) (L' : jL) (a' : Nat → Int32) (ch : Nat), RNm D (dN D) a a' ch → r.toInt = (if ch = 0 then 0 else 1) → CWD Z' I' v0 v8 u0 u1 u2 u3 u4 u41 u5 u8 uL0 uC0 uL1 uC1 uP p13 p14 pc rc D a' → BUD B Z' T → FR Whg Z0 I0 Z' I' → CP Z0 Z' → Q r Z' I' L') :
    ∀ (k p : Nat) (v1 v2 : Int32) (Z : jZ) (I : jI) (L : jL), dP D + 1 ≤ k + p → p ≤ dP D → v2.toInt = (p : Int) → v1 = 0 → CWD Z I v0 v8 u0 u1 u2 u3 u4 u41 u5 u8 uL0 uC0 uL1 uC1 uP p13 p14 pc rc D a → BUD B Z T → FR Whg Z0 I0 Z I → CP Z0 Z → (∀ q, q < p → RADd Z I L rc D a q 1) → f_X11_haggle_L4 B Q k v0 v1 v2 Z I L := by
  have z1 : (1 : Int32).toInt = 1 := rfl
  intro k
  induction k with
  | zero => intro p v1 v2 Z I L hk hi; omega
  | succ k ih =>
    intro p v1 v2 Z I L hk hi e2 e1 X bd f0 cp0 h
    have p6 := X.dok.2.1
    unfold f_X11_haggle_L4
    refine ⟨fun c => ?_, fun c => ?_⟩
    · have c := (i_le X.hp e2).mp c
      exact ⟨dN D + 1, hg_L53 w0 ok hQ (dN D + 1) 0 a 0 v1 0 Z I L (by omega) (by omega) rfl ⟨rfl, rfl⟩ (by rw [e1]; rfl) X bd f0 cp0 (fun q hq => h q (by omega))⟩
    · have c := (not_congr (i_le X.hp e2)).mp c
      have hp : p < dP D := by omega
      refine X.find p hp v2 e2 ⟨(fun q => by cases q), fun b hb' => ?_⟩
      cases hb'
      intro b h8; cases (X.pil p hp).2.2.1.symm.trans h8
      refine ls_one X bd p hp (fun Z' I' L' w' bd' f' cp' X' hr ho => ?_)
      unfold f_X11_haggle_b45
      intro x ex
      refine ih (p + 1) v1 x Z' I' L' (by omega) (by omega) (by rw [ex]; exact (i_add e2 z1 (by omega) (by omega)).trans (by omega)) e1 X' bd' (f0.trans w0.1 w0.2.1 f') (CP.trans f0.1 cp0 cp') (fun q hq => ?_)
      by_cases c9 : q = p
      · rw [c9]; exact hr
      · exact OTH_d ho (by omega) c9 (h q (by omega))
theorem r_X11_haggle {B : Nat × Nat} {T : Nat} {L : jL} {Z : jZ} {I : jI} {v0 v8 u0 u1 u2 u3 u4 u41 u5 u8 uL0 uC0 uL1 uC1 uP p13 p14 : Nat} {pc rc : Nat → Nat} {D : DAT} {a : Nat → Int32} (X : CWD Z I v0 v8 u0 u1 u2 u3 u4 u41 u5 u8 uL0 uC0 uL1 uC1 uP p13 p14 pc rc D a) (bd : BUD B Z T) {Q : Int32 → jZ → jI → jL → Prop}
    (hQ : ∀ (r : Int32) (Z' : jZ) (I' : jI) (L' : jL) (a' : Nat → Int32) (ch : Nat), RNm D (dN D) a a' ch → r.toInt = (if ch = 0 then 0 else 1) → CWD Z' I' v0 v8 u0 u1 u2 u3 u4 u41 u5 u8 uL0 uC0 uL1 uC1 uP p13 p14 pc rc D a' → BUD B Z' T → FR Whg Z I Z' I' → CP Z Z' → Q r Z' I' L') : f_X11_haggle B v0 Z I L Q := by
  unfold f_X11_haggle
  exact ⟨dP D + 1, hg_L4 X.w X.ok hQ (dP D + 1) 0 0 0 Z I L (by omega) (by omega) rfl rfl X bd FR.rf CP.rf (fun q hq => absurd hq (Nat.not_lt_zero q))⟩
def Wmk : List (Nat × Nat) := [(3, 2), (6, 4), (6, 5), (6, 6), (6, 7), (6, 8), (6, 12), (6, 13), (6, 14), (6, 15), (7, 1), (7, 2), (7, 3), (7, 4), (7, 5), (7, 8), (7, 9), (8, 2), (8, 8), (11, 13), (11, 14), (11, 16)]
set_option maxHeartbeats 1000000 in
theorem mk_L29 {B : Nat × Nat} {T : Nat} {Z0 : jZ} {I0 : jI} (w0 : WD Z0 I0) {v0 v8 u0 u1 u2 u3 u4 u41 u5 u8 uL0 uC0 uL1 uC1 uP p13 p14 : Nat} {pc rc : Nat → Nat} {D : DAT} {a : Nat → Int32} (ok : aOK a) (v1 : Int32) (N : Nat) (e1 : v1.toInt = (N : Int)) (hN : N ≤ 3) {Q : Int32 → jZ → jI → jL → Prop}
    (hQ : ∀ (r : Int32) (Z' : jZ) (I' : jI) (L' : jL) (a' : Nat → Int32) (g st : Nat), MKm D N a a' g st → r.toInt = (g : Int) → CWD Z' I' v0 v8 u0 u1 u2 u3 u4 u41 u5 u8 uL0 uC0 uL1 uC1 uP p13 p14 pc rc D a' → BUD B Z' T → FR Wmk Z0 I0 Z' I' → CP Z0 Z' → Q r Z' I' L') :
    ∀ (k j : Nat) (a' : Nat → Int32) (g st : Nat) (v2 v3 v4 : Int32) (Z : jZ) (I : jI) (L : jL), N + 1 ≤ k + j → j ≤ N → v4.toInt = (j : Int) → MKm D j a a' g st → v2.toInt = (g : Int) → v3.toInt = (st : Int) → CWD Z I v0 v8 u0 u1 u2 u3 u4 u41 u5 u8 uL0 uC0 uL1 uC1 uP p13 p14 pc rc D a' → BUD B Z T → FR Wmk Z0 I0 Z I → CP Z0 Z → f_X11_market_L29 B Q k v0 v1 v2 v3 v4 Z I L := by
  have z1 : (1 : Int32).toInt = 1 := rfl
  have z0 : (0 : Int32).toInt = 0 := rfl
  intro k
  induction k with
  | zero => intro j a' g st v2 v3 v4 Z I L hk hi; omega
  | succ k ih =>
    intro j a' g st v2 v3 v4 Z I L hk hi e4 hM e2 e3 X bd f0 cp0
    have ok' := MKm_ok ok j a' g st hM
    have rg := MKm_rng j a' g st hM
    have fin : MKm D N a a' g st → f_X11_market_b70 B Q v0 v2 v3 Z I L := fun hM' => by
      have go : ∀ s : Int64, f_X11_market_b80 B Q v0 v2 v0 s Z I L := fun s => by
        unfold f_X11_market_b80
        intro b hb; cases X.h2.symm.trans hb
        refine s_X8_sumOfAsks X.w v8 X.S.1 (fun r => ?_)
        refine s_X11_tellTwo X.w v0 _ _ X.kv (fun I' L' w' f' => ?_)
        exact hQ v2 Z I' L' a' g st hM' e2 (X.fr w' f' (by decide) (by decide)) bd (f0.trans w0.1 w0.2.1 (f'.mono (by decide))) cp0
      unfold f_X11_market_b70
      exact ⟨fun _ => go 0, fun _ => go 1⟩
    unfold f_X11_market_L29
    refine ⟨fun c => ?_, fun c => ⟨fun c2 => ?_, fun c2 => ?_⟩⟩
    · have c := (i_le e1 e4).mp c
      have ej : j = N := by omega
      subst ej
      exact fin hM
    · have c2 := (not_congr (i_eq e3 z0)).mp c2
      have es : st = 1 := by omega
      subst es
      refine fin ?_
      have := MKm_stay hM (N - j)
      rw [show j + (N - j) = N by omega] at this
      exact this
    · have c := (not_congr (i_le e1 e4)).mp c
      have c2 := (i_eq e3 z0).mp c2
      have es : st = 0 := by omega
      subst es
      refine r_X11_haggle X bd (fun r Z' I' L' a2 ch hR er X' bd' f' cp' => ?_)
      have f0' := f0.trans w0.1 w0.2.1 (f'.mono (by decide : ∀ p ∈ Whg, p ∈ Wmk))
      have cp0' := CP.trans f0.1 cp0 cp'
      have end_ : ∀ s0 : Int32, s0.toInt = (if ch = 0 then 1 else 0) → f_X11_market_b51 B (f_X11_market_L29 B Q k) Q v0 v1 v2 v4 s0 Z' I' L' := fun s0 es0 => by
        have go : ∀ y : Int32, y.toInt = (if ch = 0 then 0 else 1) → f_X11_market_b62 B (f_X11_market_L29 B Q k) Q v0 v1 s0 v4 v2 y Z' I' L' := fun y ey => by
          unfold f_X11_market_b62
          intro x16 e16 x17 e17
          have t17 : x17.toInt = ((j + 1 : Nat) : Int) := by rw [e17]; exact (i_add e4 z1 (by omega) (by omega)).trans (by omega)
          by_cases c0 : ch = 0
          · rw [if_pos c0] at ey es0
            refine ih (j + 1) a2 g 1 x16 s0 x17 Z' I' L' (by omega) (by omega) t17 ⟨a', g, 0, hM, Or.inr ⟨rfl, ch, hR, Or.inl ⟨c0, rfl, rfl⟩⟩⟩ ?_ es0 X' bd' f0' cp0'
            rw [e16]; exact (i_add e2 ey (by omega) (by omega)).trans (by omega)
          · rw [if_neg c0] at ey es0
            refine ih (j + 1) a2 (g + 1) 0 x16 s0 x17 Z' I' L' (by omega) (by omega) t17 ⟨a', g, 0, hM, Or.inr ⟨rfl, ch, hR, Or.inr ⟨c0, rfl, rfl⟩⟩⟩ ?_ es0 X' bd' f0' cp0'
            rw [e16]; exact (i_add e2 ey (by omega) (by omega)).trans (by omega)
        unfold f_X11_market_b51
        refine ⟨fun c9 => go 1 ?_, fun c9 => go 0 ?_⟩
        · have c9 := (i_eq es0 z0).mp c9
          by_cases c0 : ch = 0
          · rw [if_pos c0] at c9; omega
          · rw [if_neg c0]; rfl
        · have c9 := (not_congr (i_eq es0 z0)).mp c9
          by_cases c0 : ch = 0
          · rw [if_pos c0]; rfl
          · rw [if_neg c0] at c9; omega
      refine ⟨fun c9 => end_ 0 ?_, fun c9 => end_ 1 ?_⟩
      · have c9 := (not_congr (i_eq er z0)).mp c9
        by_cases c0 : ch = 0
        · rw [if_pos c0] at c9; omega
        · rw [if_neg c0]; rfl
      · have c9 := (i_eq er z0).mp c9
        by_cases c0 : ch = 0
        · rw [if_pos c0]; rfl
        · rw [if_neg c0] at c9; omega
/-- the market, to the class -/
theorem r_X11_market {B : Nat × Nat} {T : Nat} {L : jL} {Z : jZ} {I : jI} {v0 v8 u0 u1 u2 u3 u4 u41 u5 u8 uL0 uC0 uL1 uC1 uP p13 p14 : Nat} {pc rc : Nat → Nat} {D : DAT} {a : Nat → Int32} (X : CWD Z I v0 v8 u0 u1 u2 u3 u4 u41 u5 u8 uL0 uC0 uL1 uC1 uP p13 p14 pc rc D a) (bd : BUD B Z T) (v1 : Int32) {Q : Int32 → jZ → jI → jL → Prop}
    (hQ : ∀ (r : Int32) (Z' : jZ) (I' : jI) (L' : jL) (a' : Nat → Int32), MKd D a v1 r.toInt a' → CWD Z' I' v0 v8 u0 u1 u2 u3 u4 u41 u5 u8 uL0 uC0 uL1 uC1 uP p13 p14 pc rc D a' → BUD B Z' T → FR Wmk Z I Z' I' → CP Z Z' → Q r Z' I' L') : f_X11_market B v0 v1 Z I L Q := by
  have z1 : (1 : Int32).toInt = 1 := rfl
  have z0 : (0 : Int32).toInt = 0 := rfl
  have z3 : (3 : Int32).toInt = 3 := rfl
  have bad : (dN D = 0 ∨ ¬ (1 ≤ v1.toInt ∧ v1.toInt ≤ 3)) → Q (-1 : Int32) Z I L := fun h => hQ _ Z I L a (Or.inl ⟨h, rfl, rfl⟩) X bd FR.rf CP.rf
  unfold f_X11_market
  refine ⟨fun c => bad (Or.inr ?_), fun c => ⟨fun c2 => bad (Or.inr ?_), fun c2 => ?_⟩⟩
  · have c := (i_lt rfl z1).mp c
    omega
  · have c2 := (i_lt z3 rfl).mp c2
    omega
  · have c := (not_congr (i_lt rfl z1)).mp c
    have c2 := (not_congr (i_lt z3 rfl)).mp c2
    intro b hb; cases X.h2.symm.trans hb
    refine ⟨fun c9 => ?_, fun c9 => bad (Or.inl ?_)⟩
    · have c9 := (not_congr (i_eq X.hn z0)).mp c9
      refine ⟨v1.toInt.toNat + 1, mk_L29 X.w X.ok v1 v1.toInt.toNat (by omega) (by omega) (fun r Z' I' L' a' g st hM er X' bd' f' cp' => hQ r Z' I' L' a' (Or.inr ⟨by omega, ⟨by omega, by omega⟩, g, st, hM, er⟩) X' bd' f' cp') (v1.toInt.toNat + 1) 0 a 0 0 0 0 0 Z I L (by omega) (by omega) rfl ⟨rfl, rfl, rfl⟩ rfl rfl X bd FR.rf CP.rf⟩
    · have c9 := (i_eq X.hn z0).mp c9
      omega
/-! ===== the class: one STEP weighed alone ===== -/
theorem CWD.m15 {Z : jZ} {I : jI} {v0 v8 u0 u1 u2 u3 u4 u41 u5 u8 uL0 uC0 uL1 uC1 uP p13 p14 : Nat} {pc rc : Nat → Nat} {D : DAT} {a : Nat → Int32} {L : jL} (X : CWD Z I v0 v8 u0 u1 u2 u3 u4 u41 u5 u8 uL0 uC0 uL1 uC1 uP p13 p14 pc rc D a) (p t : Nat) (h : RADd Z I L rc D a p t) : (I (rc p) 15).toInt = (dN D : Int) := by
  obtain ⟨t4, t5, t6, t7, u9, u10, b0, b1, b2, b4, b5, b6, b7, d0, d1, d2, d4, d5, d6, d7, R, R2, lu, lf, hM, -⟩ := h
  exact hM.2.2.1
theorem rt_L2 {B : Nat × Nat} {T : Nat} {Z0 : jZ} {I0 : jI} {L0 : jL} (w0 : WD Z0 I0) {v0 v8 u0 u1 u2 u3 u4 u41 u5 u8 uL0 uC0 uL1 uC1 uP p13 p14 : Nat} {pc rc : Nat → Nat} {D : DAT} {a : Nat → Int32} (p : Nat) (hp : p < dP D) (s : Nat) (hs : s < dN D) (v1 : Int32) (e1 : v1.toInt = (s : Int)) {Q : jZ → jI → jL → Prop}
    (hQ : ∀ (Z' : jZ) (I' : jI) (L' : jL), CWD Z' I' v0 v8 u0 u1 u2 u3 u4 u41 u5 u8 uL0 uC0 uL1 uC1 uP p13 p14 pc rc D a → BUD B Z' T → FR W7 Z0 I0 Z' I' → CP Z0 Z' → RADd Z' I' L' rc D a p (s + 1) → OTH Z0 I0 L0 Z' I' L' rc (dP D) p → Q Z' I' L') :
    ∀ (k q : Nat) (v2 : Int32) (Z : jZ) (I : jI) (L : jL), s + 2 ≤ k + q → 1 ≤ q → q ≤ s + 1 → v2.toInt = (q : Int) → CWD Z I v0 v8 u0 u1 u2 u3 u4 u41 u5 u8 uL0 uC0 uL1 uC1 uP p13 p14 pc rc D a → BUD B Z T → FR W7 Z0 I0 Z I → CP Z0 Z → RADd Z I L rc D a p q → OTH Z0 I0 L0 Z I L rc (dP D) p → f_X6_raiseTo_L2 B Q k (rc p) v1 v2 Z I L := by
  have z1 : (1 : Int32).toInt = 1 := rfl
  intro k
  induction k with
  | zero => intro q v2 Z I L hk h1 h2; omega
  | succ k ih =>
    intro q v2 Z I L hk h1 h2 e2 X bd f0 cp0 hr ho
    have n24 := X.dok.1
    unfold f_X6_raiseTo_L2
    refine ⟨fun c => ?_, fun c => ⟨fun c2 => ?_, fun c2 => ?_⟩⟩
    · have c := (i_lt e1 e2).mp c
      have eq : q = s + 1 := by omega
      subst eq
      exact hQ Z I L X bd f0 cp0 hr ho
    · have c := (not_congr (i_lt e1 e2)).mp c
      have c2 := (i_lt (X.m15 p q hr) e2).mp c2
      omega
    · have c := (not_congr (i_lt e1 e2)).mp c
      refine rs_one X bd p hp q (by omega) v2 e2 (by rw [tS_s (by omega)]; exact hr) (fun Z' I' L' w' bd' f' cp' hr' ho' => ?_)
      intro x ex
      exact ih (q + 1) x Z' I' L' (by omega) (by omega) (by omega) (by rw [ex]; exact (i_add e2 z1 (by omega) (by omega)).trans (by omega)) (X.fr w' f' (by decide) (by decide)) bd' (f0.trans w0.1 w0.2.1 f') (CP.trans f0.1 cp0 cp') hr' (ho.trans ho')
theorem wa_L2 {B : Nat × Nat} {T : Nat} {Z0 : jZ} {I0 : jI} (w0 : WD Z0 I0) {v0 v8 u0 u1 u2 u3 u4 u41 u5 u8 uL0 uC0 uL1 uC1 uP p13 p14 : Nat} {pc rc : Nat → Nat} {D : DAT} {a : Nat → Int32} (s : Nat) (hs : s < dN D) (v1 : Int32) (e1 : v1.toInt = (s : Int)) {Q : jZ → jI → jL → Prop}
    (hQ : ∀ (Z' : jZ) (I' : jI) (L' : jL), CWD Z' I' v0 v8 u0 u1 u2 u3 u4 u41 u5 u8 uL0 uC0 uL1 uC1 uP p13 p14 pc rc D a → BUD B Z' T → FR Whg Z0 I0 Z' I' → CP Z0 Z' → SUMo D a s (dP D) (I' p13) (I' p14) → Q Z' I' L') :
    ∀ (k p : Nat) (v2 : Int32) (Z : jZ) (I : jI) (L : jL), dP D + 1 ≤ k + p → p ≤ dP D → v2.toInt = (p : Int) → CWD Z I v0 v8 u0 u1 u2 u3 u4 u41 u5 u8 uL0 uC0 uL1 uC1 uP p13 p14 pc rc D a → BUD B Z T → FR Whg Z0 I0 Z I → CP Z0 Z → (∀ q, q < p → RADd Z I L rc D a q (s + 1)) → f_X11_weighAlone_L2 B Q k v0 v1 v2 Z I L := by
  have z1 : (1 : Int32).toInt = 1 := rfl
  intro k
  induction k with
  | zero => intro p v2 Z I L hk hi; omega
  | succ k ih =>
    intro p v2 Z I L hk hi e2 X bd f0 cp0 h
    have p6 := X.dok.2.1
    unfold f_X11_weighAlone_L2
    refine ⟨fun c => ?_, fun c => ?_⟩
    · have c := (i_le X.hp e2).mp c
      exact r_X11_weigh X s hs v1 e1 (fun q hq => h q (by omega)) (fun I' L' X' f' h' hS => hQ Z I' L' X' bd (f0.trans w0.1 w0.2.1 (f'.mono (by decide))) cp0 hS)
    · have c := (not_congr (i_le X.hp e2)).mp c
      have hp : p < dP D := by omega
      refine X.find p hp v2 e2 ⟨(fun q => by cases q), fun b hb' => ?_⟩
      cases hb'
      intro b h8; cases (X.pil p hp).2.2.1.symm.trans h8
      refine ls_one (Q := fun Z27 I28 L29 => ∀ b34 : Nat, jr Z27 (pc p) 8 = some b34 → f_X6_raiseTo B b34 v1 Z27 I28 L29 (fun Z36 I37 L38 => f_X11_weighAlone_b51 B (f_X11_weighAlone_L2 B Q k) Q v0 v1 v2 Z36 I37 L38)) X bd p hp (fun Z' I' L' w' bd' f' cp' X' hr ho => ?_)
      intro b h8; cases (X'.pil p hp).2.2.1.symm.trans h8
      unfold f_X6_raiseTo
      refine ⟨s + 2, rt_L2 (L0 := L') w' p hp s hs v1 e1 (fun Z2 I2 L2 X2 bd2 f2 cp2 hr2 ho2 => ?_) (s + 2) 1 1 Z' I' L' (by omega) (by omega) (by omega) rfl X' bd' FR.rf CP.rf hr (fun _ _ _ _ _ _ _ _ _ _ _ _ r => r)⟩
      have oo := ho.trans ho2
      unfold f_X11_weighAlone_b51
      intro x ex
      refine ih (p + 1) x Z2 I2 L2 (by omega) (by omega) (by rw [ex]; exact (i_add e2 z1 (by omega) (by omega)).trans (by omega)) X2 bd2 ((f0.trans w0.1 w0.2.1 f').trans w0.1 w0.2.1 (f2.mono (by decide))) (CP.trans (f0.trans w0.1 w0.2.1 f').1 (CP.trans f0.1 cp0 cp') cp2) (fun q hq => ?_)
      by_cases c9 : q = p
      · rw [c9]; exact hr2
      · exact OTH_d oo (by omega) c9 (h q (by omega))
theorem r_X11_weighAlone {B : Nat × Nat} {T : Nat} {L : jL} {Z : jZ} {I : jI} {v0 v8 u0 u1 u2 u3 u4 u41 u5 u8 uL0 uC0 uL1 uC1 uP p13 p14 : Nat} {pc rc : Nat → Nat} {D : DAT} {a : Nat → Int32} (X : CWD Z I v0 v8 u0 u1 u2 u3 u4 u41 u5 u8 uL0 uC0 uL1 uC1 uP p13 p14 pc rc D a) (bd : BUD B Z T) (s : Nat) (hs : s < dN D) (v1 : Int32) (e1 : v1.toInt = (s : Int)) {Q : jZ → jI → jL → Prop}
    (hQ : ∀ (Z' : jZ) (I' : jI) (L' : jL), CWD Z' I' v0 v8 u0 u1 u2 u3 u4 u41 u5 u8 uL0 uC0 uL1 uC1 uP p13 p14 pc rc D a → BUD B Z' T → FR Whg Z I Z' I' → CP Z Z' → SUMo D a s (dP D) (I' p13) (I' p14) → Q Z' I' L') : f_X11_weighAlone B v0 v1 Z I L Q := by
  unfold f_X11_weighAlone
  exact ⟨dP D + 1, wa_L2 X.w s hs v1 e1 hQ (dP D + 1) 0 0 Z I L (by omega) (by omega) rfl X bd FR.rf CP.rf (fun q hq => absurd hq (Nat.not_lt_zero q))⟩
theorem CWD.has {Z : jZ} {I : jI} {v0 v8 u0 u1 u2 u3 u4 u41 u5 u8 uL0 uC0 uL1 uC1 uP p13 p14 : Nat} {pc rc : Nat → Nat} {D : DAT} {a : Nat → Int32} {L : jL} (X : CWD Z I v0 v8 u0 u1 u2 u3 u4 u41 u5 u8 uL0 uC0 uL1 uC1 uP p13 p14 pc rc D a) (v1 : Int32) {Q : Int32 → jI → jL → Prop} (hQ : ∀ r : Int32, ((r.toInt = 1 ∧ 0 ≤ v1.toInt ∧ v1.toInt < (dN D : Int)) ∨ (r.toInt = 0 ∧ ¬ (0 ≤ v1.toInt ∧ v1.toInt < (dN D : Int)))) → Q r I L) : f_X8_has v8 v1 Z I L Q := by
  have z0 : (0 : Int32).toInt = 0 := rfl
  unfold f_X8_has
  have n24 := X.dok.1
  refine ⟨fun c => hQ 0 (Or.inr ⟨rfl, ?_⟩), fun c => ⟨fun c2 => hQ 0 (Or.inr ⟨rfl, ?_⟩), fun c2 => ⟨fun c3 => hQ 0 (Or.inr ⟨rfl, ?_⟩), fun c3 => hQ 1 (Or.inl ⟨rfl, ?_⟩)⟩⟩⟩
  · have c := (i_lt rfl z0).mp c
    omega
  · have c2 := (i_le X.hn rfl).mp c2
    omega
  · have c3 := (i_le (show (24 : Int32).toInt = 24 from rfl) rfl).mp c3
    omega
  · have c := (not_congr (i_lt rfl z0)).mp c
    have c2 := (not_congr (i_le X.hn rfl)).mp c2
    omega
/-- would: what STEP i would be paid for ASKS v -/
def WOd (D : DAT) (a : Nat → Int32) (v1 v2 : Int32) (r : Int) : Prop := (¬ ((0 ≤ v1.toInt ∧ v1.toInt < (dN D : Int)) ∧ 0 ≤ v2.toInt ∧ v2.toInt ≤ 20) ∧ r = -1) ∨ ((0 ≤ v1.toInt ∧ v1.toInt < (dN D : Int)) ∧ (0 ≤ v2.toInt ∧ v2.toInt ≤ 20) ∧ ∃ c, TOT D (updA a v1.toInt.toNat v2) v1.toInt.toNat r c)
theorem WOd_fun {D : DAT} {a : Nat → Int32} {v1 v2 : Int32} {r r' : Int} (d : DOK D) (ok : aOK a) (h : WOd D a v1 v2 r) (h' : WOd D a v1 v2 r') : r = r' := by
  rcases h with ⟨h1, h2⟩ | ⟨h1, h2, c, h3⟩
  · rcases h' with ⟨g1, g2⟩ | ⟨g1, g2, c, g3⟩
    · rw [h2, g2]
    · exact absurd ⟨g1, g2⟩ h1
  · rcases h' with ⟨g1, g2⟩ | ⟨g1, g2, c', g3⟩
    · exact absurd ⟨h1, h2⟩ g1
    · exact (TOT_fun d (aOK_upI ok h2) h3 g3).1
theorem r_X11_would {B : Nat × Nat} {T : Nat} {L : jL} {Z : jZ} {I : jI} {v0 v8 u0 u1 u2 u3 u4 u41 u5 u8 uL0 uC0 uL1 uC1 uP p13 p14 : Nat} {pc rc : Nat → Nat} {D : DAT} {a : Nat → Int32} (X : CWD Z I v0 v8 u0 u1 u2 u3 u4 u41 u5 u8 uL0 uC0 uL1 uC1 uP p13 p14 pc rc D a) (bd : BUD B Z T) (v1 v2 : Int32) {Q : Int32 → jZ → jI → jL → Prop}
    (hQ : ∀ (r : Int32) (Z' : jZ) (I' : jI) (L' : jL), WOd D a v1 v2 r.toInt → CWD Z' I' v0 v8 u0 u1 u2 u3 u4 u41 u5 u8 uL0 uC0 uL1 uC1 uP p13 p14 pc rc D a → BUD B Z' T → FR Whg Z I Z' I' → CP Z Z' → Q r Z' I' L') : f_X11_would B v0 v1 v2 Z I L Q := by
  have z0 : (0 : Int32).toInt = 0 := rfl
  have z1 : (1 : Int32).toInt = 1 := rfl
  have z20 : (20 : Int32).toInt = 20 := rfl
  have bad : ¬ ((0 ≤ v1.toInt ∧ v1.toInt < (dN D : Int)) ∧ 0 ≤ v2.toInt ∧ v2.toInt ≤ 20) → Q (-1 : Int32) Z I L := fun h => hQ _ Z I L (Or.inl ⟨h, rfl⟩) X bd FR.rf CP.rf
  unfold f_X11_would
  intro b hb; cases X.h2.symm.trans hb
  refine X.has v1 (fun r hr => ⟨fun c => bad ?_, fun c => ?_⟩)
  · have c := (i_eq rfl z0).mp c
    omega
  · have c := (not_congr (i_eq rfl z0)).mp c
    obtain ⟨s, e1⟩ : ∃ s : Nat, v1.toInt = (s : Int) := ⟨v1.toInt.toNat, by omega⟩
    have hs : s < dN D := by omega
    unfold f_X11_isAsked
    refine ⟨fun c2 => ?_, fun c2 => ⟨fun c3 => ?_, fun c3 => ?_⟩⟩
    · have c2 := (i_lt rfl z0).mp c2
      exact ⟨fun q => absurd rfl q, fun _ => bad (by omega)⟩
    · have c3 := (i_lt z20 rfl).mp c3
      exact ⟨fun q => absurd rfl q, fun _ => bad (by omega)⟩
    · have c2 := (not_congr (i_lt rfl z0)).mp c2
      have c3 := (not_congr (i_lt z20 rfl)).mp c3
      refine ⟨fun _ => ?_, fun q => absurd ((i_eq z1 z0).mp q) (by decide)⟩
      refine r_X11_weighAlone X bd s hs v1 e1 (fun Z' I' L' X' bd' f' cp' hS => ?_)
      intro b hb; cases X'.h13.symm.trans hb
      refine ⟨vi_of rfl (by omega) (by omega), hQ _ Z' I' L' (Or.inr ⟨by omega, by omega, (I' p14 v2.toInt.toNat).toInt, ?_⟩) X' bd' f' cp'⟩
      have t := SUMo_tot hS v2.toInt.toNat (by omega)
      rw [← i_of (v := v2) (n := v2.toInt.toNat) (by omega) (by omega)] at t
      rw [show v1.toInt.toNat = s by omega]
      exact t
/-- best: the first ASKS for which STEP i is paid most -/
def BEd (D : DAT) (a : Nat → Int32) (v1 : Int32) (r : Int) : Prop := (¬ (0 ≤ v1.toInt ∧ v1.toInt < (dN D : Int)) ∧ r = -1) ∨ ((0 ≤ v1.toInt ∧ v1.toInt < (dN D : Int)) ∧ ∃ f : Nat → Int, (∀ v, v < 21 → ∃ c, TOT D (updA a v1.toInt.toNat (Int32.ofNat v)) v1.toInt.toNat (f v) c) ∧ r = (bst f 20 : Int))
theorem BEd_fun {D : DAT} {a : Nat → Int32} {v1 : Int32} {r r' : Int} (d : DOK D) (ok : aOK a) (h : BEd D a v1 r) (h' : BEd D a v1 r') : r = r' := by
  rcases h with ⟨h1, h2⟩ | ⟨h1, f, hf, h3⟩
  · rcases h' with ⟨g1, g2⟩ | ⟨g1, -⟩
    · rw [h2, g2]
    · exact absurd g1 h1
  · rcases h' with ⟨g1, -⟩ | ⟨-, g, hg, g3⟩
    · exact absurd h1 g1
    · rw [h3, g3, bst_cong 20 (fun v hv => by
        obtain ⟨c, t⟩ := hf v (by omega)
        obtain ⟨c', t'⟩ := hg v (by omega)
        exact (TOT_fun d (aOK_upd ok (by omega)) t t').1)]
theorem r_X11_best {B : Nat × Nat} {T : Nat} {L : jL} {Z : jZ} {I : jI} {v0 v8 u0 u1 u2 u3 u4 u41 u5 u8 uL0 uC0 uL1 uC1 uP p13 p14 : Nat} {pc rc : Nat → Nat} {D : DAT} {a : Nat → Int32} (X : CWD Z I v0 v8 u0 u1 u2 u3 u4 u41 u5 u8 uL0 uC0 uL1 uC1 uP p13 p14 pc rc D a) (bd : BUD B Z T) (v1 : Int32) {Q : Int32 → jZ → jI → jL → Prop}
    (hQ : ∀ (r : Int32) (Z' : jZ) (I' : jI) (L' : jL), BEd D a v1 r.toInt → CWD Z' I' v0 v8 u0 u1 u2 u3 u4 u41 u5 u8 uL0 uC0 uL1 uC1 uP p13 p14 pc rc D a → BUD B Z' T → FR Wmk Z I Z' I' → CP Z Z' → Q r Z' I' L') : f_X11_best B v0 v1 Z I L Q := by
  have z0 : (0 : Int32).toInt = 0 := rfl
  unfold f_X11_best
  intro b hb; cases X.h2.symm.trans hb
  refine X.has v1 (fun r hr => ⟨fun c => ?_, fun c => hQ _ Z I L (Or.inl ⟨?_, rfl⟩) X bd FR.rf CP.rf⟩)
  · have c := (not_congr (i_eq rfl z0)).mp c
    obtain ⟨s, e1⟩ : ∃ s : Nat, v1.toInt = (s : Int) := ⟨v1.toInt.toNat, by omega⟩
    have hs : s < dN D := by omega
    refine r_X11_weighAlone X bd s hs v1 e1 (fun Z' I' L' X' bd' f' cp' hS => ?_)
    refine r_X11_mostPaid v0 p13 X'.h13 (fun r2 er => ?_)
    have lb := bst_le (fun v => (I' p13 v).toInt) 20
    intro b hb; cases X'.h13.symm.trans hb
    refine ⟨vi_of er (by omega) (by omega), ?_⟩
    refine s_X11_tellOne X'.w v0 _ X'.kv (fun I2 L2 w2 f2 => ?_)
    refine hQ r2 Z' I2 L2 (Or.inr ⟨by omega, fun v => (I' p13 v).toInt, fun v hv => ?_, er⟩) (X'.fr w2 f2 (by decide) (by decide)) bd' ((f'.mono (by decide)).trans X.w.1 X.w.2.1 (f2.mono (by decide))) cp'
    rw [show v1.toInt.toNat = s by omega]
    exact ⟨_, SUMo_tot hS v hv⟩
  · have c := (i_eq rfl z0).mp c
    omega
/-! ===== the reference: would, best ===== -/
theorem r_X12_would {B : Nat × Nat} {T : Nat} {L : jL} {Z : jZ} {I : jI} {v0 t1 t2 t3 t4 t5 t6 t9 t10 t11 t12 t13 t29 t30 uX0 uX1 : Nat} {s0 s1 : Int} {D : DAT} {a : Nat → Int32} (X : RFM Z I v0 t1 t2 t3 t4 t5 t6 t9 t10 t11 t12 t13 t29 t30 uX0 uX1 s0 s1 D a) (ok : aOK a) (bd : BUD B Z T) (v1 v2 : Int32) {Q : Int32 → jZ → jI → jL → Prop}
    (hQ : ∀ (r : Int32) (Z' : jZ) (I' : jI) (L' : jL), WOd D a v1 v2 r.toInt → RFM Z' I' v0 t1 t2 t3 t4 t5 t6 t9 t10 t11 t12 t13 t29 t30 uX0 uX1 s0 s1 D a → BUD B Z' T → FR Ws_X12_would Z I Z' I' → CP Z Z' → Q r Z' I' L') : f_X12_would B v0 v1 v2 Z I L Q := by
  have z0 : (0 : Int32).toInt = 0 := rfl
  have z20 : (20 : Int32).toInt = 20 := rfl
  have w := X.w
  have kv := X.S.1
  unfold f_X12_would
  intro I1 e1
  have w1 : WD Z I1 := by rw [e1]; exact WD_putF w 12 22 kv (by decide) (by decide) trivial
  have f1 : FR [(12, 22)] Z I Z I1 := by rw [e1]; exact FR_putF kv (by decide) List.mem_cons_self
  have X1 := X.fr w1 f1 (by decide) (by decide)
  have hn := X1.hn
  have n24 := X.dok.1
  have bad : ¬ ((0 ≤ v1.toInt ∧ v1.toInt < (dN D : Int)) ∧ 0 ≤ v2.toInt ∧ v2.toInt ≤ 20) → Q (-1 : Int32) Z I1 L := fun h => hQ _ Z I1 L (Or.inl ⟨h, rfl⟩) X1 bd (f1.mono (by decide)) CP.rf
  refine s_X12_isStep w1 v0 v1 kv (fun r hr => ⟨fun c => bad ?_, fun c => ?_⟩)
  · have c := (i_eq rfl z0).mp c
    omega
  · have c := (not_congr (i_eq rfl z0)).mp c
    refine s_X12_in w1 v2 0 20 (fun r2 hr2 => ⟨fun c2 => bad ?_, fun c2 => ?_⟩)
    · have c2 := (i_eq rfl z0).mp c2
      omega
    · have c2 := (not_congr (i_eq rfl z0)).mp c2
      obtain ⟨s, es⟩ : ∃ s : Nat, v1.toInt = (s : Int) := ⟨v1.toInt.toNat, by omega⟩
      refine r_X12_paidTo X1 ok bd s (by omega) v1 v2 es (by omega) (fun r3 Z' I' L' cc ht X' bd' f' cp' => ?_)
      refine hQ r3 Z' I' L' (Or.inr ⟨by omega, by omega, cc, ?_⟩) X' bd' ((f1.mono (by decide)).trans w.1 w.2.1 (f'.mono (by decide))) cp'
      rw [show v1.toInt.toNat = s by omega]
      exact ht
theorem r_X12_best {B : Nat × Nat} {T : Nat} {L : jL} {Z : jZ} {I : jI} {v0 t1 t2 t3 t4 t5 t6 t9 t10 t11 t12 t13 t29 t30 uX0 uX1 : Nat} {s0 s1 : Int} {D : DAT} {a : Nat → Int32} (X : RFM Z I v0 t1 t2 t3 t4 t5 t6 t9 t10 t11 t12 t13 t29 t30 uX0 uX1 s0 s1 D a) (ok : aOK a) (bd : BUD B Z T) (v1 : Int32) {Q : Int32 → jZ → jI → jL → Prop}
    (hQ : ∀ (r : Int32) (Z' : jZ) (I' : jI) (L' : jL), BEd D a v1 r.toInt → RFM Z' I' v0 t1 t2 t3 t4 t5 t6 t9 t10 t11 t12 t13 t29 t30 uX0 uX1 s0 s1 D a → BUD B Z' T → FR Ws_X12_best Z I Z' I' → CP Z Z' → Q r Z' I' L') : f_X12_best B v0 v1 Z I L Q := by
  have z0 : (0 : Int32).toInt = 0 := rfl
  have w := X.w
  have kv := X.S.1
  unfold f_X12_best
  intro I1 e1
  have w1 : WD Z I1 := by rw [e1]; exact WD_putF w 12 22 kv (by decide) (by decide) trivial
  have f1 : FR [(12, 22)] Z I Z I1 := by rw [e1]; exact FR_putF kv (by decide) List.mem_cons_self
  have X1 := X.fr w1 f1 (by decide) (by decide)
  have hn := X1.hn
  have n24 := X.dok.1
  refine s_X12_isStep w1 v0 v1 kv (fun r hr => ⟨fun c => ?_, fun c => hQ _ Z I1 L (Or.inl ⟨?_, rfl⟩) X1 bd (f1.mono (by decide)) CP.rf⟩)
  · have c := (not_congr (i_eq rfl z0)).mp c
    obtain ⟨s, es⟩ : ∃ s : Nat, v1.toInt = (s : Int) := ⟨v1.toInt.toNat, by omega⟩
    refine r_X12_findBest X1 ok bd s (by omega) v1 es (fun r3 Z' I' L' f hf er e51 X' bd' f' cp' => ?_)
    have kv' := X'.S.1
    intro I18 e18
    have w18 : WD Z' I18 := by rw [e18]; exact WD_putF X'.w 12 21 kv' (by decide) (by decide) (by first | exact trivial | (constructor <;> decide))
    have f18 : FR [(12, 21)] Z' I' Z' I18 := by rw [e18]; exact FR_putF kv' (by decide) List.mem_cons_self
    have e21 : (I18 v0 21).toInt = 0 := by rw [e18, jpI_at]; rfl
    refine s_X12_tell w18 v0 _ kv' (by omega) (fun I2 L2 w2 f2 _ => ?_)
    refine hQ r3 Z' I2 L2 (Or.inr ⟨by omega, f, fun v hv => ?_, er⟩) ((X'.fr w18 f18 (by decide) (by decide)).fr w2 f2 (by decide) (by decide)) bd' ((((f1.mono (by decide)).trans w.1 w.2.1 (f'.mono (by decide))).trans w.1 w.2.1 (f18.mono (by decide))).trans w.1 w.2.1 (f2.mono (by decide))) cp'
    rw [show v1.toInt.toNat = s by omega]
    exact hf v hv
  · have c := (i_eq rfl z0).mp c
    omega
/-! ===== both worlds out of what both sides have the same ===== -/
def SAM (Z : jZ) (I : jI) (v1 v2 uF uR uX uA uW uP x0 x1 u5c uFe uT uL0 uC0 uL1 uC1 uV p13 p14 : Nat) (vR vX vA vW v5 t6 t9 t10 t11 t12 t13 t29 t30 q0 q1 : Nat) : Prop := (WD Z I) ∧ (jk Z v1 11) ∧ (jk Z v2 12) ∧ (jr Z v1 2 = some uF) ∧ (STc Z uF uR uX uA uW uP x1 u5c uFe) ∧ (jr Z uP 0 = some x0) ∧ (jr Z uF 6 = some uL0) ∧ (jr Z uL0 0 = some uC0) ∧ (jr Z uF 7 = some uL1) ∧ (jr Z uL1 0 = some uC1) ∧ (jr Z v1 3 = some uV) ∧ (jr Z v1 13 = some p13) ∧ (jr Z v1 14 = some p14) ∧ (STm Z v2 vR vX vA vW t6 t29 t30) ∧ (jr Z v2 5 = some v5) ∧ (jr Z v2 9 = some t9) ∧ (jr Z v2 10 = some t10) ∧ (jr Z v2 11 = some t11) ∧ (jr Z v2 12 = some t12) ∧ (jr Z v2 13 = some t13) ∧ (jr Z t29 0 = some q0) ∧ (jr Z t29 1 = some q1) ∧ ((I uF 9).toInt = (I v2 0).toInt) ∧ ((I v1 4).toInt = (I v2 8).toInt) ∧ (ARr (I v2 0).toInt (I uR) (I vR)) ∧ (ARr (I v2 0).toInt (I uX) (I vX)) ∧ (ARr (I v2 0).toInt (I uA) (I vA)) ∧ (ARr (I v2 0).toInt (I uW) (I vW)) ∧ (∀ s : Nat, (s : Int) < (I v2 0).toInt → I uW s = 0 ∨ I uW s = 1) ∧ (PP (I v2 0).toInt.toNat (I x0) (I v5)) ∧ (MAI I x0 x1) ∧ (∃ F : Nat → Nat → Prop, (∀ f g, F f g → F g f) ∧ FEc (I u5c) F ∧ FEm (I t6) F) ∧ (LWR Z I uF t30 t29) ∧ (PRr 0 Z I v1 uV t9) ∧ (PRr 1 Z I v1 uV t10) ∧ (PRr 2 Z I v1 uV t11) ∧ (PRr 3 Z I v1 uV t12) ∧ (PRr 4 Z I v1 uV t13) ∧ (RTI Z I v1 uF uV) ∧ ((I v2 39).toInt = -1)
theorem SAM.w {Z : jZ} {I : jI} {v1 v2 uF uR uX uA uW uP x0 x1 u5c uFe uT uL0 uC0 uL1 uC1 uV p13 p14 : Nat} {vR vX vA vW v5 t6 t9 t10 t11 t12 t13 t29 t30 q0 q1 : Nat} (h : SAM Z I v1 v2 uF uR uX uA uW uP x0 x1 u5c uFe uT uL0 uC0 uL1 uC1 uV p13 p14 vR vX vA vW v5 t6 t9 t10 t11 t12 t13 t29 t30 q0 q1) : WD Z I := h.1
theorem SAM.k1 {Z : jZ} {I : jI} {v1 v2 uF uR uX uA uW uP x0 x1 u5c uFe uT uL0 uC0 uL1 uC1 uV p13 p14 : Nat} {vR vX vA vW v5 t6 t9 t10 t11 t12 t13 t29 t30 q0 q1 : Nat} (h : SAM Z I v1 v2 uF uR uX uA uW uP x0 x1 u5c uFe uT uL0 uC0 uL1 uC1 uV p13 p14 vR vX vA vW v5 t6 t9 t10 t11 t12 t13 t29 t30 q0 q1) : jk Z v1 11 := h.2.1
theorem SAM.k2 {Z : jZ} {I : jI} {v1 v2 uF uR uX uA uW uP x0 x1 u5c uFe uT uL0 uC0 uL1 uC1 uV p13 p14 : Nat} {vR vX vA vW v5 t6 t9 t10 t11 t12 t13 t29 t30 q0 q1 : Nat} (h : SAM Z I v1 v2 uF uR uX uA uW uP x0 x1 u5c uFe uT uL0 uC0 uL1 uC1 uV p13 p14 vR vX vA vW v5 t6 t9 t10 t11 t12 t13 t29 t30 q0 q1) : jk Z v2 12 := h.2.2.1
theorem SAM.hF {Z : jZ} {I : jI} {v1 v2 uF uR uX uA uW uP x0 x1 u5c uFe uT uL0 uC0 uL1 uC1 uV p13 p14 : Nat} {vR vX vA vW v5 t6 t9 t10 t11 t12 t13 t29 t30 q0 q1 : Nat} (h : SAM Z I v1 v2 uF uR uX uA uW uP x0 x1 u5c uFe uT uL0 uC0 uL1 uC1 uV p13 p14 vR vX vA vW v5 t6 t9 t10 t11 t12 t13 t29 t30 q0 q1) : jr Z v1 2 = some uF := h.2.2.2.1
theorem SAM.S {Z : jZ} {I : jI} {v1 v2 uF uR uX uA uW uP x0 x1 u5c uFe uT uL0 uC0 uL1 uC1 uV p13 p14 : Nat} {vR vX vA vW v5 t6 t9 t10 t11 t12 t13 t29 t30 q0 q1 : Nat} (h : SAM Z I v1 v2 uF uR uX uA uW uP x0 x1 u5c uFe uT uL0 uC0 uL1 uC1 uV p13 p14 vR vX vA vW v5 t6 t9 t10 t11 t12 t13 t29 t30 q0 q1) : STc Z uF uR uX uA uW uP x1 u5c uFe := h.2.2.2.2.1
theorem SAM.hx0 {Z : jZ} {I : jI} {v1 v2 uF uR uX uA uW uP x0 x1 u5c uFe uT uL0 uC0 uL1 uC1 uV p13 p14 : Nat} {vR vX vA vW v5 t6 t9 t10 t11 t12 t13 t29 t30 q0 q1 : Nat} (h : SAM Z I v1 v2 uF uR uX uA uW uP x0 x1 u5c uFe uT uL0 uC0 uL1 uC1 uV p13 p14 vR vX vA vW v5 t6 t9 t10 t11 t12 t13 t29 t30 q0 q1) : jr Z uP 0 = some x0 := h.2.2.2.2.2.1
theorem SAM.hL0 {Z : jZ} {I : jI} {v1 v2 uF uR uX uA uW uP x0 x1 u5c uFe uT uL0 uC0 uL1 uC1 uV p13 p14 : Nat} {vR vX vA vW v5 t6 t9 t10 t11 t12 t13 t29 t30 q0 q1 : Nat} (h : SAM Z I v1 v2 uF uR uX uA uW uP x0 x1 u5c uFe uT uL0 uC0 uL1 uC1 uV p13 p14 vR vX vA vW v5 t6 t9 t10 t11 t12 t13 t29 t30 q0 q1) : jr Z uF 6 = some uL0 := h.2.2.2.2.2.2.1
theorem SAM.hC0 {Z : jZ} {I : jI} {v1 v2 uF uR uX uA uW uP x0 x1 u5c uFe uT uL0 uC0 uL1 uC1 uV p13 p14 : Nat} {vR vX vA vW v5 t6 t9 t10 t11 t12 t13 t29 t30 q0 q1 : Nat} (h : SAM Z I v1 v2 uF uR uX uA uW uP x0 x1 u5c uFe uT uL0 uC0 uL1 uC1 uV p13 p14 vR vX vA vW v5 t6 t9 t10 t11 t12 t13 t29 t30 q0 q1) : jr Z uL0 0 = some uC0 := h.2.2.2.2.2.2.2.1
theorem SAM.hL1 {Z : jZ} {I : jI} {v1 v2 uF uR uX uA uW uP x0 x1 u5c uFe uT uL0 uC0 uL1 uC1 uV p13 p14 : Nat} {vR vX vA vW v5 t6 t9 t10 t11 t12 t13 t29 t30 q0 q1 : Nat} (h : SAM Z I v1 v2 uF uR uX uA uW uP x0 x1 u5c uFe uT uL0 uC0 uL1 uC1 uV p13 p14 vR vX vA vW v5 t6 t9 t10 t11 t12 t13 t29 t30 q0 q1) : jr Z uF 7 = some uL1 := h.2.2.2.2.2.2.2.2.1
theorem SAM.hC1 {Z : jZ} {I : jI} {v1 v2 uF uR uX uA uW uP x0 x1 u5c uFe uT uL0 uC0 uL1 uC1 uV p13 p14 : Nat} {vR vX vA vW v5 t6 t9 t10 t11 t12 t13 t29 t30 q0 q1 : Nat} (h : SAM Z I v1 v2 uF uR uX uA uW uP x0 x1 u5c uFe uT uL0 uC0 uL1 uC1 uV p13 p14 vR vX vA vW v5 t6 t9 t10 t11 t12 t13 t29 t30 q0 q1) : jr Z uL1 0 = some uC1 := h.2.2.2.2.2.2.2.2.2.1
theorem SAM.hV {Z : jZ} {I : jI} {v1 v2 uF uR uX uA uW uP x0 x1 u5c uFe uT uL0 uC0 uL1 uC1 uV p13 p14 : Nat} {vR vX vA vW v5 t6 t9 t10 t11 t12 t13 t29 t30 q0 q1 : Nat} (h : SAM Z I v1 v2 uF uR uX uA uW uP x0 x1 u5c uFe uT uL0 uC0 uL1 uC1 uV p13 p14 vR vX vA vW v5 t6 t9 t10 t11 t12 t13 t29 t30 q0 q1) : jr Z v1 3 = some uV := h.2.2.2.2.2.2.2.2.2.2.1
theorem SAM.h13 {Z : jZ} {I : jI} {v1 v2 uF uR uX uA uW uP x0 x1 u5c uFe uT uL0 uC0 uL1 uC1 uV p13 p14 : Nat} {vR vX vA vW v5 t6 t9 t10 t11 t12 t13 t29 t30 q0 q1 : Nat} (h : SAM Z I v1 v2 uF uR uX uA uW uP x0 x1 u5c uFe uT uL0 uC0 uL1 uC1 uV p13 p14 vR vX vA vW v5 t6 t9 t10 t11 t12 t13 t29 t30 q0 q1) : jr Z v1 13 = some p13 := h.2.2.2.2.2.2.2.2.2.2.2.1
theorem SAM.h14 {Z : jZ} {I : jI} {v1 v2 uF uR uX uA uW uP x0 x1 u5c uFe uT uL0 uC0 uL1 uC1 uV p13 p14 : Nat} {vR vX vA vW v5 t6 t9 t10 t11 t12 t13 t29 t30 q0 q1 : Nat} (h : SAM Z I v1 v2 uF uR uX uA uW uP x0 x1 u5c uFe uT uL0 uC0 uL1 uC1 uV p13 p14 vR vX vA vW v5 t6 t9 t10 t11 t12 t13 t29 t30 q0 q1) : jr Z v1 14 = some p14 := h.2.2.2.2.2.2.2.2.2.2.2.2.1
theorem SAM.M {Z : jZ} {I : jI} {v1 v2 uF uR uX uA uW uP x0 x1 u5c uFe uT uL0 uC0 uL1 uC1 uV p13 p14 : Nat} {vR vX vA vW v5 t6 t9 t10 t11 t12 t13 t29 t30 q0 q1 : Nat} (h : SAM Z I v1 v2 uF uR uX uA uW uP x0 x1 u5c uFe uT uL0 uC0 uL1 uC1 uV p13 p14 vR vX vA vW v5 t6 t9 t10 t11 t12 t13 t29 t30 q0 q1) : STm Z v2 vR vX vA vW t6 t29 t30 := h.2.2.2.2.2.2.2.2.2.2.2.2.2.1
theorem SAM.m5 {Z : jZ} {I : jI} {v1 v2 uF uR uX uA uW uP x0 x1 u5c uFe uT uL0 uC0 uL1 uC1 uV p13 p14 : Nat} {vR vX vA vW v5 t6 t9 t10 t11 t12 t13 t29 t30 q0 q1 : Nat} (h : SAM Z I v1 v2 uF uR uX uA uW uP x0 x1 u5c uFe uT uL0 uC0 uL1 uC1 uV p13 p14 vR vX vA vW v5 t6 t9 t10 t11 t12 t13 t29 t30 q0 q1) : jr Z v2 5 = some v5 := h.2.2.2.2.2.2.2.2.2.2.2.2.2.2.1
theorem SAM.m9 {Z : jZ} {I : jI} {v1 v2 uF uR uX uA uW uP x0 x1 u5c uFe uT uL0 uC0 uL1 uC1 uV p13 p14 : Nat} {vR vX vA vW v5 t6 t9 t10 t11 t12 t13 t29 t30 q0 q1 : Nat} (h : SAM Z I v1 v2 uF uR uX uA uW uP x0 x1 u5c uFe uT uL0 uC0 uL1 uC1 uV p13 p14 vR vX vA vW v5 t6 t9 t10 t11 t12 t13 t29 t30 q0 q1) : jr Z v2 9 = some t9 := h.2.2.2.2.2.2.2.2.2.2.2.2.2.2.2.1
theorem SAM.m10 {Z : jZ} {I : jI} {v1 v2 uF uR uX uA uW uP x0 x1 u5c uFe uT uL0 uC0 uL1 uC1 uV p13 p14 : Nat} {vR vX vA vW v5 t6 t9 t10 t11 t12 t13 t29 t30 q0 q1 : Nat} (h : SAM Z I v1 v2 uF uR uX uA uW uP x0 x1 u5c uFe uT uL0 uC0 uL1 uC1 uV p13 p14 vR vX vA vW v5 t6 t9 t10 t11 t12 t13 t29 t30 q0 q1) : jr Z v2 10 = some t10 := h.2.2.2.2.2.2.2.2.2.2.2.2.2.2.2.2.1
theorem SAM.m11 {Z : jZ} {I : jI} {v1 v2 uF uR uX uA uW uP x0 x1 u5c uFe uT uL0 uC0 uL1 uC1 uV p13 p14 : Nat} {vR vX vA vW v5 t6 t9 t10 t11 t12 t13 t29 t30 q0 q1 : Nat} (h : SAM Z I v1 v2 uF uR uX uA uW uP x0 x1 u5c uFe uT uL0 uC0 uL1 uC1 uV p13 p14 vR vX vA vW v5 t6 t9 t10 t11 t12 t13 t29 t30 q0 q1) : jr Z v2 11 = some t11 := h.2.2.2.2.2.2.2.2.2.2.2.2.2.2.2.2.2.1
theorem SAM.m12 {Z : jZ} {I : jI} {v1 v2 uF uR uX uA uW uP x0 x1 u5c uFe uT uL0 uC0 uL1 uC1 uV p13 p14 : Nat} {vR vX vA vW v5 t6 t9 t10 t11 t12 t13 t29 t30 q0 q1 : Nat} (h : SAM Z I v1 v2 uF uR uX uA uW uP x0 x1 u5c uFe uT uL0 uC0 uL1 uC1 uV p13 p14 vR vX vA vW v5 t6 t9 t10 t11 t12 t13 t29 t30 q0 q1) : jr Z v2 12 = some t12 := h.2.2.2.2.2.2.2.2.2.2.2.2.2.2.2.2.2.2.1
theorem SAM.m13 {Z : jZ} {I : jI} {v1 v2 uF uR uX uA uW uP x0 x1 u5c uFe uT uL0 uC0 uL1 uC1 uV p13 p14 : Nat} {vR vX vA vW v5 t6 t9 t10 t11 t12 t13 t29 t30 q0 q1 : Nat} (h : SAM Z I v1 v2 uF uR uX uA uW uP x0 x1 u5c uFe uT uL0 uC0 uL1 uC1 uV p13 p14 vR vX vA vW v5 t6 t9 t10 t11 t12 t13 t29 t30 q0 q1) : jr Z v2 13 = some t13 := h.2.2.2.2.2.2.2.2.2.2.2.2.2.2.2.2.2.2.2.1
theorem SAM.mX0 {Z : jZ} {I : jI} {v1 v2 uF uR uX uA uW uP x0 x1 u5c uFe uT uL0 uC0 uL1 uC1 uV p13 p14 : Nat} {vR vX vA vW v5 t6 t9 t10 t11 t12 t13 t29 t30 q0 q1 : Nat} (h : SAM Z I v1 v2 uF uR uX uA uW uP x0 x1 u5c uFe uT uL0 uC0 uL1 uC1 uV p13 p14 vR vX vA vW v5 t6 t9 t10 t11 t12 t13 t29 t30 q0 q1) : jr Z t29 0 = some q0 := h.2.2.2.2.2.2.2.2.2.2.2.2.2.2.2.2.2.2.2.2.1
theorem SAM.mX1 {Z : jZ} {I : jI} {v1 v2 uF uR uX uA uW uP x0 x1 u5c uFe uT uL0 uC0 uL1 uC1 uV p13 p14 : Nat} {vR vX vA vW v5 t6 t9 t10 t11 t12 t13 t29 t30 q0 q1 : Nat} (h : SAM Z I v1 v2 uF uR uX uA uW uP x0 x1 u5c uFe uT uL0 uC0 uL1 uC1 uV p13 p14 vR vX vA vW v5 t6 t9 t10 t11 t12 t13 t29 t30 q0 q1) : jr Z t29 1 = some q1 := h.2.2.2.2.2.2.2.2.2.2.2.2.2.2.2.2.2.2.2.2.2.1
theorem SAM.sz {Z : jZ} {I : jI} {v1 v2 uF uR uX uA uW uP x0 x1 u5c uFe uT uL0 uC0 uL1 uC1 uV p13 p14 : Nat} {vR vX vA vW v5 t6 t9 t10 t11 t12 t13 t29 t30 q0 q1 : Nat} (h : SAM Z I v1 v2 uF uR uX uA uW uP x0 x1 u5c uFe uT uL0 uC0 uL1 uC1 uV p13 p14 vR vX vA vW v5 t6 t9 t10 t11 t12 t13 t29 t30 q0 q1) : (I uF 9).toInt = (I v2 0).toInt := h.2.2.2.2.2.2.2.2.2.2.2.2.2.2.2.2.2.2.2.2.2.2.1
theorem SAM.np {Z : jZ} {I : jI} {v1 v2 uF uR uX uA uW uP x0 x1 u5c uFe uT uL0 uC0 uL1 uC1 uV p13 p14 : Nat} {vR vX vA vW v5 t6 t9 t10 t11 t12 t13 t29 t30 q0 q1 : Nat} (h : SAM Z I v1 v2 uF uR uX uA uW uP x0 x1 u5c uFe uT uL0 uC0 uL1 uC1 uV p13 p14 vR vX vA vW v5 t6 t9 t10 t11 t12 t13 t29 t30 q0 q1) : (I v1 4).toInt = (I v2 8).toInt := h.2.2.2.2.2.2.2.2.2.2.2.2.2.2.2.2.2.2.2.2.2.2.2.1
theorem SAM.aR {Z : jZ} {I : jI} {v1 v2 uF uR uX uA uW uP x0 x1 u5c uFe uT uL0 uC0 uL1 uC1 uV p13 p14 : Nat} {vR vX vA vW v5 t6 t9 t10 t11 t12 t13 t29 t30 q0 q1 : Nat} (h : SAM Z I v1 v2 uF uR uX uA uW uP x0 x1 u5c uFe uT uL0 uC0 uL1 uC1 uV p13 p14 vR vX vA vW v5 t6 t9 t10 t11 t12 t13 t29 t30 q0 q1) : ARr (I v2 0).toInt (I uR) (I vR) := h.2.2.2.2.2.2.2.2.2.2.2.2.2.2.2.2.2.2.2.2.2.2.2.2.1
theorem SAM.aX {Z : jZ} {I : jI} {v1 v2 uF uR uX uA uW uP x0 x1 u5c uFe uT uL0 uC0 uL1 uC1 uV p13 p14 : Nat} {vR vX vA vW v5 t6 t9 t10 t11 t12 t13 t29 t30 q0 q1 : Nat} (h : SAM Z I v1 v2 uF uR uX uA uW uP x0 x1 u5c uFe uT uL0 uC0 uL1 uC1 uV p13 p14 vR vX vA vW v5 t6 t9 t10 t11 t12 t13 t29 t30 q0 q1) : ARr (I v2 0).toInt (I uX) (I vX) := h.2.2.2.2.2.2.2.2.2.2.2.2.2.2.2.2.2.2.2.2.2.2.2.2.2.1
theorem SAM.aA {Z : jZ} {I : jI} {v1 v2 uF uR uX uA uW uP x0 x1 u5c uFe uT uL0 uC0 uL1 uC1 uV p13 p14 : Nat} {vR vX vA vW v5 t6 t9 t10 t11 t12 t13 t29 t30 q0 q1 : Nat} (h : SAM Z I v1 v2 uF uR uX uA uW uP x0 x1 u5c uFe uT uL0 uC0 uL1 uC1 uV p13 p14 vR vX vA vW v5 t6 t9 t10 t11 t12 t13 t29 t30 q0 q1) : ARr (I v2 0).toInt (I uA) (I vA) := h.2.2.2.2.2.2.2.2.2.2.2.2.2.2.2.2.2.2.2.2.2.2.2.2.2.2.1
theorem SAM.aW {Z : jZ} {I : jI} {v1 v2 uF uR uX uA uW uP x0 x1 u5c uFe uT uL0 uC0 uL1 uC1 uV p13 p14 : Nat} {vR vX vA vW v5 t6 t9 t10 t11 t12 t13 t29 t30 q0 q1 : Nat} (h : SAM Z I v1 v2 uF uR uX uA uW uP x0 x1 u5c uFe uT uL0 uC0 uL1 uC1 uV p13 p14 vR vX vA vW v5 t6 t9 t10 t11 t12 t13 t29 t30 q0 q1) : ARr (I v2 0).toInt (I uW) (I vW) := h.2.2.2.2.2.2.2.2.2.2.2.2.2.2.2.2.2.2.2.2.2.2.2.2.2.2.2.1
theorem SAM.bW {Z : jZ} {I : jI} {v1 v2 uF uR uX uA uW uP x0 x1 u5c uFe uT uL0 uC0 uL1 uC1 uV p13 p14 : Nat} {vR vX vA vW v5 t6 t9 t10 t11 t12 t13 t29 t30 q0 q1 : Nat} (h : SAM Z I v1 v2 uF uR uX uA uW uP x0 x1 u5c uFe uT uL0 uC0 uL1 uC1 uV p13 p14 vR vX vA vW v5 t6 t9 t10 t11 t12 t13 t29 t30 q0 q1) : ∀ s : Nat, (s : Int) < (I v2 0).toInt → I uW s = 0 ∨ I uW s = 1 := h.2.2.2.2.2.2.2.2.2.2.2.2.2.2.2.2.2.2.2.2.2.2.2.2.2.2.2.2.1
theorem SAM.pp {Z : jZ} {I : jI} {v1 v2 uF uR uX uA uW uP x0 x1 u5c uFe uT uL0 uC0 uL1 uC1 uV p13 p14 : Nat} {vR vX vA vW v5 t6 t9 t10 t11 t12 t13 t29 t30 q0 q1 : Nat} (h : SAM Z I v1 v2 uF uR uX uA uW uP x0 x1 u5c uFe uT uL0 uC0 uL1 uC1 uV p13 p14 vR vX vA vW v5 t6 t9 t10 t11 t12 t13 t29 t30 q0 q1) : PP (I v2 0).toInt.toNat (I x0) (I v5) := h.2.2.2.2.2.2.2.2.2.2.2.2.2.2.2.2.2.2.2.2.2.2.2.2.2.2.2.2.2.1
theorem SAM.mai {Z : jZ} {I : jI} {v1 v2 uF uR uX uA uW uP x0 x1 u5c uFe uT uL0 uC0 uL1 uC1 uV p13 p14 : Nat} {vR vX vA vW v5 t6 t9 t10 t11 t12 t13 t29 t30 q0 q1 : Nat} (h : SAM Z I v1 v2 uF uR uX uA uW uP x0 x1 u5c uFe uT uL0 uC0 uL1 uC1 uV p13 p14 vR vX vA vW v5 t6 t9 t10 t11 t12 t13 t29 t30 q0 q1) : MAI I x0 x1 := h.2.2.2.2.2.2.2.2.2.2.2.2.2.2.2.2.2.2.2.2.2.2.2.2.2.2.2.2.2.2.1
theorem SAM.fe {Z : jZ} {I : jI} {v1 v2 uF uR uX uA uW uP x0 x1 u5c uFe uT uL0 uC0 uL1 uC1 uV p13 p14 : Nat} {vR vX vA vW v5 t6 t9 t10 t11 t12 t13 t29 t30 q0 q1 : Nat} (h : SAM Z I v1 v2 uF uR uX uA uW uP x0 x1 u5c uFe uT uL0 uC0 uL1 uC1 uV p13 p14 vR vX vA vW v5 t6 t9 t10 t11 t12 t13 t29 t30 q0 q1) : ∃ F : Nat → Nat → Prop, (∀ f g, F f g → F g f) ∧ FEc (I u5c) F ∧ FEm (I t6) F := h.2.2.2.2.2.2.2.2.2.2.2.2.2.2.2.2.2.2.2.2.2.2.2.2.2.2.2.2.2.2.2.1
theorem SAM.lw {Z : jZ} {I : jI} {v1 v2 uF uR uX uA uW uP x0 x1 u5c uFe uT uL0 uC0 uL1 uC1 uV p13 p14 : Nat} {vR vX vA vW v5 t6 t9 t10 t11 t12 t13 t29 t30 q0 q1 : Nat} (h : SAM Z I v1 v2 uF uR uX uA uW uP x0 x1 u5c uFe uT uL0 uC0 uL1 uC1 uV p13 p14 vR vX vA vW v5 t6 t9 t10 t11 t12 t13 t29 t30 q0 q1) : LWR Z I uF t30 t29 := h.2.2.2.2.2.2.2.2.2.2.2.2.2.2.2.2.2.2.2.2.2.2.2.2.2.2.2.2.2.2.2.2.1
theorem SAM.p0 {Z : jZ} {I : jI} {v1 v2 uF uR uX uA uW uP x0 x1 u5c uFe uT uL0 uC0 uL1 uC1 uV p13 p14 : Nat} {vR vX vA vW v5 t6 t9 t10 t11 t12 t13 t29 t30 q0 q1 : Nat} (h : SAM Z I v1 v2 uF uR uX uA uW uP x0 x1 u5c uFe uT uL0 uC0 uL1 uC1 uV p13 p14 vR vX vA vW v5 t6 t9 t10 t11 t12 t13 t29 t30 q0 q1) : PRr 0 Z I v1 uV t9 := h.2.2.2.2.2.2.2.2.2.2.2.2.2.2.2.2.2.2.2.2.2.2.2.2.2.2.2.2.2.2.2.2.2.1
theorem SAM.p1 {Z : jZ} {I : jI} {v1 v2 uF uR uX uA uW uP x0 x1 u5c uFe uT uL0 uC0 uL1 uC1 uV p13 p14 : Nat} {vR vX vA vW v5 t6 t9 t10 t11 t12 t13 t29 t30 q0 q1 : Nat} (h : SAM Z I v1 v2 uF uR uX uA uW uP x0 x1 u5c uFe uT uL0 uC0 uL1 uC1 uV p13 p14 vR vX vA vW v5 t6 t9 t10 t11 t12 t13 t29 t30 q0 q1) : PRr 1 Z I v1 uV t10 := h.2.2.2.2.2.2.2.2.2.2.2.2.2.2.2.2.2.2.2.2.2.2.2.2.2.2.2.2.2.2.2.2.2.2.1
theorem SAM.p2 {Z : jZ} {I : jI} {v1 v2 uF uR uX uA uW uP x0 x1 u5c uFe uT uL0 uC0 uL1 uC1 uV p13 p14 : Nat} {vR vX vA vW v5 t6 t9 t10 t11 t12 t13 t29 t30 q0 q1 : Nat} (h : SAM Z I v1 v2 uF uR uX uA uW uP x0 x1 u5c uFe uT uL0 uC0 uL1 uC1 uV p13 p14 vR vX vA vW v5 t6 t9 t10 t11 t12 t13 t29 t30 q0 q1) : PRr 2 Z I v1 uV t11 := h.2.2.2.2.2.2.2.2.2.2.2.2.2.2.2.2.2.2.2.2.2.2.2.2.2.2.2.2.2.2.2.2.2.2.2.1
theorem SAM.p3 {Z : jZ} {I : jI} {v1 v2 uF uR uX uA uW uP x0 x1 u5c uFe uT uL0 uC0 uL1 uC1 uV p13 p14 : Nat} {vR vX vA vW v5 t6 t9 t10 t11 t12 t13 t29 t30 q0 q1 : Nat} (h : SAM Z I v1 v2 uF uR uX uA uW uP x0 x1 u5c uFe uT uL0 uC0 uL1 uC1 uV p13 p14 vR vX vA vW v5 t6 t9 t10 t11 t12 t13 t29 t30 q0 q1) : PRr 3 Z I v1 uV t12 := h.2.2.2.2.2.2.2.2.2.2.2.2.2.2.2.2.2.2.2.2.2.2.2.2.2.2.2.2.2.2.2.2.2.2.2.2.1
theorem SAM.p4 {Z : jZ} {I : jI} {v1 v2 uF uR uX uA uW uP x0 x1 u5c uFe uT uL0 uC0 uL1 uC1 uV p13 p14 : Nat} {vR vX vA vW v5 t6 t9 t10 t11 t12 t13 t29 t30 q0 q1 : Nat} (h : SAM Z I v1 v2 uF uR uX uA uW uP x0 x1 u5c uFe uT uL0 uC0 uL1 uC1 uV p13 p14 vR vX vA vW v5 t6 t9 t10 t11 t12 t13 t29 t30 q0 q1) : PRr 4 Z I v1 uV t13 := h.2.2.2.2.2.2.2.2.2.2.2.2.2.2.2.2.2.2.2.2.2.2.2.2.2.2.2.2.2.2.2.2.2.2.2.2.2.1
theorem SAM.rt {Z : jZ} {I : jI} {v1 v2 uF uR uX uA uW uP x0 x1 u5c uFe uT uL0 uC0 uL1 uC1 uV p13 p14 : Nat} {vR vX vA vW v5 t6 t9 t10 t11 t12 t13 t29 t30 q0 q1 : Nat} (h : SAM Z I v1 v2 uF uR uX uA uW uP x0 x1 u5c uFe uT uL0 uC0 uL1 uC1 uV p13 p14 vR vX vA vW v5 t6 t9 t10 t11 t12 t13 t29 t30 q0 q1) : RTI Z I v1 uF uV := h.2.2.2.2.2.2.2.2.2.2.2.2.2.2.2.2.2.2.2.2.2.2.2.2.2.2.2.2.2.2.2.2.2.2.2.2.2.2.1
theorem SAM.sh {Z : jZ} {I : jI} {v1 v2 uF uR uX uA uW uP x0 x1 u5c uFe uT uL0 uC0 uL1 uC1 uV p13 p14 : Nat} {vR vX vA vW v5 t6 t9 t10 t11 t12 t13 t29 t30 q0 q1 : Nat} (h : SAM Z I v1 v2 uF uR uX uA uW uP x0 x1 u5c uFe uT uL0 uC0 uL1 uC1 uV p13 p14 vR vX vA vW v5 t6 t9 t10 t11 t12 t13 t29 t30 q0 q1) : (I v2 39).toInt = -1 := h.2.2.2.2.2.2.2.2.2.2.2.2.2.2.2.2.2.2.2.2.2.2.2.2.2.2.2.2.2.2.2.2.2.2.2.2.2.2.2
/-- the common data -/
noncomputable def SAd (Z : jZ) (I : jI) (v1 uF uR uX uW x1 u5c uV t30 q0 q1 : Nat) : DAT := ((lwC (I q0) (I t30 0).toInt, lwC (I q1) (I t30 1).toInt), (I uR, I uX, I uW), xLc (I x1) (I u5c), ((I uF 9).toInt.toNat, (I v1 4).toInt.toNat), (fun p => (I ((jr Z ((jr Z uV p).getD 0) 8).getD 0) 3).toInt.toNat, fun p => I ((jr Z uV p).getD 0) 4, I x1), (fun p => (I ((jr Z uV p).getD 0) 3).toInt, fun p => (I ((jr Z ((jr Z uV p).getD 0) 8).getD 0) 1).toInt, fun p => (I ((jr Z ((jr Z uV p).getD 0) 8).getD 0) 2).toInt))
theorem SAM.pil {Z : jZ} {I : jI} {v1 v2 uF uR uX uA uW uP x0 x1 u5c uFe uT uL0 uC0 uL1 uC1 uV p13 p14 : Nat} {vR vX vA vW v5 t6 t9 t10 t11 t12 t13 t29 t30 q0 q1 : Nat} (X : SAM Z I v1 v2 uF uR uX uA uW uP x0 x1 u5c uFe uT uL0 uC0 uL1 uC1 uV p13 p14 vR vX vA vW v5 t6 t9 t10 t11 t12 t13 t29 t30 q0 q1) (p : Nat) (hp : (p : Int) < (I v1 4).toInt) : ∃ q r, jr Z uV p = some q ∧ jk Z q 5 ∧ jr Z q 8 = some r ∧ jk Z r 6 ∧ jr Z r 0 = some uF ∧ I r 1 = I t9 p ∧ I r 2 = I t10 p ∧ I r 3 = I t11 p ∧ I q 3 = I t12 p ∧ I q 4 = I t13 p ∧ (jr Z uV p).getD 0 = q ∧ (jr Z ((jr Z uV p).getD 0) 8).getD 0 = r := by
  obtain ⟨q, r, a1, kq, a2, kr, a3, a4, a5, a6⟩ := X.rt p hp
  obtain ⟨y, b1, -, e0⟩ := X.p0 p hp
  cases a1.symm.trans b1
  obtain ⟨y, b1, -, e1⟩ := X.p1 p hp
  cases a1.symm.trans b1
  obtain ⟨y, b1, -, e2⟩ := X.p2 p hp
  cases a1.symm.trans b1
  obtain ⟨y, b1, -, e3⟩ := X.p3 p hp
  cases a1.symm.trans b1
  obtain ⟨y, b1, -, e4⟩ := X.p4 p hp
  cases a1.symm.trans b1
  have g1 : (jr Z uV p).getD 0 = q := by rw [a1]; rfl
  refine ⟨q, r, a1, kq, a2, kr, a3, a4.trans e0, a5.trans e1, a6.trans e2, e3, e4, g1, ?_⟩
  rw [g1, a2]; rfl
theorem SAM.rfm {Z : jZ} {I : jI} {v1 v2 uF uR uX uA uW uP x0 x1 u5c uFe uT uL0 uC0 uL1 uC1 uV p13 p14 : Nat} {vR vX vA vW v5 t6 t9 t10 t11 t12 t13 t29 t30 q0 q1 : Nat} (X : SAM Z I v1 v2 uF uR uX uA uW uP x0 x1 u5c uFe uT uL0 uC0 uL1 uC1 uV p13 p14 vR vX vA vW v5 t6 t9 t10 t11 t12 t13 t29 t30 q0 q1) : RFM Z I v2 vR vX vA vW v5 t6 t9 t10 t11 t12 t13 t29 t30 q0 q1 (I t30 0).toInt (I t30 1).toInt (SAd Z I v1 uF uR uX uW x1 u5c uV t30 q0 q1) (I uA) := by
  have w := X.w
  have k8 := X.S.1
  have rn : 0 ≤ (I v2 0).toInt ∧ (I v2 0).toInt ≤ 24 := w.fld 12 0 X.k2 (by decide)
  have rp : 0 ≤ (I v2 8).toInt ∧ (I v2 8).toInt ≤ 6 := w.fld 12 8 X.k2 (by decide)
  have sz := X.sz
  have np := X.np
  have dn : (dN (SAd Z I v1 uF uR uX uW x1 u5c uV t30 q0 q1) : Int) = (I v2 0).toInt := by
    show (((I uF 9).toInt.toNat : Nat) : Int) = _
    omega
  have dp : (dP (SAd Z I v1 uF uR uX uW x1 u5c uV t30 q0 q1) : Int) = (I v1 4).toInt := by
    show (((I v1 4).toInt.toNat : Nat) : Int) = _
    omega
  obtain ⟨s0, e0, l0, h0, z0, -⟩ := X.lw 0 uL0 uC0 q0 (by decide) X.hL0 X.hC0 X.mX0
  obtain ⟨s1, e1, l1, h1, z1, -⟩ := X.lw 1 uL1 uC1 q1 (by decide) X.hL1 X.hC1 X.mX1
  have em : ∀ s : Nat, (s : Int) < (I v2 0).toInt → (mnR (I v5) s : Int) = (I x1 s).toInt := fun s hs => by
    rw [X.mai s (by omega)]
    have := mnR_cg (T := I x0) (T' := I v5) (s := s) (fun i hi => (X.pp.1 (8 * s + i) (by omega)).symm)
    rw [this]
  refine ⟨w, X.M, X.m5, X.m9, X.m10, X.m11, X.m12, X.m13, X.mX0, X.mX1, ⟨rfl, by omega, by omega, by rw [e0]; exact z0⟩, ⟨rfl, by omega, by omega, by rw [e1]; exact z1⟩, rfl, rfl, dn.symm, by rw [dp]; omega, fun k hk => (X.aA k (by omega)).symm, fun k hk => (X.aR k (by omega)).symm, fun k hk => (X.aX k (by omega)).symm, fun k hk => ?_, fun st fr a1 a2 a3 a4 => ?_, fun s hs => em s (by omega), fun p hp => ?_, X.sh⟩
  · show wLm (I vW) k = I uW k
    unfold wLm
    have e := X.aW k (by omega)
    have b := X.bW k (by omega)
    rw [← e]
    rcases b with b | b
    · rw [b]; rfl
    · rw [b]; rfl
  · obtain ⟨F, hs, hc, hm⟩ := X.fe
    exact FE_x (n := (I v2 0).toInt.toNat) hc hm hs (fun s hs' => by have := em s (by omega); have := mnR_le (T := I v5) (s := s); show 0 ≤ (I x1 s).toInt ∧ (I x1 s).toInt ≤ 7; omega) st fr a1 (by omega) a3 (by omega)
  · obtain ⟨q, r, b1, b2, b3, b4, b5, c1, c2, c3, c4, c5, g1, g2⟩ := X.pil p (by omega)
    have k11 : 0 ≤ (I t11 p).toInt := by
      obtain ⟨x, ex, kx, -⟩ := sh_f w.1 X.k2 (j := 11) (k := 14) (m := 6) rfl
      cases X.m11.symm.trans ex
      have : 0 ≤ (I t11 p).toInt ∧ (I t11 p).toInt ≤ 3 := w.arr 12 11 X.k2 X.m11 kx rfl rfl p
      omega
    refine ⟨?_, ?_, ?_, ?_, ?_⟩
    · show _ = (I ((jr Z ((jr Z uV p).getD 0) 8).getD 0) 1).toInt
      rw [g2, c1]
    · show _ = (I ((jr Z ((jr Z uV p).getD 0) 8).getD 0) 2).toInt
      rw [g2, c2]
    · show _ = (((I ((jr Z ((jr Z uV p).getD 0) 8).getD 0) 3).toInt.toNat : Nat) : Int)
      rw [g2, c3]
      omega
    · show _ = (I ((jr Z uV p).getD 0) 3).toInt
      rw [g1, c4]
    · show _ = I ((jr Z uV p).getD 0) 4
      rw [g1, c5]
theorem SAM.cwd {Z : jZ} {I : jI} {v1 v2 uF uR uX uA uW uP x0 x1 u5c uFe uT uL0 uC0 uL1 uC1 uV p13 p14 : Nat} {vR vX vA vW v5 t6 t9 t10 t11 t12 t13 t29 t30 q0 q1 : Nat} (X : SAM Z I v1 v2 uF uR uX uA uW uP x0 x1 u5c uFe uT uL0 uC0 uL1 uC1 uV p13 p14 vR vX vA vW v5 t6 t9 t10 t11 t12 t13 t29 t30 q0 q1) : CWD Z I v1 uF uR uX uA uW uP x1 u5c uFe uL0 uC0 uL1 uC1 uV p13 p14 (fun p => (jr Z uV p).getD 0) (fun p => (jr Z ((jr Z uV p).getD 0) 8).getD 0) (SAd Z I v1 uF uR uX uW x1 u5c uV t30 q0 q1) (I uA) := by
  have w := X.w
  have d := X.rfm.dok
  have rn : 0 ≤ (I v2 0).toInt ∧ (I v2 0).toInt ≤ 24 := w.fld 12 0 X.k2 (by decide)
  have rp : 0 ≤ (I v2 8).toInt ∧ (I v2 8).toInt ≤ 6 := w.fld 12 8 X.k2 (by decide)
  have sz := X.sz
  have np := X.np
  have dn : (dN (SAd Z I v1 uF uR uX uW x1 u5c uV t30 q0 q1) : Int) = (I v2 0).toInt := by
    show (((I uF 9).toInt.toNat : Nat) : Int) = _
    omega
  have dp : (dP (SAd Z I v1 uF uR uX uW x1 u5c uV t30 q0 q1) : Int) = (I v1 4).toInt := by
    show (((I v1 4).toInt.toNat : Nat) : Int) = _
    omega
  have lws : LWs Z I uF uL0 uC0 uL1 uC1 (lwC (I q0) (I t30 0).toInt) (lwC (I q1) (I t30 1).toInt) := by
    obtain ⟨s0, e0, l0, h0, z0, g0⟩ := X.lw 0 uL0 uC0 q0 (by decide) X.hL0 X.hC0 X.mX0
    obtain ⟨s1, e1, l1, h1, z1, g1⟩ := X.lw 1 uL1 uC1 q1 (by decide) X.hL1 X.hC1 X.mX1
    rw [e0, e1]
    obtain ⟨a1, a2, -⟩ := lwC_ok l0 z0
    obtain ⟨b1, b2, -⟩ := lwC_ok l1 z1
    exact ⟨X.hL0, X.hC0, X.hL1, X.hC1, g0, g1, ⟨a1, a2⟩, ⟨b1, b2⟩⟩
  refine ⟨w, X.k1, X.hF, X.S, lws, by rw [dn]; exact sz, dp.symm, rfl, rfl, rfl, rfl, rfl, rfl, X.hV, X.h13, X.h14, fun p hp => ?_, fun p hp => ?_, d⟩
  · obtain ⟨q, r, b1, b2, b3, b4, b5, c1, c2, c3, c4, c5, g1, g2⟩ := X.pil p (by omega)
    show jr Z uV p = some ((jr Z uV p).getD 0) ∧ jk Z ((jr Z uV p).getD 0) 5 ∧ jr Z ((jr Z uV p).getD 0) 8 = some ((jr Z ((jr Z uV p).getD 0) 8).getD 0) ∧ jk Z ((jr Z ((jr Z uV p).getD 0) 8).getD 0) 6 ∧ jr Z ((jr Z ((jr Z uV p).getD 0) 8).getD 0) 0 = some uF
    rw [g2, g1]
    exact ⟨b1, b2, b3, b4, b5⟩
  · refine ⟨rfl, rfl, rfl, rfl, ?_⟩
    obtain ⟨q, r, b1, b2, b3, b4, b5, c1, c2, c3, c4, c5, g1, g2⟩ := X.pil p (by omega)
    have r3 : 0 ≤ (I r 3).toInt ∧ (I r 3).toInt ≤ 3 := w.fld 6 3 b4 (by decide)
    show (I ((jr Z ((jr Z uV p).getD 0) 8).getD 0) 3).toInt = (((I ((jr Z ((jr Z uV p).getD 0) 8).getD 0) 3).toInt.toNat : Nat) : Int)
    rw [g2]
    omega
theorem SAM.ok {Z : jZ} {I : jI} {v1 v2 uF uR uX uA uW uP x0 x1 u5c uFe uT uL0 uC0 uL1 uC1 uV p13 p14 : Nat} {vR vX vA vW v5 t6 t9 t10 t11 t12 t13 t29 t30 q0 q1 : Nat} (X : SAM Z I v1 v2 uF uR uX uA uW uP x0 x1 u5c uFe uT uL0 uC0 uL1 uC1 uV p13 p14 vR vX vA vW v5 t6 t9 t10 t11 t12 t13 t29 t30 q0 q1) : aOK (I uA) := X.cwd.ok
/-- the market is one on both sides -/
theorem SAM_market {B : Nat × Nat} {T : Nat} {L : jL} {Z : jZ} {I : jI} {v1 v2 uF uR uX uA uW uP x0 x1 u5c uFe uT uL0 uC0 uL1 uC1 uV p13 p14 : Nat} {vR vX vA vW v5 t6 t9 t10 t11 t12 t13 t29 t30 q0 q1 : Nat} (X : SAM Z I v1 v2 uF uR uX uA uW uP x0 x1 u5c uFe uT uL0 uC0 uL1 uC1 uV p13 p14 vR vX vA vW v5 t6 t9 t10 t11 t12 t13 t29 t30 q0 q1) (bd : BUD B Z T) (a : Int32) {Q : Int32 → Int32 → jZ → jI → jL → Prop}
    (hQ : ∀ (r1 r2 : Int32) (Z1 Z2 : jZ) (I1 I2 : jI) (L2 : jL), r1 = r2 → WD Z1 I1 → FR Wmk Z I Z1 I1 → CP Z Z1 → WD Z2 I2 → BUD B Z2 T → FR Ws_X12_market Z1 I1 Z2 I2 → CP Z1 Z2 → ARr (I2 v2 0).toInt (I2 uA) (I2 vA) → Q r1 r2 Z2 I2 L2) : f_X11_market B v1 a Z I L (fun r1 Z1 I1 L1 => f_X12_market B v2 a Z1 I1 L1 (fun r2 Z2 I2 L2 => Q r1 r2 Z2 I2 L2)) := by
  have d := X.rfm.dok
  have ok := X.ok
  have kA : jk Z uA 14 := (STc_k X.w X.S).2.2.1
  refine r_X11_market X.cwd bd a (fun r1 Z1 I1 L1 a1 hm X1 bd1 f1 cp1 => ?_)
  have Y1 := X.rfm.fr X1.w f1 (by decide) (by decide)
  refine r_X12_market Y1 ok bd1 a (fun r2 Z2 I2 L2 a2 hm2 ok2 Y2 bd2 f2 cp2 => ?_)
  obtain ⟨er, ea⟩ := MKd_fun d ok hm hm2
  have e2 : I2 uA = a1 := by
    have k8 := X1.S.1
    have hA := X1.S.2.2.2.1
    have kA1 := (f1.1 _ _ kA).1
    rw [f2.2.2.2 uF 8 2 uA k8 hA (by rw [kA1.2]; rfl) rfl (by decide)]
    exact X1.iA
  refine hQ r1 r2 Z1 Z2 I1 I2 L2 ((i_eq rfl rfl).mpr er) X1.w f1 cp1 Y2.w bd2 f2 cp2 (fun s hs => ?_)
  rw [Y2.hn] at hs
  rw [e2, ea]
  exact (Y2.ha s (by omega)).symm
/-- market: the class's call, and what it promises of the reference's -/
theorem SAM_market1 {B : Nat × Nat} {T : Nat} {L : jL} {Z : jZ} {I : jI} {v1 v2 uF uR uX uA uW uP x0 x1 u5c uFe uT uL0 uC0 uL1 uC1 uV p13 p14 : Nat} {vR vX vA vW v5 t6 t9 t10 t11 t12 t13 t29 t30 q0 q1 : Nat} (X : SAM Z I v1 v2 uF uR uX uA uW uP x0 x1 u5c uFe uT uL0 uC0 uL1 uC1 uV p13 p14 vR vX vA vW v5 t6 t9 t10 t11 t12 t13 t29 t30 q0 q1) (bd : BUD B Z T) (a : Int32) {Q : Int32 → jZ → jI → jL → Prop}
    (hQ : ∀ (r1 : Int32) (Z1 : jZ) (I1 : jI) (L1 : jL), WD Z1 I1 → BUD B Z1 T → FR Wmk Z I Z1 I1 → CP Z Z1 → (∀ (L : jL) (Q2 : Int32 → jZ → jI → jL → Prop), (∀ (r2 : Int32) (Z2 : jZ) (I2 : jI) (L2 : jL), r1.toInt = r2.toInt → WD Z2 I2 → BUD B Z2 T → FR Ws_X12_market Z1 I1 Z2 I2 → CP Z1 Z2 → ARr (I2 v2 0).toInt (I2 uA) (I2 vA) → Q2 r2 Z2 I2 L2) → f_X12_market B v2 a Z1 I1 L Q2) → Q r1 Z1 I1 L1) : f_X11_market B v1 a Z I L Q := by
  have d := X.rfm.dok
  have ok := X.ok
  have kA : jk Z uA 14 := (STc_k X.w X.S).2.2.1
  refine r_X11_market X.cwd bd a (fun r1 Z1 I1 L1 a1 hm X1 bd1 f1 cp1 => hQ r1 Z1 I1 L1 X1.w bd1 f1 cp1 (fun L Q2 h2 => ?_))
  have Y1 := X.rfm.fr X1.w f1 (by decide) (by decide)
  refine r_X12_market Y1 ok bd1 a (fun r2 Z2 I2 L2 a2 hm2 ok2 Y2 bd2 f2 cp2 => ?_)
  have e2 : I2 uA = a1 := by
    have kA1 := (f1.1 _ _ kA).1
    rw [f2.2.2.2 uF 8 2 uA X1.S.1 X1.S.2.2.2.1 (by rw [kA1.2]; rfl) rfl (by decide)]
    exact X1.iA
  refine h2 r2 Z2 I2 L2 (MKd_fun d ok hm hm2).1 Y2.w bd2 f2 cp2 (fun s hs => ?_)
  rw [Y2.hn] at hs
  rw [e2, (MKd_fun d ok hm hm2).2]
  exact (Y2.ha s (by omega)).symm
/-- would: the class's call, and what it promises of the reference's -/
theorem SAM_would1 {B : Nat × Nat} {T : Nat} {L : jL} {Z : jZ} {I : jI} {v1 v2 uF uR uX uA uW uP x0 x1 u5c uFe uT uL0 uC0 uL1 uC1 uV p13 p14 : Nat} {vR vX vA vW v5 t6 t9 t10 t11 t12 t13 t29 t30 q0 q1 : Nat} (X : SAM Z I v1 v2 uF uR uX uA uW uP x0 x1 u5c uFe uT uL0 uC0 uL1 uC1 uV p13 p14 vR vX vA vW v5 t6 t9 t10 t11 t12 t13 t29 t30 q0 q1) (bd : BUD B Z T) (a b : Int32) {Q : Int32 → jZ → jI → jL → Prop}
    (hQ : ∀ (r1 : Int32) (Z1 : jZ) (I1 : jI) (L1 : jL), WD Z1 I1 → BUD B Z1 T → FR Whg Z I Z1 I1 → CP Z Z1 → (∀ (L : jL) (Q2 : Int32 → jZ → jI → jL → Prop), (∀ (r2 : Int32) (Z2 : jZ) (I2 : jI) (L2 : jL), r1.toInt = r2.toInt → WD Z2 I2 → BUD B Z2 T → FR Ws_X12_would Z1 I1 Z2 I2 → CP Z1 Z2 → ARr (I2 v2 0).toInt (I2 uA) (I2 vA) → Q2 r2 Z2 I2 L2) → f_X12_would B v2 a b Z1 I1 L Q2) → Q r1 Z1 I1 L1) : f_X11_would B v1 a b Z I L Q := by
  have d := X.rfm.dok
  have ok := X.ok
  have kA : jk Z uA 14 := (STc_k X.w X.S).2.2.1
  refine r_X11_would X.cwd bd a b (fun r1 Z1 I1 L1 hm X1 bd1 f1 cp1 => hQ r1 Z1 I1 L1 X1.w bd1 f1 cp1 (fun L Q2 h2 => ?_))
  have Y1 := X.rfm.fr X1.w f1 (by decide) (by decide)
  refine r_X12_would Y1 ok bd1 a b (fun r2 Z2 I2 L2 hm2 Y2 bd2 f2 cp2 => ?_)
  have e2 : I2 uA = I uA := by
    have kA1 := (f1.1 _ _ kA).1
    rw [f2.2.2.2 uF 8 2 uA X1.S.1 X1.S.2.2.2.1 (by rw [kA1.2]; rfl) rfl (by decide)]
    exact X1.iA
  refine h2 r2 Z2 I2 L2 (WOd_fun d ok hm hm2) Y2.w bd2 f2 cp2 (fun s hs => ?_)
  rw [Y2.hn] at hs
  rw [e2]
  exact (Y2.ha s (by omega)).symm
/-- best: the class's call, and what it promises of the reference's -/
theorem SAM_best1 {B : Nat × Nat} {T : Nat} {L : jL} {Z : jZ} {I : jI} {v1 v2 uF uR uX uA uW uP x0 x1 u5c uFe uT uL0 uC0 uL1 uC1 uV p13 p14 : Nat} {vR vX vA vW v5 t6 t9 t10 t11 t12 t13 t29 t30 q0 q1 : Nat} (X : SAM Z I v1 v2 uF uR uX uA uW uP x0 x1 u5c uFe uT uL0 uC0 uL1 uC1 uV p13 p14 vR vX vA vW v5 t6 t9 t10 t11 t12 t13 t29 t30 q0 q1) (bd : BUD B Z T) (a : Int32) {Q : Int32 → jZ → jI → jL → Prop}
    (hQ : ∀ (r1 : Int32) (Z1 : jZ) (I1 : jI) (L1 : jL), WD Z1 I1 → BUD B Z1 T → FR Wmk Z I Z1 I1 → CP Z Z1 → (∀ (L : jL) (Q2 : Int32 → jZ → jI → jL → Prop), (∀ (r2 : Int32) (Z2 : jZ) (I2 : jI) (L2 : jL), r1.toInt = r2.toInt → WD Z2 I2 → BUD B Z2 T → FR Ws_X12_best Z1 I1 Z2 I2 → CP Z1 Z2 → ARr (I2 v2 0).toInt (I2 uA) (I2 vA) → Q2 r2 Z2 I2 L2) → f_X12_best B v2 a Z1 I1 L Q2) → Q r1 Z1 I1 L1) : f_X11_best B v1 a Z I L Q := by
  have d := X.rfm.dok
  have ok := X.ok
  have kA : jk Z uA 14 := (STc_k X.w X.S).2.2.1
  refine r_X11_best X.cwd bd a (fun r1 Z1 I1 L1 hm X1 bd1 f1 cp1 => hQ r1 Z1 I1 L1 X1.w bd1 f1 cp1 (fun L Q2 h2 => ?_))
  have Y1 := X.rfm.fr X1.w f1 (by decide) (by decide)
  refine r_X12_best Y1 ok bd1 a (fun r2 Z2 I2 L2 hm2 Y2 bd2 f2 cp2 => ?_)
  have e2 : I2 uA = I uA := by
    have kA1 := (f1.1 _ _ kA).1
    rw [f2.2.2.2 uF 8 2 uA X1.S.1 X1.S.2.2.2.1 (by rw [kA1.2]; rfl) rfl (by decide)]
    exact X1.iA
  refine h2 r2 Z2 I2 L2 (BEd_fun d ok hm hm2) Y2.w bd2 f2 cp2 (fun s hs => ?_)
  rw [Y2.hn] at hs
  rw [e2]
  exact (Y2.ha s (by omega)).symm
