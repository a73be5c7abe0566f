/-! ===== EARNED: a copper led to a STEP and divided ===== -/
def DVn (N : Int) (wt : Nat → Int) (f : Nat) : Int := (dvS (sh0 N 720 wt) (rmQ N 720 wt) (N - shS (sh0 N 720 wt) 8).toNat).1 f
def wtS (P : Nat → Int32) (s : Nat) (f : Nat) : Int := if f < 8 then (P (8 * s + f)).toInt else 0
theorem wtS_at {P : Nat → Int32} {s f : Nat} (h : f < 8) : wtS P s f = (P (8 * s + f)).toInt := if_pos h
theorem wtS_cg {P P' : Nat → Int32} {s : Nat} (h : ∀ f, f < 8 → P (8 * s + f) = P' (8 * s + f)) : wtS P s = wtS P' s := funext fun f => by
  by_cases c : f < 8
  · rw [wtS_at c, wtS_at c, h f c]
  · unfold wtS
    rw [if_neg c, if_neg c]
/-- k coppers by each of N, as divided by wt, on to what was earned -/
def LDr (E E' : Nat → Int32) (k : Int32) (N : Int) (wt : Nat → Int) : Prop := ∀ f, f < 8 → E' f = E f + k * Int32.ofInt (DVn N wt f)
theorem shi_L2 {Z : jZ} {J : jI} (wJ : WD Z J) (v0 : Nat) (k0 : jk Z v0 4) (x0 : Nat) (h0 : jr Z v0 0 = some x0) (kx : jk Z x0 14) (o : Nat) (ko : jk Z o 11) (d6 : Nat) (h6 : jr Z o 6 = some d6) (k6 : jk Z d6 14) (l6 : jlen Z d6 = 8) (v1 : Int32) (s : Nat) (e1 : v1.toInt = (s : Int)) (hs : s < 24) {Q : jI → jL → Prop}
    (hQ : ∀ (I' : jI) (L' : jL), WD Z I' → FR [(11, 6)] Z J Z I' → (∀ f, f < 8 → I' d6 f = J x0 (8 * s + f)) → Q I' L') :
    ∀ (n p : Nat) (v3 : Int32) (I : jI) (L : jL), 9 ≤ n + p → p ≤ 8 → v3.toInt = (p : Int) → WD Z I → FR [(11, 6)] Z J Z I → (∀ f, f < p → I d6 f = J x0 (8 * s + f)) → f_X4_shareInto_L2 Z Q n v0 v1 d6 v3 I L := by
  have z0 : (0 : Int32).toInt = 0 := rfl
  have z1 : (1 : Int32).toInt = 1 := rfl
  have z8 : (8 : Int32).toInt = 8 := rfl
  have z24 : (24 : Int32).toInt = 24 := rfl
  intro n
  induction n with
  | zero => intro p v3 I L hk hi; omega
  | succ n ih =>
    intro p v3 I L hk hi e3 w f hT
    have n3 : v3.toNatClampNeg = p := by have := i_nat e3 (by omega); omega
    have y0 : I x0 = J x0 := f.2.2.2 v0 4 0 x0 k0 h0 (by rw [kx.2]; rfl) rfl (by decide)
    unfold f_X4_shareInto_L2
    refine ⟨fun c => hQ I L w f (fun f hf => hT f (by have c := (i_le z8 e3).mp c; omega)), fun c => ⟨fun c2 => ?_, fun c2 => ?_⟩⟩
    · have c := (not_congr (i_le z8 e3)).mp c
      rw [l6] at c2
      have c2 := (i_le (i_nI (n := 8) (by omega)) e3).mp c2
      omega
    have c := (not_congr (i_le z8 e3)).mp c
    unfold f_X4_shareOf
    refine ⟨fun q => absurd ((i_lt e1 z0).mp q) (by omega), fun _ => ⟨fun q => absurd ((i_le z24 e1).mp q) (by omega), fun _ => ?_⟩⟩
    refine s_X11_isFamily w v3 (fun r hr => ⟨fun q => ?_, fun _ => ?_⟩)
    · have q := (i_eq rfl z0).mp q
      omega
    intro b hb; cases h0.symm.trans hb
    have t : ((v1 * (8 : Int32)) + v3).toInt = ((8 * s + p : Nat) : Int) := (i_add (i_mul e1 z8 (by omega) (by omega)) e3 (by omega) (by omega)).trans (by omega)
    have tn : ((v1 * (8 : Int32)) + v3).toNatClampNeg = 8 * s + p := by have := i_nat t (by omega); omega
    refine ⟨vi_of t (by omega) (by omega), ?_⟩
    rw [tn, n3, l6]
    refine ⟨vi_of e3 (by omega) (by omega), fun I4 e4 x5 e5 => ?_⟩
    have w4 : WD Z I4 := by rw [e4]; exact WD_putA w 11 6 ko h6 k6 rfl rfl (by decide) trivial
    have f4 : FR [(11, 6)] Z I Z I4 := by rw [e4]; exact FR_upA w.2.1 ko h6 k6 rfl rfl List.mem_cons_self
    refine ih (p + 1) x5 I4 L (by omega) (by omega) (by rw [e5]; exact (i_add e3 z1 (by omega) (by omega)).trans (by omega)) w4 (f.trans wJ.1 wJ.2.1 f4) (fun g hg => ?_)
    by_cases c9 : g = p
    · subst c9
      rw [e4, jpI_at, y0]
    · rw [e4, jpI_off c9]
      exact hT g (by omega)
theorem le_L26 {Z : jZ} {J : jI} (wJ : WD Z J) (v0 : Nat) (kv0 : jk Z v0 11) (uE d6 : Nat) (h5 : jr Z v0 5 = some uE) (k5 : jk Z uE 14) (h6 : jr Z v0 6 = some d6) (k6 : jk Z d6 14) (v3 : Int32) {Q : jI → jL → Prop}
    (hQ : ∀ (I' : jI) (L' : jL), WD Z I' → FR [(11, 5)] Z J Z I' → (∀ f, f < 8 → I' uE f = J uE f + v3 * J d6 f) → Q I' L') :
    ∀ (n p : Nat) (v4 : Int32) (I : jI) (L : jL), 9 ≤ n + p → p ≤ 8 → v4.toInt = (p : Int) → WD Z I → FR [(11, 5)] Z J Z I → (∀ f, f < 8 → (f < p → I uE f = J uE f + v3 * J d6 f) ∧ (¬ f < p → I uE f = J uE f)) → f_X11_lead_L26 Z Q n v0 v3 v4 I L := by
  have z1 : (1 : Int32).toInt = 1 := rfl
  have z8 : (8 : Int32).toInt = 8 := rfl
  intro n
  induction n with
  | zero => intro p v4 I L hk hi; omega
  | succ n ih =>
    intro p v4 I L hk hi e4 w f hT
    have n4 : v4.toNatClampNeg = p := by have := i_nat e4 (by omega); omega
    have vi : p < 8 → vp_in v4 8 := fun h => vi_of e4 (by omega) (by omega)
    have y6 : I d6 = J d6 := f.2.2.2 v0 11 6 d6 kv0 h6 (by rw [k6.2]; rfl) rfl (by decide)
    unfold f_X11_lead_L26
    refine ⟨fun c => hQ I L w f (fun g hg => (hT g hg).1 (by have c := (i_le z8 e4).mp c; omega)), fun c => ?_⟩
    have c := (not_congr (i_le z8 e4)).mp c
    intro b hb; cases h5.symm.trans hb
    refine ⟨vi (by omega), ?_⟩
    intro b hb; cases h6.symm.trans hb
    refine ⟨vi (by omega), vi (by omega), fun I7 e7 x8 e8 => ?_⟩
    rw [n4] at e7
    have w7 : WD Z I7 := by rw [e7]; exact WD_putA w 11 5 kv0 h5 k5 rfl rfl (by decide) trivial
    have f7 : FR [(11, 5)] Z I Z I7 := by rw [e7]; exact FR_upA w.2.1 kv0 h5 k5 rfl rfl List.mem_cons_self
    refine ih (p + 1) x8 I7 L (by omega) (by omega) (by rw [e8]; exact (i_add e4 z1 (by omega) (by omega)).trans (by omega)) w7 (f.trans wJ.1 wJ.2.1 f7) (fun g hg => ?_)
    by_cases c9 : g = p
    · subst c9
      refine ⟨fun _ => ?_, fun q => absurd (Nat.lt_succ_self g) q⟩
      rw [e7, jpI_at, y6, (hT g hg).2 (Nat.lt_irrefl g)]
    · rw [e7, jpI_off c9]
      exact ⟨fun q => (hT g hg).1 (by omega), fun q => (hT g hg).2 (by omega)⟩
theorem DVn_of {N : Int} {wt : Nat → Int} {left : Nat} (el : N - shS (sh0 N 720 wt) 8 = (left : Int)) (f : Nat) : (dvS (sh0 N 720 wt) (rmQ N 720 wt) left).1 f = DVn N wt f := by
  unfold DVn
  rw [show (N - shS (sh0 N 720 wt) 8).toNat = left by omega]
theorem i_ofI {x : Int32} {v : Int} (h : x.toInt = v) : x = Int32.ofInt v := by
  rw [← h, Int32.ofInt_toInt]
theorem r_X11_lead {Z : jZ} {I : jI} {L : jL} (w : WD Z I) (v0 : Nat) (kv0 : jk Z v0 11) (uF uP x0 uE : Nat) (h2 : jr Z v0 2 = some uF) (h4 : jr Z uF 4 = some uP) (kP : jk Z uP 4) (h0 : jr Z uP 0 = some x0) (kx : jk Z x0 14) (h5 : jr Z v0 5 = some uE) (v1 v2 v3 : Int32) (N : Int) (e1 : v1.toInt = N) (hN : 0 ≤ N ∧ N ≤ 100000) (s : Nat) (e2 : v2.toInt = (s : Int)) (hs : s < 24) (hw : ∀ f, f < 8 → 0 ≤ wtS (I x0) s f ∧ wtS (I x0) s f ≤ 720) (hsum : shS (wtS (I x0) s) 8 = 720) {Q : jI → jL → Prop}
    (hQ : ∀ (I' : jI) (L' : jL), WD Z I' → FR Ws_X11_lead Z I Z I' → LDr (I uE) (I' uE) v3 N (wtS (I x0) s) → Q I' L') : f_X11_lead v0 v1 v2 v3 Z I L Q := by
  obtain ⟨d6, h6, k6, l6⟩ := sh_f w.1 kv0 (j := 6) (k := 14) (m := 8) rfl
  obtain ⟨x, ex, k5, -⟩ := sh_f w.1 kv0 (j := 5) (k := 14) (m := 8) rfl
  cases h5.symm.trans ex
  unfold f_X11_lead
  intro b hb; cases h2.symm.trans hb
  intro b hb; cases h4.symm.trans hb
  intro b hb; cases h6.symm.trans hb
  unfold f_X4_shareInto
  refine ⟨9, shi_L2 w uP kP x0 h0 kx v0 kv0 d6 h6 k6 l6 v2 s e2 hs (fun I1 L1 w1 f1 y1 => ?_) 9 0 0 I L (by omega) (by omega) rfl w FR.rf (fun f hf => absurd hf (Nat.not_lt_zero f))⟩
  obtain ⟨left, el, hl⟩ := left_ok (N := N) (W := 720) hN.1 (by omega) hw hsum
  refine s16_X11_divide w1 v0 kv0 v1 720 d6 h6 N 720 e1 rfl hN.1 (by omega) (by omega) (wtS (I x0) s) hw (fun i hi => by rw [y1 i hi, wtS_at hi]) left el hl (fun I2 L2 w2 f2 y2 => ?_)
  have f02 : FR Ws_X11_lead Z I Z I2 := (f1.mono (by decide)).trans w.1 w.2.1 (f2.mono (by decide))
  have a5 : I2 uE = I uE := (f2.2.2.2 v0 11 5 uE kv0 h5 (by rw [k5.2]; rfl) rfl (by decide)).trans (f1.2.2.2 v0 11 5 uE kv0 h5 (by rw [k5.2]; rfl) rfl (by decide))
  refine ⟨9, le_L26 w2 v0 kv0 uE d6 h5 k5 h6 k6 v3 (fun I3 L3 w3 f3 y3 => ?_) 9 0 0 I2 L2 (by omega) (by omega) rfl w2 FR.rf (fun f hf => ⟨fun q => absurd q (Nat.not_lt_zero f), fun _ => rfl⟩)⟩
  refine hQ I3 L3 w3 (f02.trans w.1 w.2.1 (f3.mono (by decide))) (fun f hf => ?_)
  rw [y3 f hf, a5, i_ofI ((y2 f hf).trans (DVn_of el f))]
theorem ea_L9 {Z : jZ} {J : jI} (wJ : WD Z J) (v0 : Nat) (kv0 : jk Z v0 12) (uE d6 : Nat) (h5 : jr Z v0 17 = some uE) (k5 : jk Z uE 14) (h6 : jr Z v0 35 = some d6) (k6 : jk Z d6 14) (v3 : Int32) {Q : jI → jL → Prop}
    (hQ : ∀ (I' : jI) (L' : jL), WD Z I' → FR [(12, 17)] Z J Z I' → (∀ f, f < 8 → I' uE f = J uE f + v3 * J d6 f) → Q I' L') :
    ∀ (n p : Nat) (v4 : Int32) (I : jI) (L : jL), 9 ≤ n + p → p ≤ 8 → v4.toInt = (p : Int) → WD Z I → FR [(12, 17)] Z J Z I → (∀ f, f < 8 → (f < p → I uE f = J uE f + v3 * J d6 f) ∧ (¬ f < p → I uE f = J uE f)) → f_X12_earn_L9 Z Q n v0 v3 v4 I L := by
  have z1 : (1 : Int32).toInt = 1 := rfl
  have z8 : (8 : Int32).toInt = 8 := rfl
  intro n
  induction n with
  | zero => intro p v4 I L hk hi; omega
  | succ n ih =>
    intro p v4 I L hk hi e4 w f hT
    have n4 : v4.toNatClampNeg = p := by have := i_nat e4 (by omega); omega
    have vi : p < 8 → vp_in v4 8 := fun h => vi_of e4 (by omega) (by omega)
    have y6 : I d6 = J d6 := f.2.2.2 v0 12 35 d6 kv0 h6 (by rw [k6.2]; rfl) rfl (by decide)
    unfold f_X12_earn_L9
    refine ⟨fun c => hQ I L w f (fun g hg => (hT g hg).1 (by have c := (i_le z8 e4).mp c; omega)), fun c => ?_⟩
    have c := (not_congr (i_le z8 e4)).mp c
    intro b hb; cases h5.symm.trans hb
    refine ⟨vi (by omega), ?_⟩
    intro b hb; cases h6.symm.trans hb
    refine ⟨vi (by omega), vi (by omega), fun I7 e7 x8 e8 => ?_⟩
    rw [n4] at e7
    have w7 : WD Z I7 := by rw [e7]; exact WD_putA w 12 17 kv0 h5 k5 rfl rfl (by decide) trivial
    have f7 : FR [(12, 17)] Z I Z I7 := by rw [e7]; exact FR_upA w.2.1 kv0 h5 k5 rfl rfl List.mem_cons_self
    refine ih (p + 1) x8 I7 L (by omega) (by omega) (by rw [e8]; exact (i_add e4 z1 (by omega) (by omega)).trans (by omega)) w7 (f.trans wJ.1 wJ.2.1 f7) (fun g hg => ?_)
    by_cases c9 : g = p
    · subst c9
      refine ⟨fun _ => ?_, fun q => absurd (Nat.lt_succ_self g) q⟩
      rw [e7, jpI_at, y6, (hT g hg).2 (Nat.lt_irrefl g)]
    · rw [e7, jpI_off c9]
      exact ⟨fun q => (hT g hg).1 (by omega), fun q => (hT g hg).2 (by omega)⟩
theorem shS_on1 {g : Nat → Int} {s : Nat} : ∀ n, shS (fun i => if (s : Int) = -1 ∨ (s : Int) = (i : Int) then g i else 0) n = if s < n then g s else 0 := by
  intro n
  induction n with
  | zero => rfl
  | succ n ih =>
    show shS (fun i => if (s : Int) = -1 ∨ (s : Int) = (i : Int) then g i else 0) n + (if (s : Int) = -1 ∨ (s : Int) = (n : Int) then g n else 0) = _
    rw [ih]
    by_cases c : s = n
    · subst c
      rw [if_neg (Nat.lt_irrefl s), if_pos (Or.inr rfl), if_pos (Nat.lt_succ_self s)]
      omega
    · rw [if_neg (show ¬ ((s : Int) = -1 ∨ (s : Int) = (n : Int)) by omega)]
      by_cases c2 : s < n
      · rw [if_pos c2, if_pos (by omega)]
        omega
      · rw [if_neg c2, if_neg (by omega)]
        rfl
theorem r_X12_earn {Z : jZ} {I : jI} {L : jL} (w : WD Z I) (v0 : Nat) (kv0 : jk Z v0 12) (u5 uE : Nat) (hu5 : jr Z v0 5 = some u5) (h17 : jr Z v0 17 = some uE) (n : Nat) (en : (I v0 0).toInt = (n : Int)) (hn : n ≤ 24) (v1 v2 v3 : Int32) (N : Int) (e2 : v2.toInt = N) (hN : 0 ≤ N ∧ N ≤ 100000) (s : Nat) (e1 : v1.toInt = (s : Int)) (hs : s < n) (hp : ∀ z, z < 8 * n → 0 ≤ (I u5 z).toInt ∧ (I u5 z).toInt ≤ 720) (hsum : shS (wtS (I u5) s) 8 = 720) {Q : jI → jL → Prop}
    (hQ : ∀ (I' : jI) (L' : jL), WD Z I' → FR Ws_X12_earn Z I Z I' → LDr (I uE) (I' uE) v3 N (wtS (I u5) s) → Q I' L') : f_X12_earn v0 v1 v2 v3 Z I L Q := by
  obtain ⟨d6, h6, k6, l6⟩ := sh_f w.1 kv0 (j := 35) (k := 14) (m := 8) rfl
  obtain ⟨x, ex, k5, -⟩ := sh_f w.1 kv0 (j := 17) (k := 14) (m := 8) rfl
  cases h17.symm.trans ex
  have hw : ∀ f, f < 8 → 0 ≤ wtS (I u5) s f ∧ wtS (I u5) s f ≤ 720 := fun f hf => by rw [wtS_at hf]; exact hp (8 * s + f) (by omega)
  obtain ⟨left, el, hl⟩ := left_ok (N := N) (W := 720) hN.1 (by omega) hw hsum
  unfold f_X12_earn
  refine s16_X12_divide w v0 kv0 v2 v1 u5 hu5 d6 h6 n en hn N 720 e2 (by rw [if_neg (by omega)]) hN.1 (by omega) (by omega) hp (wtS (I u5) s) (fun f hf => ?_) hw left el hl (fun I2 L2 w2 f2 y2 => ?_)
  · have t := shS_on1 (g := fun i => (I u5 (8 * i + f)).toInt) (s := s) n
    rw [if_pos hs] at t
    rw [e1, wtS_at hf]
    exact t
  have a5 : I2 uE = I uE := f2.2.2.2 v0 12 17 uE kv0 h17 (by rw [k5.2]; rfl) rfl (by decide)
  refine ⟨9, ea_L9 w2 v0 kv0 uE d6 h17 k5 h6 k6 v3 (fun I3 L3 w3 f3 y3 => ?_) 9 0 0 I2 L2 (by omega) (by omega) rfl w2 FR.rf (fun f hf => ⟨fun q => absurd q (Nat.not_lt_zero f), fun _ => rfl⟩)⟩
  refine hQ I3 L3 w3 ((f2.mono (by decide)).trans w.1 w.2.1 (f3.mono (by decide))) (fun f hf => ?_)
  rw [y3 f hf, a5, i_ofI ((y2 f hf).trans (DVn_of el f))]
/-- both sides the same -/
theorem LDr_eq {E E' G G' : Nat → Int32} {k : Int32} {N : Int} {wt wt' : Nat → Int} (hE : ∀ f, f < 8 → E f = G f) (hw : wt = wt') (h : LDr E E' k N wt) (g : LDr G G' k N wt') : ∀ f, f < 8 → E' f = G' f := fun f hf => by
  rw [h f hf, g f hf, hE f hf, hw]
/-- a move led: each leapt over, then the one come to -/
def LDs (PR : Int → Int → Int → Int → Int → Int) (P : Nat → Int32) (fr to ld lp : Int) : Nat → Int → (Nat → Int32) → (Nat → Int32) → Prop
  | 0, _, E, E' => LDr E E' 1 (PR 0 to fr lp ld) (wtS P to.toNat)
  | k + 1, s, E, E' => ∃ E1, LDr E E1 1 (PR 1 s fr lp ld) (wtS P s.toNat) ∧ LDs PR P fr to ld lp k (s + 1) E1 E'
theorem LDs_eq {PR : Int → Int → Int → Int → Int → Int} {P P' : Nat → Int32} {fr to ld lp : Int} {n : Nat} (hP : ∀ s : Nat, s < n → wtS P s = wtS P' s) (ht : 0 ≤ to ∧ to < (n : Int)) : ∀ (k : Nat) (s : Int) (E E' G G' : Nat → Int32), 0 ≤ s → s + (k : Int) ≤ to → (∀ f, f < 8 → E f = G f) → LDs PR P fr to ld lp k s E E' → LDs PR P' fr to ld lp k s G G' → ∀ f, f < 8 → E' f = G' f := by
  intro k
  induction k with
  | zero =>
    intro s E E' G G' h0 h1 hE h g
    exact LDr_eq hE (hP to.toNat (by omega)) h g
  | succ k ih =>
    intro s E E' G G' h0 h1 hE h g
    obtain ⟨E1, a, b⟩ := h
    obtain ⟨G1, a', b'⟩ := g
    exact ih (s + 1) E1 E' G1 G' (by omega) (by omega) (LDr_eq hE (hP s.toNat (by omega)) a a') b b'
/-! ===== EARNED: the class's moves led ===== -/
/-- what leads need of the class: parts, what is earned -/
def LDc (Z : jZ) (I : jI) (v0 v8 uP4 x0 uE n : Nat) : Prop := jr Z v0 2 = some v8 ∧ jr Z v8 4 = some uP4 ∧ jk Z uP4 4 ∧ jr Z uP4 0 = some x0 ∧ jk Z x0 14 ∧ jr Z v0 5 = some uE ∧ jk Z uE 14 ∧ (∀ s f, s < n → f < 8 → 0 ≤ wtS (I x0) s f ∧ wtS (I x0) s f ≤ 720) ∧ ∀ s, s < n → shS (wtS (I x0) s) 8 = 720
theorem LDc_fr {W : List (Nat × Nat)} {Z : jZ} {I I' : jI} {v0 v8 uP4 x0 uE n : Nat} (f : FR W Z I Z I') (h : LDc Z I v0 v8 uP4 x0 uE n) (hW : (4, 0) ∉ W) : LDc Z I' v0 v8 uP4 x0 uE n := by
  obtain ⟨h2, h4, kP, h0, kx, h5, k5, a, b⟩ := h
  have e : I' x0 = I x0 := f.2.2.2 uP4 4 0 x0 kP h0 (by rw [kx.2]; rfl) rfl hW
  exact ⟨h2, h4, kP, h0, kx, h5, k5, by rw [e]; exact a, by rw [e]; exact b⟩
set_option maxHeartbeats 1000000 in
theorem pf_L17 {Z : jZ} {J : jI} (wJ : WD Z J) (v0 q v8 uP4 x0 uE n : Nat) (kv : jk Z v0 11) (kq : jk Z q 5) (hc : LDc Z J v0 v8 uP4 x0 uE n) (PR : Int → Int → Int → Int → Int → Int) (hPR : ∀ I, WD Z I → FR Ws_X11_payForMove Z J Z I → PRC Z I v8 (n : Int) PR) (hb : ∀ a b c d e, 0 ≤ PR a b c d e ∧ PR a b c d e ≤ 99) (n24 : n ≤ 24) (v2 v3 : Int32) (to lp ld fr : Int) (e2 : v2.toInt = to) (e3 : v3.toInt = lp) (ef : (J q 5).toInt = fr) (el : (J q 3).toInt = ld) (hf : -1 ≤ fr ∧ fr < (n : Int)) (ht : 0 ≤ to ∧ to < (n : Int)) (E0 : Nat → Int32) {Q : jI → jL → Prop}
    (hQ : ∀ (I' : jI) (L' : jL), WD Z I' → FR Ws_X11_payForMove Z J Z I' → (∀ E, (∀ g, g < 8 → E g = I' uE g) → LDs PR (J x0) fr to ld lp (to - (fr + 1)).toNat (fr + 1) E0 E) → Q I' L') :
    ∀ (k : Nat) (s : Int) (v4 : Int32) (I : jI) (L : jL), (to - s).toNat + 1 ≤ k → 0 ≤ s → s ≤ to → v4.toInt = s → WD Z I → FR Ws_X11_payForMove Z J Z I → (∀ E, LDs PR (J x0) fr to ld lp (to - s).toNat s (I uE) E → LDs PR (J x0) fr to ld lp (to - (fr + 1)).toNat (fr + 1) E0 E) → f_X11_payForMove_L17 Z Q k v0 q v2 v3 v4 I L := by
  have z0 : (0 : Int32).toInt = 0 := rfl
  have z1 : (1 : Int32).toInt = 1 := rfl
  intro k
  induction k with
  | zero => intro s v4 I L hk; omega
  | succ k ih =>
    intro s v4 I L hk h0 h1 e4 w f hL
    have hc' : LDc Z I v0 v8 uP4 x0 uE n := LDc_fr f hc (by decide)
    obtain ⟨g2, g4, kP, g0, kx, g5, k5, wa, wb⟩ := hc'
    have yx : I x0 = J x0 := f.2.2.2 uP4 4 0 x0 kP g0 (by rw [kx.2]; rfl) rfl (by decide)
    have y5 : (I q 5).toInt = fr := by rw [f.2.2.1 q 5 5 kq (by decide) (by decide)]; exact ef
    have y3 : (I q 3).toInt = ld := by rw [f.2.2.1 q 5 3 kq (by decide) (by decide)]; exact el
    unfold f_X11_payForMove_L17
    refine ⟨fun c => ?_, fun c => ?_⟩
    · have c := (i_le e2 e4).mp c
      have st : s = to := by omega
      intro b hb'; cases g2.symm.trans hb'
      refine hPR I w f 0 v2 (I q 5) v3 (I q 3) I L _ w FR.rf (by decide) (by omega) (by omega) (fun r I1 L1 w1 f1 er => ?_)
      rw [e2, y5, e3, y3] at er
      have er : r.toInt = PR 0 to fr lp ld := er
      have g1 : FR Ws_X11_payForMove Z J Z I1 := f.trans wJ.1 wJ.2.1 (f1.mono (by decide))
      have hc1 := LDc_fr f1 ⟨g2, g4, kP, g0, kx, g5, k5, wa, wb⟩ (by decide)
      have yx1 : I1 x0 = I x0 := f1.2.2.2 uP4 4 0 x0 kP g0 (by rw [kx.2]; rfl) rfl (by decide)
      have ye1 : I1 uE = I uE := f1.2.2.2 v0 11 5 uE kv g5 (by rw [k5.2]; rfl) rfl (by decide)
      refine r_X11_lead w1 v0 kv v8 uP4 x0 uE g2 g4 kP g0 kx g5 r v2 1 _ er (by have := hb 0 to fr lp ld; omega) to.toNat (by omega) (by omega) (fun i hi => hc1.2.2.2.2.2.2.2.1 to.toNat i (by omega) hi) (hc1.2.2.2.2.2.2.2.2 to.toNat (by omega)) (fun I2 L2 w2 f2 hl => ?_)
      refine hQ I2 L2 w2 (g1.trans wJ.1 wJ.2.1 (f2.mono (by decide))) (fun E hE => hL E ?_)
      rw [yx1, yx, ye1] at hl
      rw [show (to - s).toNat = 0 by omega]
      show LDr (I uE) E 1 (PR 0 to fr lp ld) (wtS (J x0) to.toNat)
      exact fun i hi => (hE i hi).trans (hl i hi)
    · have c := (not_congr (i_le e2 e4)).mp c
      intro b hb'; cases g2.symm.trans hb'
      refine hPR I w f 1 v4 (I q 5) v3 (I q 3) I L _ w FR.rf (by decide) (by omega) (by omega) (fun r I1 L1 w1 f1 er => ?_)
      rw [e4, y5, e3, y3] at er
      have er : r.toInt = PR 1 s fr lp ld := er
      have g1 : FR Ws_X11_payForMove Z J Z I1 := f.trans wJ.1 wJ.2.1 (f1.mono (by decide))
      have hc1 := LDc_fr f1 ⟨g2, g4, kP, g0, kx, g5, k5, wa, wb⟩ (by decide)
      have yx1 : I1 x0 = I x0 := f1.2.2.2 uP4 4 0 x0 kP g0 (by rw [kx.2]; rfl) rfl (by decide)
      have ye1 : I1 uE = I uE := f1.2.2.2 v0 11 5 uE kv g5 (by rw [k5.2]; rfl) rfl (by decide)
      refine r_X11_lead w1 v0 kv v8 uP4 x0 uE g2 g4 kP g0 kx g5 r v4 1 _ er (by have := hb 1 s fr lp ld; omega) s.toNat (by omega) (by omega) (fun i hi => hc1.2.2.2.2.2.2.2.1 s.toNat i (by omega) hi) (hc1.2.2.2.2.2.2.2.2 s.toNat (by omega)) (fun I2 L2 w2 f2 hl => ?_)
      rw [yx1, yx, ye1] at hl
      intro x ex
      refine ih (s + 1) x I2 L2 (by omega) (by omega) (by omega) (by rw [ex]; exact i_add e4 z1 (by omega) (by omega)) w2 (g1.trans wJ.1 wJ.2.1 (f2.mono (by decide))) (fun E hE => hL E ?_)
      rw [show (to - s).toNat = (to - (s + 1)).toNat + 1 by omega]
      exact ⟨I2 uE, hl, hE⟩
theorem r_X11_payForMove {Z : jZ} {I : jI} {L : jL} (w : WD Z I) (v0 q v8 uP4 x0 uE n : Nat) (kv : jk Z v0 11) (kq : jk Z q 5) (hc : LDc Z I v0 v8 uP4 x0 uE n) (PR : Int → Int → Int → Int → Int → Int) (hPR : ∀ I', WD Z I' → FR Ws_X11_payForMove Z I Z I' → PRC Z I' v8 (n : Int) PR) (hb : ∀ a b c d e, 0 ≤ PR a b c d e ∧ PR a b c d e ≤ 99) (n24 : n ≤ 24) (v2 : Int32) (to ld fr : Int) (e2 : v2.toInt = to) (ef : (I q 5).toInt = fr) (el : (I q 3).toInt = ld) (hf : -1 ≤ fr ∧ fr < to) (ht : to < (n : Int)) {Q : jI → jL → Prop}
    (hQ : ∀ (I' : jI) (L' : jL), WD Z I' → FR Ws_X11_payForMove Z I Z I' → LDs PR (I x0) fr to ld (to - fr - 1) (to - (fr + 1)).toNat (fr + 1) (I uE) (I' uE) → Q I' L') : f_X11_payForMove v0 q v2 Z I L Q := by
  have z1 : (1 : Int32).toInt = 1 := rfl
  unfold f_X11_payForMove
  intro x31 e31 x32 e32
  have t31 : x31.toInt = to - fr - 1 := by
    rw [e31]
    exact i_sub (i_sub e2 ef (by omega) (by omega)) z1 (by omega) (by omega)
  have t32 : x32.toInt = fr + 1 := by
    rw [e32]
    exact i_add ef z1 (by omega) (by omega)
  exact ⟨(to - (fr + 1)).toNat + 1, pf_L17 w v0 q v8 uP4 x0 uE n kv kq hc PR hPR hb n24 v2 x31 to (to - fr - 1) ld fr e2 t31 ef el (by omega) (by omega) (I uE) (fun I' L' w' f' h => hQ I' L' w' f' (h (I' uE) (fun _ _ => rfl))) _ (fr + 1) x32 I L (Nat.le_refl _) (by omega) (by omega) t32 w FR.rf (fun E h => h)⟩
/-! ===== EARNED that is kept, over all calls ===== -/
def KCe (Z : jZ) (I : jI) (uS u62 : Nat) (n : Int) : Prop := ∀ i b a, i < 2 → jr Z uS i = some b → ¬ I b 8 = 0 → jr Z b 3 = some a → ∀ s : Nat, (s : Int) < n → I a s = I u62 (266 * i + (258 + s))
theorem KCe_fr {W : List (Nat × Nat)} {Z Z' : jZ} {I I' : jI} {uS v2 u62 : Nat} {n m : Int} (f : FR W Z I Z' I') (sh : SH Z) (kS : jk Z uS 17) (lS : jlen Z uS = 2) (k2 : jk Z v2 12) (h62 : jr Z v2 62 = some u62) (k62 : jk Z u62 14) (n1 : (2, 8) ∉ W) (n2 : (2, 3) ∉ W) (n3 : (12, 62) ∉ W) (em : m = n) (h : KCe Z I uS u62 n) : KCe Z' I' uS u62 m := by
  intro i b a hi hb hh ha s hs
  rw [f.2.1 uS 17 i kS (by omega) (by omega)] at hb
  obtain ⟨y, ey, kb⟩ := sh.2.2.1 uS kS i (by rw [lS]; exact hi)
  cases hb.symm.trans ey
  rw [f.2.1 b 2 3 kb (by omega) (by omega)] at ha
  obtain ⟨x, ex, ka, -⟩ := sh_f sh kb (j := 3) (k := 14) (m := 8) rfl
  cases ha.symm.trans ex
  rw [f.2.2.1 b 2 8 kb (by decide) n1] at hh
  rw [f.2.2.2 b 2 3 a kb ha (by rw [ka.2]; rfl) rfl n2, f.2.2.2 v2 12 62 u62 k2 h62 (by rw [k62.2]; rfl) rfl n3]
  exact h i b a hi hb hh ha s (by omega)
theorem KCe_frp {Z Z' : jZ} {I I' : jI} {uS v2 u62 : Nat} {n m : Int} (f : FRp Z I Z' I') (sh : SH Z) (kS : jk Z uS 17) (lS : jlen Z uS = 2) (k62 : jk Z u62 14) (em : m = n) (h : KCe Z I uS u62 n) : KCe Z' I' uS u62 m := by
  intro i b a hi hb hh ha s hs
  rw [f.1 uS 17 i kS (by decide)] at hb
  obtain ⟨y, ey, kb⟩ := sh.2.2.1 uS kS i (by rw [lS]; exact hi)
  cases hb.symm.trans ey
  rw [f.1 b 2 3 kb (by decide)] at ha
  obtain ⟨x, ex, ka, -⟩ := sh_f sh kb (j := 3) (k := 14) (m := 8) rfl
  cases ha.symm.trans ex
  rw [f.2 b 2 8 kb (by decide)] at hh
  rw [f.2 a 14 s ka (by omega), f.2 u62 14 _ k62 (by omega)]
  exact h i b a hi hb hh ha s (by omega)
theorem KCe_stairs {Z Z2 : jZ} {I0 I1 I2 : jI} {uS v2 u62 : Nat} {r1 r2 : Int} {n m : Int} (f1 : FR Ws_X11_stairs Z I0 Z I1) (f2 : FR Ws_X12_stairs Z I1 Z2 I2) (sh : SH Z) (kS : jk Z uS 17) (lS : jlen Z uS = 2) (k2 : jk Z v2 12) (h62 : jr Z v2 62 = some u62) (k62 : jk Z u62 14) (er : r1 = r2)
    (p1 : (r1 < 0 → ∀ b, jk Z b 2 → I1 b 8 = I0 b 8) ∧ (0 ≤ r1 → ∀ i b, i < 2 → jr Z uS i = some b → I1 b 8 = 0)) (em : r2 < 0 → m = n) (h : KCe Z I0 uS u62 n) : KCe Z2 I2 uS u62 m := by
  intro i b a hi hb hh ha s hs
  rw [f2.2.1 uS 17 i kS (by omega) (by omega)] at hb
  obtain ⟨y, ey, kb⟩ := sh.2.2.1 uS kS i (by rw [lS]; exact hi)
  cases hb.symm.trans ey
  rw [f2.2.1 b 2 3 kb (by omega) (by omega)] at ha
  obtain ⟨x, ex, ka, -⟩ := sh_f sh kb (j := 3) (k := 14) (m := 8) rfl
  cases ha.symm.trans ex
  rw [f2.2.2.1 b 2 8 kb (by decide) (by decide)] at hh
  by_cases c : 0 ≤ r1
  · exact absurd (p1.2 c i b hi hb) hh
  · rw [p1.1 (by omega) b kb] at hh
    rw [f2.2.2.2 b 2 3 a kb ha (by rw [ka.2]; rfl) rfl (by decide), f1.2.2.2 b 2 3 a kb ha (by rw [ka.2]; rfl) rfl (by decide), f2.2.2.2 v2 12 62 u62 k2 h62 (by rw [k62.2]; rfl) rfl (by decide), f1.2.2.2 v2 12 62 u62 k2 h62 (by rw [k62.2]; rfl) rfl (by decide)]
    exact h i b a hi hb hh ha s (by have := em (by omega); omega)
theorem KCe_keep {Z : jZ} {I0 I1 I2 : jI} {v1 v2 uS uF uX uY u62 uK uC : Nat} {v : Int32} {r1 r2 n m : Int} (w : WD Z I0) (f1 : FR Ws_X11_keep Z I0 Z I1) (f2 : FR Ws_X12_keep Z I1 Z I2) (k1 : jk Z v1 11) (kS : jk Z uS 17) (lS : jlen Z uS = 2) (k2 : jk Z v2 12) (h62 : jr Z v2 62 = some u62) (k62 : jk Z u62 14) (hF : jr Z v1 2 = some uF) (kF : jk Z uF 8) (hX : jr Z v1 5 = some uX) (hY : jr Z v2 17 = some uY) (kY : jk Z uY 14) (n24 : n ≤ 8) (em : m = n)
    (p1 : KP11 Z uS v r1 I0 I1) (q1 : KBC Z v1 uS v r1 I0 I1) (p2 : KP12 v2 uK uC v r2 I1 I2) (q2 : KPM Z v2 v r2 I1 I2) (hs : ARr n (I0 uX) (I0 uY)) (h : KCe Z I0 uS u62 n) : KCe Z I2 uS u62 m := by
  intro i b a hi hb hh ha s hs2
  rw [em] at hs2
  obtain ⟨y, ey, kb⟩ := w.1.2.2.1 uS kS i (by rw [lS]; exact hi)
  cases hb.symm.trans ey
  obtain ⟨x, ex, ka, -⟩ := sh_f w.1 kb (j := 3) (k := 14) (m := 8) rfl
  cases ha.symm.trans ex
  obtain ⟨a1, ha1, -⟩ := sh_f w.1 kb (j := 1) (k := 14) (m := 24) rfl
  obtain ⟨a2, ha2, -⟩ := sh_f w.1 kb (j := 2) (k := 14) (m := 192) rfl
  obtain ⟨a0, ha0, -⟩ := sh_f w.1 kb (j := 0) (k := 14) (m := 24) rfl
  obtain ⟨uP, hP, kP⟩ := sh_o w.1 kF (j := 4) (k := 4) rfl
  obtain ⟨x0, hx0, -⟩ := sh_f w.1 kP (j := 0) (k := 14) (m := 192) rfl
  obtain ⟨x2, hx2, -⟩ := sh_f w.1 kF (j := 2) (k := 14) (m := 24) rfl
  obtain ⟨x1, hx1, -⟩ := sh_f w.1 kF (j := 1) (k := 14) (m := 24) rfl
  have g1 := q1 uF uP x0 x1 x2 uX hF hP hx0 hx1 hx2 hX i b a0 a1 a2 a hi hb ha0 ha1 ha2 ha
  obtain ⟨u65, h65, -⟩ := sh_f w.1 k2 (j := 65) (k := 14) (m := 2) rfl
  obtain ⟨u3, h3, -⟩ := sh_f w.1 k2 (j := 3) (k := 14) (m := 24) rfl
  obtain ⟨u5, h5, -⟩ := sh_f w.1 k2 (j := 5) (k := 14) (m := 192) rfl
  obtain ⟨u14, h14, -⟩ := sh_f w.1 k2 (j := 14) (k := 14) (m := 6) rfl
  obtain ⟨u15, h15, -⟩ := sh_f w.1 k2 (j := 15) (k := 14) (m := 6) rfl
  obtain ⟨u16, h16, -⟩ := sh_f w.1 k2 (j := 16) (k := 14) (m := 6) rfl
  obtain ⟨u2, h2, -⟩ := sh_f w.1 k2 (j := 2) (k := 14) (m := 24) rfl
  have g2 := q2 u62 u65 u2 u3 u5 u14 u15 u16 uY h62 h65 h2 h3 h5 h14 h15 h16 hY
  have eY : I1 uY = I0 uY := f1.2.2.2 v2 12 17 uY k2 hY (by rw [kY.2]; rfl) rfl (by decide)
  have eK : I1 u62 = I0 u62 := f1.2.2.2 v2 12 62 u62 k2 h62 (by rw [k62.2]; rfl) rfl (by decide)
  have ea : I2 a = I1 a := f2.2.2.2 b 2 3 a kb ha (by rw [ka.2]; rfl) rfl (by decide)
  rw [f2.2.2.1 b 2 8 kb (by decide) (by decide)] at hh
  rw [ea]
  rcases p1 with ⟨hr, hv, z1⟩ | ⟨hr, hv, z1⟩
  · have hr2 : r2 = 1 := by
      rcases p2 with ⟨h9, -⟩ | ⟨-, h9, -⟩
      · exact h9
      · exact absurd hv h9
    obtain ⟨k1', k2', -, -⟩ := g2.1 hr2
    have n1 := i_nat (x := v) rfl hv.1
    by_cases c : i = v.toNatClampNeg
    · rw [(g1.1 ⟨hr, c⟩).2.2.2 s (by omega), c, k1' (258 + s) (by omega), kS_ea, eY]
      exact hs s hs2
    · rw [(z1 i b hi hb).2 c] at hh
      rw [(g1.2 (fun q => c q.2)).2.2.2, k2' (266 * i + (258 + s)) (by omega), eK]
      exact h i b a hi hb hh ha s hs2
  · have hr2 : r2 = 0 := by
      rcases p2 with ⟨-, h9, -⟩ | ⟨h9, -⟩
      · exact absurd h9 hv
      · exact h9
    rw [z1 b kb] at hh
    rw [(g1.2 (fun q => by omega)).2.2.2, (g2.2 hr2).1, eK]
    exact h i b a hi hb hh ha s hs2
/-! ===== the reference: again: what is EARNED ===== -/
def Wpeg : List (Nat × Nat) := [(12, 14), (12, 15), (12, 16), (12, 17), (12, 52), (12, 66)]
def EG2 (I' I : jI) (u17 u62 i : Nat) : Prop := ∀ f : Nat, f < 8 → I' u17 f = I u62 (266 * i + (258 + f))
theorem pge_L175 {Z : jZ} {J : jI} (wJ : WD Z J) (v0 : Nat) (k0 : jk Z v0 12) (u62 u17 : Nat) (h62 : jr Z v0 62 = some u62) (h17 : jr Z v0 17 = some u17) (k17 : jk Z u17 14) (k62 : jk Z u62 14) (i : Nat) (hi : i < 2) {Q : Int32 → jI → jL → Prop} (hQ : ∀ (I : jI) (L : jL), WD Z I → FR [(12, 17), (12, 52), (12, 66)] Z J Z I → EG2 I J u17 u62 i → Q 1 I L) :
    ∀ (n p : Nat) (v2 : Int32) (I : jI) (L : jL), WD Z I → FR [(12, 17), (12, 66)] Z J Z I → (I v0 66).toInt = 266 * (i : Int) + ((258 + p : Nat) : Int) → v2.toInt = (p : Int) → p ≤ 8 → 9 ≤ n + p → (∀ f, f < p → I u17 f = J u62 (266 * i + (258 + f))) → f_X12_again_L175 Z Q n v0 v2 I L := by
  have z1 : (1 : Int32).toInt = 1 := rfl
  have z8 : (8 : Int32).toInt = 8 := rfl
  intro n
  induction n with
  | zero => intro p v2 I L w f t e1 e2 e4; exfalso; omega
  | succ n ih =>
    intro p v2 I L w f t e1 e2 e4 hE
    have y62 : I u62 = J u62 := f.2.2.2 v0 12 62 u62 k0 h62 (by rw [k62.2]; rfl) rfl (by decide)
    unfold f_X12_again_L175
    refine ⟨fun c => ?_, fun c => ?_⟩
    · intro I2 e9
      exact hQ I2 L (by rw [e9]; exact WD_putF w 12 52 k0 (by decide) (by decide) (by constructor <;> decide)) ((f.mono (by decide)).trans wJ.1 wJ.2.1 (by rw [e9]; exact FR_putF k0 (by decide) (by decide))) (fun g hg => by rw [e9, jpI_ne (ks_ne k17 k0 (by decide))]; exact hE g (by have c := (i_le z8 e1).mp c; omega))
    have c := (not_congr (i_le z8 e1)).mp c
    have q := i_nat e1 (by omega)
    have q : v2.toNatClampNeg = p := by omega
    intro b hb; cases h17.symm.trans hb
    refine ag_take w k0 h62 hi (by omega) t (fun I1 L1 w1 f1 t1 _ => ?_)
    refine ⟨vi_of e1 (by omega) (by omega), ?_⟩
    intro I12 e12 x13 e13
    rw [q, y62] at e12
    have a17 : I1 u17 = I u17 := f1.2.2.2 v0 12 17 u17 k0 h17 (by rw [k17.2]; rfl) rfl (by decide)
    have w12 : WD Z I12 := by rw [e12]; exact WD_putA w1 12 17 k0 h17 k17 rfl rfl (by decide) trivial
    refine ih (p + 1) x13 I12 L1 w12 ((f.trans wJ.1 wJ.2.1 (f1.mono (by decide))).trans wJ.1 wJ.2.1 (by rw [e12]; exact FR_upA w1.2.1 k0 h17 k17 rfl rfl (by decide))) ?_ ?_ (by omega) (by omega) (fun g hg => ?_)
    · rw [e12, jpI_ne (ks_ne k0 k17 (by decide)), t1]; omega
    · rw [e13]; exact (i_add e1 z1 (by omega) (by omega)).trans (by omega)
    · by_cases c9 : g = p
      · rw [c9, e12, jpI_at]
      · rw [e12, jpI_off c9, a17]
        exact hE g (by omega)
set_option maxHeartbeats 4000000 in
theorem pge_L108 {Z : jZ} {J : jI} (wJ : WD Z J) (v0 : Nat) (v1 : Int32) (k0 : jk Z v0 12) (u62 : Nat) (h62 : jr Z v0 62 = some u62) (k62 : jk Z u62 14) (u14 u15 u16 u65 : Nat) (h14 : jr Z v0 14 = some u14) (k14 : jk Z u14 14) (h15 : jr Z v0 15 = some u15) (k15 : jk Z u15 14) (h16 : jr Z v0 16 = some u16) (k16 : jk Z u16 14) (h65 : jr Z v0 65 = some u65) (k65 : jk Z u65 14) (i : Nat) (hi : i < 2) (ev : v1.toInt = (i : Int)) {Q : Int32 → jI → jL → Prop}
    (hQ : ∀ (I : jI) (L : jL), WD Z I → FR Wpeg Z J Z I → (∀ u17, jr Z v0 17 = some u17 → EG2 I J u17 u62 i) → Q (1 : Int32) I L) :
    ∀ (n p : Nat) (v2 : Int32) (I : jI) (L : jL), WD Z I → FR [(12, 14), (12, 15), (12, 16), (12, 66)] Z J Z I → (I v0 66).toInt = 266 * (i : Int) + ((240 + 3 * p : Nat) : Int) → v2.toInt = (p : Int) → p ≤ 6 ∧ 7 ≤ n + p → f_X12_again_L108 Z Q n v0 v1 v2 I L := by
  have z1 : (1 : Int32).toInt = 1 := rfl
  have z6 : (6 : Int32).toInt = 6 := rfl
  have z0 : (0 : Int32).toInt = ((0 : Nat) : Int) := rfl
  have n45 : u14 ≠ u15 := ds_ne wJ.2.1 k0 h14 h15 rfl rfl (by decide)
  have n46 : u14 ≠ u16 := ds_ne wJ.2.1 k0 h14 h16 rfl rfl (by decide)
  have n56 : u15 ≠ u16 := ds_ne wJ.2.1 k0 h15 h16 rfl rfl (by decide)
  obtain ⟨u17, h17, k17, -⟩ := sh_f wJ.1 k0 (j := 17) (k := 14) (m := 8) rfl
  intro n
  induction n with
  | zero => intro p v2 I L w f t e1 e2; exfalso; omega
  | succ n ih =>
    intro p v2 I L w f t e1 e2
    have y62 : I u62 = J u62 := f.2.2.2 v0 12 62 u62 k0 h62 (by rw [k62.2]; rfl) rfl (by decide)
    have nx : ∀ y : Int32, y = v2 + 1 → y.toInt = ((p + 1 : Nat) : Int) := fun y ey => by rw [ey]; exact (i_add e1 z1 (by omega) (by omega)).trans (by omega)
    unfold f_X12_again_L108
    refine ⟨fun c => ?_, fun c => ?_⟩
    · have c := (i_le z6 e1).mp c
      refine ⟨9, pge_L175 w v0 k0 u62 u17 h62 h17 k17 k62 i hi (fun I' L' w' f' hE => ?_) 9 0 0 I L w FR.rf (by rw [t]; omega) z0 (by omega) (by omega) (fun f hf => absurd hf (Nat.not_lt_zero f))⟩
      refine hQ I' L' w' ((f.mono (by decide)).trans wJ.1 wJ.2.1 (f'.mono (by decide))) (fun x hx g hg => ?_)
      cases h17.symm.trans hx
      rw [hE g hg, y62]
    have c := (not_congr (i_le z6 e1)).mp c
    have q := i_nat e1 (by omega)
    have q : v2.toNatClampNeg = p := by omega
    have qi : v1.toNatClampNeg = i := by have := i_nat ev (by omega); omega
    refine ag_take w k0 h62 hi (by omega) t (fun I1 L1 w1 f1 t1 ok1 => ?_)
    have y1 : I1 u62 = I u62 := f1.2.2.2 v0 12 62 u62 k0 h62 (by rw [k62.2]; rfl) rfl (by decide)
    refine ag_take w1 k0 h62 hi (by omega) t1 (fun I2 L2 w2 f2 t2 ok2 => ?_)
    have y2 : I2 u62 = I1 u62 := f2.2.2.2 v0 12 62 u62 k0 h62 (by rw [k62.2]; rfl) rfl (by decide)
    refine ag_take w2 k0 h62 hi (by omega) t2 (fun I3 L3 w3 f3 t3 ok3 => ?_)
    have f03 : FR [(12, 66)] Z I Z I3 := (f1.trans w.1 w.2.1 f2).trans w.1 w.2.1 f3
    have ar : ∀ {j u}, jr Z v0 j = some u → jk Z u 14 → jsr 12 j = false → (12, j) ∉ [((12 : Nat), (66 : Nat))] → I3 u = I u := fun {j u} h k hs hn => f03.2.2.2 v0 12 j u k0 h (by rw [k.2]; rfl) hs hn
    have a14 := ar h14 k14 rfl (by decide)
    have a15 := ar h15 k15 rfl (by decide)
    have a16 := ar h16 k16 rfl (by decide)
    have y65 : I3 u65 = J u65 := (ar h65 k65 rfl (by decide)).trans (f.2.2.2 v0 12 65 u65 k0 h65 (by rw [k65.2]; rfl) rfl (by decide))
    intro b hb; cases h65.symm.trans hb
    rw [qi, q, y65]
    refine ⟨vi_of ev (by omega) (by omega), fun c5 => ?_, fun c5 => ?_⟩
    · have c5 := (i_lt e1 rfl).mp c5
      intro b hb; cases h14.symm.trans hb
      refine ⟨vi_of e1 (by omega) (by omega), fun I4 e4 => ?_⟩
      intro b hb; cases h15.symm.trans hb
      refine ⟨vi_of e1 (by omega) (by omega), fun I5 e5 => ?_⟩
      intro b hb; cases h16.symm.trans hb
      refine ⟨vi_of e1 (by omega) (by omega), fun I6 e6 => ?_⟩
      have w4 : WD Z I4 := by rw [e4]; exact WD_putA w3 12 14 k0 h14 k14 rfl rfl (by decide) (ok1.2.2 (by omega) (by omega) (by omega))
      have w5 : WD Z I5 := by rw [e5]; exact WD_putA w4 12 15 k0 h15 k15 rfl rfl (by decide) trivial
      have w6 : WD Z I6 := by rw [e6]; exact WD_putA w5 12 16 k0 h16 k16 rfl rfl (by decide) trivial
      have f46 : FR [(12, 14), (12, 15), (12, 16)] Z I3 Z I6 := ((by rw [e4]; exact FR_upA w3.2.1 k0 h14 k14 rfl rfl (by decide) : FR [(12, 14), (12, 15), (12, 16)] Z I3 Z I4).trans w3.1 w3.2.1 (by rw [e5]; exact FR_upA w4.2.1 k0 h15 k15 rfl rfl (by decide) : FR [(12, 14), (12, 15), (12, 16)] Z I4 Z I5)).trans w3.1 w3.2.1 (by rw [e6]; exact FR_upA w5.2.1 k0 h16 k16 rfl rfl (by decide))
      unfold f_X12_again_b167
      intro x14 e14
      refine ih (p + 1) x14 I6 L3 w6 ((f.trans wJ.1 wJ.2.1 (f03.mono (by decide))).trans wJ.1 wJ.2.1 (f46.mono (by decide))) ?_ (nx x14 e14) (by omega)
      rw [f46.2.2.1 v0 12 66 k0 (by decide) (by decide), t3]; omega
    · have c5 := (not_congr (i_lt e1 rfl)).mp c5
      unfold f_X12_again_b167
      intro x14 e14
      refine ih (p + 1) x14 I3 L3 w3 (f.trans wJ.1 wJ.2.1 (f03.mono (by decide))) (by rw [t3]; omega) (nx x14 e14) (by omega)
theorem pge_L83 {Z : jZ} {J : jI} (wJ : WD Z J) (v0 : Nat) (v1 : Int32) (k0 : jk Z v0 12) (u62 : Nat) (h62 : jr Z v0 62 = some u62) (k62 : jk Z u62 14) (u5 : Nat) (h5 : jr Z v0 5 = some u5) (k5 : jk Z u5 14) (u14 u15 u16 u65 : Nat) (h14 : jr Z v0 14 = some u14) (k14 : jk Z u14 14) (h15 : jr Z v0 15 = some u15) (k15 : jk Z u15 14) (h16 : jr Z v0 16 = some u16) (k16 : jk Z u16 14) (h65 : jr Z v0 65 = some u65) (k65 : jk Z u65 14) (i : Nat) (hi : i < 2) (ev : v1.toInt = (i : Int)) {Q : Int32 → jI → jL → Prop}
    (hQ : ∀ (I : jI) (L : jL), WD Z I → FR ((12, 5) :: Wpeg) Z J Z I → (∀ u17, jr Z v0 17 = some u17 → EG2 I J u17 u62 i) → Q (1 : Int32) I L) :
    ∀ (n p : Nat) (v2 : Int32) (I : jI) (L : jL), WD Z I → FR ((12, 5) :: Wpeg) Z J Z I → (I v0 66).toInt = 266 * (i : Int) + ((48 + p : Nat) : Int) → v2.toInt = (p : Int) → p ≤ 192 → (I u14 = J u14 ∧ I u15 = J u15 ∧ I u16 = J u16) → 193 ≤ n + p → f_X12_again_L83 Z Q n v0 v1 v2 I L := by
  have z1 : (1 : Int32).toInt = 1 := rfl
  intro n
  induction n with
  | zero => intro p v2 I L w f t e1 e2 e3 e4; exfalso; omega
  | succ n ih =>
    intro p v2 I L w f t e1 e2 e3 e4
    have y62 : I u62 = J u62 := f.2.2.2 v0 12 62 u62 k0 h62 (by rw [k62.2]; rfl) rfl (by decide)
    unfold f_X12_again_L83
    refine ⟨fun c => ?_, fun c => ?_⟩
    · have c := (i_le (show (192 : Int32).toInt = 192 from rfl) e1).mp c
      have z0 : (0 : Int32).toInt = 0 := rfl
      have y65 : I u65 = J u65 := f.2.2.2 v0 12 65 u65 k0 h65 (by rw [k65.2]; rfl) rfl (by decide)
      refine ⟨7, pge_L108 w v0 v1 k0 u62 h62 k62 u14 u15 u16 u65 h14 k14 h15 k15 h16 k16 h65 k65 i hi ev (fun I' L' w' f' hp => ?_) 7 0 0 I L w FR.rf (by rw [t]; omega) z0 (by omega)⟩
      refine hQ I' L' w' (f.trans wJ.1 wJ.2.1 (f'.mono (by decide))) (fun x hx g hg => by rw [hp x hx g hg, y62])
    have c := (not_congr (i_le (show (192 : Int32).toInt = 192 from rfl) e1)).mp c
    have q := i_nat e1 (by omega)
    have q : v2.toNatClampNeg = p := by omega
    intro b52 e52
    cases h5.symm.trans e52
    refine ag_take w k0 h62 hi (by omega) t (fun I1 L1 w1 f1 t1 _ => ?_)
    refine ⟨vi_of e1 (by omega) (by omega), ?_⟩
    intro I61 e61 x62 e62
    rw [q, y62] at e61
    have w61 : WD Z I61 := by rw [e61]; exact WD_putA w1 12 5 k0 h5 k5 rfl rfl (by decide) trivial
    have f61 : FR ((12, 5) :: Wpeg) Z J Z I61 := (f.trans wJ.1 wJ.2.1 (f1.mono (by decide))).trans wJ.1 wJ.2.1 (by rw [e61]; exact FR_upA w1.2.1 k0 h5 k5 rfl rfl (by decide))
    refine ih (p + 1) x62 I61 L1 w61 f61 ?_ ?_ (by omega) ?_ (by omega)
    · rw [e61, jpI_ne (ks_ne k0 k5 (by decide)), t1]; omega
    · rw [e62]; exact (i_add e1 z1 (by omega) (by omega)).trans (by omega)
    · have n5 : ∀ {j u}, jr Z v0 j = some u → jk Z u 14 → j ≠ 5 → jsr 12 j = false → u ≠ u5 := fun h k hj hs => ds_ne wJ.2.1 k0 h h5 hs rfl hj
      have ar : ∀ {j u}, jr Z v0 j = some u → jk Z u 14 → j ≠ 5 → jsr 12 j = false → (12, j) ∉ [((12 : Nat), (66 : Nat))] → I61 u = I u := fun {j u} h k hj hs hn => by
        rw [e61, jpI_ne (n5 h k hj hs)]
        exact f1.2.2.2 v0 12 j u k0 h (by rw [k.2]; rfl) hs hn
      exact ⟨(ar h14 k14 (by decide) rfl (by decide)).trans e3.1, (ar h15 k15 (by decide) rfl (by decide)).trans e3.2.1, (ar h16 k16 (by decide) rfl (by decide)).trans e3.2.2⟩
theorem pge_L49 {Z : jZ} {J : jI} (wJ : WD Z J) (v0 : Nat) (v1 : Int32) (k0 : jk Z v0 12) (u62 : Nat) (h62 : jr Z v0 62 = some u62) (k62 : jk Z u62 14) (u2 : Nat) (h2 : jr Z v0 2 = some u2) (k2 : jk Z u2 14) (u3 : Nat) (h3 : jr Z v0 3 = some u3) (k3 : jk Z u3 14) (u5 : Nat) (h5 : jr Z v0 5 = some u5) (k5 : jk Z u5 14) (u14 u15 u16 u65 : Nat) (h14 : jr Z v0 14 = some u14) (k14 : jk Z u14 14) (h15 : jr Z v0 15 = some u15) (k15 : jk Z u15 14) (h16 : jr Z v0 16 = some u16) (k16 : jk Z u16 14) (h65 : jr Z v0 65 = some u65) (k65 : jk Z u65 14) (i : Nat) (hi : i < 2) (ev : v1.toInt = (i : Int)) {Q : Int32 → jI → jL → Prop}
    (hQ : ∀ (I : jI) (L : jL), WD Z I → FR ((12, 2) :: (12, 3) :: (12, 5) :: Wpeg) Z J Z I → (∀ u17, jr Z v0 17 = some u17 → EG2 I J u17 u62 i) → Q (1 : Int32) I L) :
    ∀ (n p : Nat) (v2 : Int32) (I : jI) (L : jL), WD Z I → FR ((12, 2) :: (12, 3) :: (12, 5) :: Wpeg) Z J Z I → (I v0 66).toInt = 266 * (i : Int) + ((2 * p : Nat) : Int) → v2.toInt = (p : Int) → p ≤ 24 → (I u14 = J u14 ∧ I u15 = J u15 ∧ I u16 = J u16) → 25 ≤ n + p → f_X12_again_L49 Z Q n v0 v1 v2 I L := by
  have z1 : (1 : Int32).toInt = 1 := rfl
  have z0 : (0 : Int32).toInt = ((0 : Nat) : Int) := rfl
  intro n
  induction n with
  | zero => intro p v2 I L w f t e1 e2 e3 e4; exfalso; omega
  | succ n ih =>
    intro p v2 I L w f t e1 e2 e3 e4
    have y62 : I u62 = J u62 := f.2.2.2 v0 12 62 u62 k0 h62 (by rw [k62.2]; rfl) rfl (by decide)
    unfold f_X12_again_L49
    refine ⟨fun c => ?_, fun c => ?_⟩
    · have c := (i_le (show (24 : Int32).toInt = 24 from rfl) e1).mp c
      have y65 : I u65 = J u65 := f.2.2.2 v0 12 65 u65 k0 h65 (by rw [k65.2]; rfl) rfl (by decide)
      refine ⟨193, pge_L83 w v0 v1 k0 u62 h62 k62 u5 h5 k5 u14 u15 u16 u65 h14 k14 h15 k15 h16 k16 h65 k65 i hi ev (fun I' L' w' f' hp => ?_) 193 0 0 I L w FR.rf (by rw [t]; omega) z0 (by omega) ⟨rfl, rfl, rfl⟩ (by omega)⟩
      refine hQ I' L' w' (f.trans wJ.1 wJ.2.1 (f'.mono (fun p hp => List.mem_cons_of_mem _ (List.mem_cons_of_mem _ hp)))) (fun x hx g hg => by rw [hp x hx g hg, y62])
    have c := (not_congr (i_le (show (24 : Int32).toInt = 24 from rfl) e1)).mp c
    have q := i_nat e1 (by omega)
    have q : v2.toNatClampNeg = p := by omega
    intro b65 e65
    cases h2.symm.trans e65
    refine ag_take w k0 h62 hi (by omega) t (fun I1 L1 w1 f1 t1 ok1 => ?_)
    refine ⟨vi_of e1 (by omega) (by omega), ?_⟩
    intro I74 e74
    rw [q] at e74
    have w74 : WD Z I74 := by rw [e74]; exact WD_putA w1 12 2 k0 h2 k2 rfl rfl (by decide) (ok1.1 (by omega) (by omega))
    have f74 : FR ((12, 2) :: (12, 3) :: (12, 5) :: Wpeg) Z J Z I74 := (f.trans wJ.1 wJ.2.1 (f1.mono (by decide))).trans wJ.1 wJ.2.1 (by rw [e74]; exact FR_upA w1.2.1 k0 h2 k2 rfl rfl (by decide))
    have t74 : (I74 v0 66).toInt = 266 * (i : Int) + ((2 * p + 1 : Nat) : Int) := by rw [e74, jpI_ne (ks_ne k0 k2 (by decide)), t1]
    intro b75 e75
    cases h3.symm.trans e75
    refine ag_take w74 k0 h62 hi (by omega) t74 (fun I2 L2 w2 f2 t2 ok2 => ?_)
    refine ⟨vi_of e1 (by omega) (by omega), ?_⟩
    intro I84 e84 x85 e85
    rw [q] at e84
    have w84 : WD Z I84 := by rw [e84]; exact WD_putA w2 12 3 k0 h3 k3 rfl rfl (by decide) (ok2.2.1 (by omega) (by omega))
    have f84 : FR ((12, 2) :: (12, 3) :: (12, 5) :: Wpeg) Z J Z I84 := (f74.trans wJ.1 wJ.2.1 (f2.mono (by decide))).trans wJ.1 wJ.2.1 (by rw [e84]; exact FR_upA w2.2.1 k0 h3 k3 rfl rfl (by decide))
    refine ih (p + 1) x85 I84 L2 w84 f84 ?_ ?_ (by omega) ?_ (by omega)
    · rw [e84, jpI_ne (ks_ne k0 k3 (by decide)), t2]; omega
    · rw [e85]; exact (i_add e1 z1 (by omega) (by omega)).trans (by omega)
    · have ar : ∀ {j u}, jr Z v0 j = some u → jk Z u 14 → j ≠ 2 → j ≠ 3 → jsr 12 j = false → (12, j) ∉ [((12 : Nat), (66 : Nat))] → I84 u = I u := fun {j u} h k hj hj3 hs hn => by
        rw [e84, jpI_ne (ds_ne wJ.2.1 k0 h h3 hs rfl hj3), f2.2.2.2 v0 12 j u k0 h (by rw [k.2]; rfl) hs hn, e74, jpI_ne (ds_ne wJ.2.1 k0 h h2 hs rfl hj)]
        exact f1.2.2.2 v0 12 j u k0 h (by rw [k.2]; rfl) hs hn
      exact ⟨(ar h14 k14 (by decide) (by decide) rfl (by decide)).trans e3.1, (ar h15 k15 (by decide) (by decide) rfl (by decide)).trans e3.2.1, (ar h16 k16 (by decide) (by decide) rfl (by decide)).trans e3.2.2⟩
/-- what again makes of EARNED -/
def EGM (Z : jZ) (v0 : Nat) (v : Int32) (r : Int) (I I' : jI) : Prop := ∀ u17 u62, jr Z v0 17 = some u17 → jr Z v0 62 = some u62 → (r = 1 → EG2 I' I u17 u62 v.toNatClampNeg) ∧ (¬ r = 1 → I' u17 = I u17)
theorem pe_X12_again {Z : jZ} {I : jI} {L : jL} (w : WD Z I) (v0 : Nat) (v1 : Int32) (k0 : jk Z v0 12) {Q : Int32 → jI → jL → Prop} (hQ : ∀ (r : Int32) (I' : jI) (L' : jL), WD Z I' → FR Ws_X12_again Z I Z I' → EGM Z v0 v1 r.toInt I I' → Q r I' L') : f_X12_again v0 v1 Z I L Q := by
  have z0 : (0 : Int32).toInt = 0 := rfl
  have z0' : (0 : Int32).toInt = ((0 : Nat) : Int) := rfl
  obtain ⟨u62, h62, k62, -⟩ := sh_f w.1 k0 (j := 62) (k := 14) (m := 532) rfl
  obtain ⟨u2, h2, k2, -⟩ := sh_f w.1 k0 (j := 2) (k := 14) (m := 24) rfl
  obtain ⟨u3, h3, k3, -⟩ := sh_f w.1 k0 (j := 3) (k := 14) (m := 24) rfl
  obtain ⟨u5, h5, k5, -⟩ := sh_f w.1 k0 (j := 5) (k := 14) (m := 192) rfl
  obtain ⟨u14, h14, k14, -⟩ := sh_f w.1 k0 (j := 14) (k := 14) (m := 6) rfl
  obtain ⟨u15, h15, k15, -⟩ := sh_f w.1 k0 (j := 15) (k := 14) (m := 6) rfl
  obtain ⟨u16, h16, k16, -⟩ := sh_f w.1 k0 (j := 16) (k := 14) (m := 6) rfl
  obtain ⟨u65, h65, k65, -⟩ := sh_f w.1 k0 (j := 65) (k := 14) (m := 2) rfl
  obtain ⟨u17, h17, k17, -⟩ := sh_f w.1 k0 (j := 17) (k := 14) (m := 8) rfl
  obtain ⟨u63, h63, k63, -⟩ := sh_f w.1 k0 (j := 63) (k := 16) (m := 2) rfl
  obtain ⟨u64, h64, k64, -⟩ := sh_f w.1 k0 (j := 64) (k := 14) (m := 2) rfl
  unfold f_X12_again
  intro I1 e1
  have w1 : WD Z I1 := by rw [e1]; exact WD_putF w 12 22 k0 (by decide) (by decide) trivial
  have f1 : FR [(12, 22)] Z I Z I1 := by rw [e1]; exact FR_putF k0 (by decide) List.mem_cons_self
  have bad : Q (0 : Int32) I1 L := hQ _ I1 L w1 (f1.mono (by decide)) (fun a7 a8 g7 g8 => by
    cases h17.symm.trans g7
    exact ⟨fun q => absurd q (by decide), fun _ => f1.2.2.2 v0 12 17 u17 k0 h17 (by rw [k17.2]; rfl) rfl (by decide)⟩)
  refine s_X12_in w1 v1 0 1 (fun r hr => ⟨fun _ => bad, fun c => ?_⟩)
  have c := (not_congr (i_eq rfl z0)).mp c
  have z1 : (1 : Int32).toInt = 1 := rfl
  rw [z0, z1] at hr
  obtain ⟨i, ei⟩ : ∃ i : Nat, v1.toInt = (i : Int) := ⟨v1.toInt.toNat, by omega⟩
  have qi : v1.toNatClampNeg = i := by have := i_nat ei (by omega); omega
  intro b hb; cases h63.symm.trans hb
  refine ⟨vi_of ei (by omega) (by omega), fun _ => bad, fun _ => ?_⟩
  intro b hb; cases h64.symm.trans hb
  refine ⟨vi_of ei (by omega) (by omega), fun _ => ?_, fun _ => bad⟩
  intro I2 e2
  have w2 : WD Z I2 := by rw [e2]; exact WD_putF w1 12 66 k0 (by decide) (by decide) trivial
  have f2 : FR [(12, 66)] Z I1 Z I2 := by rw [e2]; exact FR_putF k0 (by decide) List.mem_cons_self
  have t2 : (I2 v0 66).toInt = 266 * (i : Int) + ((2 * 0 : Nat) : Int) := by
    rw [e2, jpI_at]
    exact (i_mul (show (266 : Int32).toInt = 266 from rfl) ei (by omega) (by omega)).trans (by omega)
  have f02 : FR [(12, 22), (12, 66)] Z I Z I2 := (f1.mono (by decide)).trans w.1 w.2.1 (f2.mono (by decide))
  refine ⟨25, pge_L49 w2 v0 v1 k0 u62 h62 k62 u2 h2 k2 u3 h3 k3 u5 h5 k5 u14 u15 u16 u65 h14 k14 h15 k15 h16 k16 h65 k65 i (by omega) ei (fun I3 L3 w3 f3 hp => ?_) 25 0 0 I2 L w2 FR.rf t2 z0' (by omega) ⟨rfl, rfl, rfl⟩ (by omega)⟩
  have ar : ∀ {j u}, jr Z v0 j = some u → jk Z u 14 → jsr 12 j = false → (12, j) ∉ [((12 : Nat), (22 : Nat)), (12, 66)] → I2 u = I u := fun {j u} h k hs hn => f02.2.2.2 v0 12 j u k0 h (by rw [k.2]; rfl) hs hn
  refine hQ 1 I3 L3 w3 ((f02.mono (by decide)).trans w.1 w.2.1 (f3.mono (by decide))) (fun a7 a8 g7 g8 => ⟨fun _ g hg => ?_, fun q => absurd rfl q⟩)
  cases h17.symm.trans g7
  cases h62.symm.trans g8
  rw [hp u17 h17 g hg, ar h62 k62 rfl (by decide), qi]
/-! ===== EARNED: tread, rests of the class ===== -/
def TEd (D : DAT) (a wa P : Nat → Int32) (v1 v2 : Int32) (r : Int) (E E' : Nat → Int32) : Prop := (r < 0 ∧ ∀ f, f < 8 → E' f = E f) ∨ (0 ≤ r ∧ MOV D wa v1.toInt.toNat v2 ∧ stp D v2 ∧ -1 ≤ (wa v1.toInt.toNat).toInt ∧ LDs (PRa D a) P (wa v1.toInt.toNat).toInt v2.toInt (dLd D v1.toInt.toNat) (v2.toInt - (wa v1.toInt.toNat).toInt - 1) (v2.toInt - ((wa v1.toInt.toNat).toInt + 1)).toNat ((wa v1.toInt.toNat).toInt + 1) E E')
theorem TEd_no {D : DAT} {a wa P : Nat → Int32} {v1 v2 : Int32} {r : Int} {E E' : Nat → Int32} (h : r < 0) (e : ∀ f, f < 8 → E' f = E f) : TEd D a wa P v1 v2 r E E' := Or.inl ⟨h, e⟩
theorem TEd_eq {D : DAT} {a wa P P' : Nat → Int32} {v1 v2 : Int32} {r r' : Int} {E E' G G' : Nat → Int32} (hP : ∀ s : Nat, s < dN D → wtS P s = wtS P' s) (er : r = r') (hE : ∀ f, f < 8 → E f = G f) (h : TEd D a wa P v1 v2 r E E') (g : TEd D a wa P' v1 v2 r' G G') : ∀ f, f < 8 → E' f = G' f := by
  subst er
  rcases h with ⟨h1, h2⟩ | ⟨h1, hm, hs, hw, h2⟩
  · rcases g with ⟨g1, g2⟩ | ⟨g1, -⟩
    · exact fun f hf => (h2 f hf).trans ((hE f hf).trans (g2 f hf).symm)
    · omega
  · rcases g with ⟨g1, -⟩ | ⟨g1, -, -, -, g2⟩
    · omega
    · unfold MOV at hm
      unfold stp at hs
      exact LDs_eq hP hs _ _ E E' G G' (by omega) (by omega) hE h2 g2
def REe (D : DAT) (wa P : Nat → Int32) (v1 : Int32) (r : Int) (E E' : Nat → Int32) : Prop := ((r < 0 ∨ (wa v1.toInt.toNat).toInt = -1) ∧ ∀ f, f < 8 → E' f = E f) ∨ (0 ≤ r ∧ 0 ≤ (wa v1.toInt.toNat).toInt ∧ (wa v1.toInt.toNat).toInt < (dN D : Int) ∧ LDr E E' 1 r (wtS P (wa v1.toInt.toNat).toInt.toNat))
theorem REe_no {D : DAT} {wa P : Nat → Int32} {v1 : Int32} {r : Int} {E E' : Nat → Int32} (h : r < 0) (e : ∀ f, f < 8 → E' f = E f) : REe D wa P v1 r E E' := Or.inl ⟨Or.inl h, e⟩
theorem REe_eq {D : DAT} {wa P P' : Nat → Int32} {v1 : Int32} {r r' : Int} {E E' G G' : Nat → Int32} (hP : ∀ s : Nat, s < dN D → wtS P s = wtS P' s) (er : r = r') (hE : ∀ f, f < 8 → E f = G f) (h : REe D wa P v1 r E E') (g : REe D wa P' v1 r' G G') : ∀ f, f < 8 → E' f = G' f := by
  subst er
  rcases h with ⟨h1, h2⟩ | ⟨h1, h3, h4, h2⟩
  · rcases g with ⟨g1, g2⟩ | ⟨g1, g3, g4, -⟩
    · exact fun f hf => (h2 f hf).trans ((hE f hf).trans (g2 f hf).symm)
    · omega
  · rcases g with ⟨g1, -⟩ | ⟨g1, -, -, g2⟩
    · omega
    · exact LDr_eq hE (hP _ (by omega)) h2 g2
theorem pyR_rng {D : DAT} {a : Nat → Int32} {p : Nat} {x : Int32} (ok : aOK a) : 0 ≤ pyR D a p x ∧ pyR D a p x ≤ 99 := by
  unfold pyR
  split
  · omega
  · exact PRa_rng ok _ _ _ _ _
set_option maxHeartbeats 4000000 in
theorem re_X11_tread {L : jL} {Z : jZ} {I : jI} {v0 v8 u0 u1 u2 u3 u4 u41 u5 u8 uL0 uC0 uL1 uC1 uP p13 p14 : Nat} {pc rc : Nat → Nat} {D : DAT} {a : Nat → Int32} (X : CWD Z I v0 v8 u0 u1 u2 u3 u4 u41 u5 u8 uL0 uC0 uL1 uC1 uP p13 p14 pc rc D a) (P : (Nat → Int32) × (Nat → Int32) × (Nat → Int32)) (kt : Nat → Int32) (hP : CPL I pc (dP D) P) (hk : CKT I pc D kt) (ha : AOK D P.1) (uP4 x0 uE : Nat) (hc : LDc Z I v0 v8 uP4 x0 uE (dN D)) (v1 v2 : Int32) {Q : Int32 → jI → jL → Prop}
    (hQ : ∀ (r : Int32) (I' : jI) (L' : jL) (P' : (Nat → Int32) × (Nat → Int32) × (Nat → Int32)), TRd D a P v1 v2 r.toInt P' → TEd D a P.1 (I x0) v1 v2 r.toInt (I uE) (I' uE) → CPL I' pc (dP D) P' → WD Z I' → FR Ws_X11_tread Z I Z I' → Q r I' L') : f_X11_tread v0 v1 v2 Z I L Q := by
  have z0 : (0 : Int32).toInt = 0 := rfl
  have w := X.w
  have d := X.dok
  have ok := X.ok
  have n24 := d.1
  have bad : ¬ (inQ D v1 ∧ stp D v2) → Q (-1 : Int32) I L := fun n => hQ _ I L P (Or.inl ⟨n, rfl, rfl⟩) (TEd_no (by decide) (fun _ _ => rfl)) hP w FR.rf
  obtain ⟨E2, E4, EP, E0, Ex, E5, EE, Ea, Eb⟩ := id hc
  unfold f_X11_tread
  refine X.find2 v1 (fun n => ⟨fun _ => bad (fun q => n q.1), fun b hb => by cases hb⟩) (fun p hp e1 => ⟨(fun q => by cases q), fun b hb' => ?_⟩)
  cases hb'
  have ep : v1.toInt.toNat = p := by omega
  have k5 := (X.pil p hp).2.1
  intro b hb; cases X.h2.symm.trans hb
  refine X.has v2 (fun r hr => ⟨fun c => ?_, fun c => bad (fun q => ?_)⟩)
  · have c := (not_congr (i_eq rfl z0)).mp c
    have hs : stp D v2 := by unfold stp; omega
    have hs' := hs
    unfold stp at hs'
    have inq : inQ D v1 := by unfold inQ; omega
    have ra := ha p hp
    obtain ⟨l3, rl, -, -⟩ := d.2.2.2.2 p hp
    obtain ⟨e3p, e4p, -, -, -⟩ := X.piv p hp
    obtain ⟨h5, h6, h7⟩ := hP p hp
    have es : v2.toInt = ((v2.toInt.toNat : Nat) : Int) := by omega
    refine s_comes (pc p) v2 (P.1 p) (dLp D p) h5 (hk p hp).2 (by omega) (by omega) (fun r2 hr2 => ⟨fun c2 => ?_, fun c2 => ?_⟩)
    · have c2 := (not_congr (i_eq rfl z0)).mp c2
      have hm : MOV D P.1 v1.toInt.toNat v2 := by unfold MOV; rw [ep]; omega
      have hm' : (P.1 p).toInt < v2.toInt ∧ v2.toInt - (P.1 p).toInt ≤ (dLp D p : Int) := by omega
      intro b hb; cases X.h2.symm.trans hb
      intro b hb; cases X.S.2.2.2.2.2.1.symm.trans hb
      refine X.mnc v2 v2.toInt.toNat I L _ w FR.rf es (by omega) ?_
      unfold f_X5_vowsAgainst
      rw [e4p]
      refine ⟨fun cv => ⟨fun _ => ?_, fun q => absurd rfl q⟩, fun cv => ⟨fun q => absurd q (by decide), fun _ => ?_⟩⟩
      · have nv : ¬ VOWd D v1.toInt.toNat v2.toInt.toNat := by
          unfold VOWd
          rw [ep]
          exact fun q => q cv
        intro b hb; cases X.h2.symm.trans hb
        rw [h5]
        refine r_X8_effortOfMove_f w v8 u0 u1 X.S.1 X.S.2.1 X.S.2.2.1 (dN D : Int) X.hn (Hn (dR D) (dN D)) (Hn (dS D) (dN D)) (fun s hs => by rw [Hn_at hs, X.iR]) (fun s hs => by rw [Hn_at hs, X.iS]) (Hn_rng (by omega) d.2.2.1) (Hn_rng (by omega) d.2.2.2.1) (P.1 p) v2 (I (pc p) 3) (P.1 p).toInt v2.toInt (dLd D p) rfl rfl e3p (by omega) (by omega) (by omega) (by omega) (by omega) rl (fun e er => ?_)
        have er' : e.toInt = EFT (Hn (dR D) (dN D)) (Hn (dS D) (dN D)) (P.1 v1.toInt.toNat).toInt v2.toInt (dLd D v1.toInt.toNat) := by rw [ep]; exact er
        refine ⟨fun c3 => ?_, fun c3 => ?_⟩
        · rw [h6] at c3
          have c3 := (i_le rfl rfl).mp c3
          intro b hb; cases X.h2.symm.trans hb
          rw [h5]
          refine r_X8_costOfMove_f w w v8 (PRa D a) X.pr (PRa_rng ok) FR.rf (P.1 p) v2 (I (pc p) 3) (P.1 p).toInt v2.toInt (dLd D p) rfl rfl e3p (by omega) (by omega) (by omega) (by omega) (by omega) (fun c I4 L4 w4 f4 ec => ?_)
          have ec' : c.toInt = CST (PRa D a) (P.1 v1.toInt.toNat).toInt v2.toInt (dLd D v1.toInt.toNat) := by rw [ep]; exact ec
          have X4 := X.fr w4 f4 (by decide) (by decide)
          have P4 := CPL_fr f4 (fun p hp => (X.pil p hp).2.1) (by decide) (by decide) (by decide) hP
          have f4' : FR Ws_X11_tread Z I Z I4 := f4.mono (by decide)
          have y4 : I4 uE = I uE := (f4.2.2.2 v0 11 5 uE X.kv E5 (by rw [EE.2]; rfl) rfl (by decide))
          have yx4 : I4 x0 = I x0 := (f4.2.2.2 uP4 4 0 x0 EP E0 (by rw [Ex.2]; rfl) rfl (by decide))
          refine ⟨fun c4 => ?_, fun c4 => ?_⟩
          · rw [(P4 p hp).2.2] at c4
            have c4 := (i_le rfl rfl).mp c4
            refine r_X11_payForMove w4 v0 (pc p) v8 uP4 x0 uE (dN D) X.kv k5 (LDc_fr f4 hc (by decide)) (PRa D a) (fun I' w' f' => (X4.fr w' f' (by decide) (by decide)).pr) (PRa_rng ok) (by omega) v2 v2.toInt (dLd D p) (P.1 p).toInt rfl (by rw [(P4 p hp).1]) (X4.piv p hp).1 ⟨ra.1, hm'.1⟩ hs'.2 (fun I5 L5 w5 f5 hl5 => ?_)
            have X5 := X4.fr w5 f5 (by decide) (by decide)
            have P5 := CPL_fr f5 (fun p hp => (X.pil p hp).2.1) (by decide) (by decide) (by decide) P4
            intro I6 e6 I7 e7 I8 e8
            rw [(P5 p hp).2.1] at e6
            have w6 : WD Z I6 := by rw [e6]; exact WD_putF w5 5 6 k5 (by decide) (by decide) trivial
            have f6 : FR [(5, 6)] Z I5 Z I6 := by rw [e6]; exact FR_putF k5 (by decide) List.mem_cons_self
            have P6 := (CPL_put X5 P5 p hp (P.2.1 p - e)).2.1
            rw [← e6] at P6
            have X6 := X5.fr w6 f6 (by decide) (by decide)
            rw [(P6 p hp).2.2] at e7
            have w7 : WD Z I7 := by rw [e7]; exact WD_putF w6 5 7 k5 (by decide) (by decide) trivial
            have f7 : FR [(5, 7)] Z I6 Z I7 := by rw [e7]; exact FR_putF k5 (by decide) List.mem_cons_self
            have P7 := (CPL_put X6 P6 p hp (P.2.2 p - c)).2.2
            rw [← e7] at P7
            have X7 := X6.fr w7 f7 (by decide) (by decide)
            have w8 : WD Z I8 := by rw [e8]; exact WD_putF w7 5 5 k5 (by decide) (by decide) (by constructor <;> omega)
            have f8 : FR [(5, 5)] Z I7 Z I8 := by rw [e8]; exact FR_putF k5 (by decide) List.mem_cons_self
            have P8 := (CPL_put X7 P7 p hp v2).1
            rw [← e8] at P8
            have ye8 : I8 uE = I5 uE := ((f8.2.2.2 v0 11 5 uE X.kv E5 (by rw [EE.2]; rfl) rfl (by decide)).trans (f7.2.2.2 v0 11 5 uE X.kv E5 (by rw [EE.2]; rfl) rfl (by decide))).trans (f6.2.2.2 v0 11 5 uE X.kv E5 (by rw [EE.2]; rfl) rfl (by decide))
            have rg : 0 ≤ CST (PRa D a) (P.1 p).toInt v2.toInt (dLd D p) ∧ CST (PRa D a) (P.1 p).toInt v2.toInt (dLd D p) ≤ 297 := CST_rng (PRa_rng ok) (by omega)
            have te8 : TEd D a P.1 (I x0) v1 v2 c.toInt (I uE) (I8 uE) := by
              refine Or.inr ⟨by omega, hm, hs, ?_, ?_⟩
              · rw [ep]; exact ra.1
              · rw [ep, ye8, ← yx4, ← y4]; exact hl5
            refine hQ c I8 L5 _ (Or.inr ⟨⟨inq, hs⟩, Or.inr ⟨hm, Or.inr ⟨nv, e, c, er', ec', Or.inr ⟨by rw [ep]; exact c3, Or.inr ⟨by rw [ep]; exact c4, rfl, rfl⟩⟩⟩⟩⟩) te8 ?_ w8 ((((f4'.trans w.1 w.2.1 (f5.mono (by decide))).trans w.1 w.2.1 (f6.mono (by decide))).trans w.1 w.2.1 (f7.mono (by decide))).trans w.1 w.2.1 (f8.mono (by decide)))
            rw [ep]
            exact P8
          · rw [(P4 p hp).2.2] at c4
            have c4 := (not_congr (i_le rfl rfl)).mp c4
            exact hQ _ I4 L4 P (Or.inr ⟨⟨inq, hs⟩, Or.inr ⟨hm, Or.inr ⟨nv, e, c, er', ec', Or.inr ⟨by rw [ep]; exact c3, Or.inl ⟨by rw [ep]; exact c4, rfl, rfl⟩⟩⟩⟩⟩) (TEd_no (by decide) (fun f _ => by rw [y4])) P4 w4 f4'
        · rw [h6] at c3
          have c3 := (not_congr (i_le rfl rfl)).mp c3
          obtain ⟨cc, hcc⟩ : ∃ cc : Int32, cc.toInt = CST (PRa D a) (P.1 v1.toInt.toNat).toInt v2.toInt (dLd D v1.toInt.toNat) := by
            have rg : 0 ≤ CST (PRa D a) (P.1 p).toInt v2.toInt (dLd D p) ∧ CST (PRa D a) (P.1 p).toInt v2.toInt (dLd D p) ≤ 297 := CST_rng (PRa_rng ok) (by omega)
            refine ⟨nI (CST (PRa D a) (P.1 p).toInt v2.toInt (dLd D p)).toNat, ?_⟩
            rw [ep]
            have t := i_nI (n := (CST (PRa D a) (P.1 p).toInt v2.toInt (dLd D p)).toNat) (by omega)
            omega
          exact hQ _ I L P (Or.inr ⟨⟨inq, hs⟩, Or.inr ⟨hm, Or.inr ⟨nv, e, cc, er', hcc, Or.inl ⟨by rw [ep]; exact c3, rfl, rfl⟩⟩⟩⟩) (TEd_no (by decide) (fun _ _ => rfl)) hP w FR.rf
      · have yv : VOWd D v1.toInt.toNat v2.toInt.toNat := by
          unfold VOWd
          rw [ep]
          exact cv
        exact hQ _ I L P (Or.inr ⟨⟨inq, hs⟩, Or.inr ⟨hm, Or.inl ⟨yv, rfl, rfl⟩⟩⟩) (TEd_no (by decide) (fun _ _ => rfl)) hP w FR.rf
    · have c2 := (i_eq rfl z0).mp c2
      refine hQ _ I L P (Or.inr ⟨⟨inq, hs⟩, Or.inl ⟨?_, rfl, rfl⟩⟩) (TEd_no (by decide) (fun _ _ => rfl)) hP w FR.rf
      unfold MOV
      rw [ep]
      omega
  · have c := (i_eq rfl z0).mp c
    have := q.2
    unfold stp at this
    omega
set_option maxHeartbeats 4000000 in
theorem re_X11_rests {L : jL} {Z : jZ} {I : jI} {v0 v8 u0 u1 u2 u3 u4 u41 u5 u8 uL0 uC0 uL1 uC1 uP p13 p14 : Nat} {pc rc : Nat → Nat} {D : DAT} {a : Nat → Int32} (X : CWD Z I v0 v8 u0 u1 u2 u3 u4 u41 u5 u8 uL0 uC0 uL1 uC1 uP p13 p14 pc rc D a) (P : (Nat → Int32) × (Nat → Int32) × (Nat → Int32)) (kt : Nat → Int32) (hP : CPL I pc (dP D) P) (hk : CKT I pc D kt) (ha : AOK D P.1) (uP4 x0 uE : Nat) (hc : LDc Z I v0 v8 uP4 x0 uE (dN D)) (v1 v2 : Int32) {Q : Int32 → jI → jL → Prop}
    (hQ : ∀ (r : Int32) (I' : jI) (L' : jL) (P' : (Nat → Int32) × (Nat → Int32) × (Nat → Int32)), RSQd D a kt P v1 v2 r.toInt P' → REe D P.1 (I x0) v1 r.toInt (I uE) (I' uE) → CPL I' pc (dP D) P' → WD Z I' → FR Ws_X11_rests Z I Z I' → Q r I' L') : f_X11_rests v0 v1 v2 Z I L Q := by
  have z0 : (0 : Int32).toInt = 0 := rfl
  have z1 : (1 : Int32).toInt = 1 := rfl
  have z30 : (30 : Int32).toInt = 30 := rfl
  have w := X.w
  have d := X.dok
  have ok := X.ok
  have n24 := d.1
  have bad : ¬ (inQ D v1 ∧ 1 ≤ v2.toInt ∧ v2.toInt ≤ 30) → Q (-1 : Int32) I L := fun n => hQ _ I L P (Or.inl ⟨n, rfl, rfl⟩) (REe_no (by decide) (fun _ _ => rfl)) hP w FR.rf
  obtain ⟨E2, E4, EP, E0, Ex, E5, EE, Ea, Eb⟩ := id hc
  unfold f_X11_rests
  refine X.find2 v1 (fun n => ⟨fun _ => bad (fun q => n q.1), fun b hb => by cases hb⟩) (fun p hp e1 => ⟨(fun q => by cases q), fun b hb' => ?_⟩)
  cases hb'
  have ep : v1.toInt.toNat = p := by omega
  have k5 := (X.pil p hp).2.1
  have inq : inQ D v1 := by unfold inQ; omega
  refine ⟨fun c => bad (fun q => ?_), fun c => ⟨fun c1 => ?_, fun c1 => bad (fun q => ?_)⟩⟩
  · have c := (i_lt rfl z1).mp c
    omega
  · have c := (not_congr (i_lt rfl z1)).mp c
    have c1 := (i_le rfl z30).mp c1
    have hin : inQ D v1 ∧ 1 ≤ v2.toInt ∧ v2.toInt ≤ 30 := ⟨inq, by omega, c1⟩
    have ra := ha p hp
    obtain ⟨l3, rl, -, -⟩ := d.2.2.2.2 p hp
    obtain ⟨e3p, e4p, -, -, -⟩ := X.piv p hp
    obtain ⟨h5, h6, h7⟩ := hP p hp
    intro b hb; cases X.h2.symm.trans hb
    rw [h5]
    -- behind the price
    have go : ∀ (c : Int32) (I3 : jI) (L3 : jL), WD Z I3 → FR Ws_X8_priceOf Z I Z I3 → c.toInt = pyR D a v1.toInt.toNat (P.1 v1.toInt.toNat) → ((c ≤ (I3 (pc p) 7) → (∀ b23 : Nat, jr Z v0 2 = some b23 → (f_X8_has b23 (I3 (pc p) 5) Z I3 L3 (fun r30 I26 L27 => ((r30 = 0 → f_X11_rests_b83 Z Q v2 (pc p) c I26 L27) ∧ (¬ (r30 = 0) → (f_X11_lead v0 c (I26 (pc p) 5) (1 : Int32) Z I26 L27 (fun I34 L35 => f_X11_rests_b83 Z Q v2 (pc p) c I34 L35)))))))) ∧ (¬ (c ≤ (I3 (pc p) 7)) → Q (-5 : Int32) I3 L3)) := fun c I3 L3 w3 f3 ec => by
      have X3 := X.fr w3 f3 (by decide) (by decide)
      have P3 := CPL_fr f3 (fun p hp => (X.pil p hp).2.1) (by decide) (by decide) (by decide) hP
      have f3' : FR Ws_X11_rests Z I Z I3 := f3.mono (by decide)
      have y3 : I3 uE = I uE := (f3.2.2.2 v0 11 5 uE X.kv E5 (by rw [EE.2]; rfl) rfl (by decide))
      have yx3 : I3 x0 = I x0 := (f3.2.2.2 uP4 4 0 x0 EP E0 (by rw [Ex.2]; rfl) rfl (by decide))
      have fin : ∀ (I4 : jI) (L4 : jL), WD Z I4 → FR Ws_X11_rests Z I Z I4 → CPL I4 pc (dP D) P → I4 (pc p) 0 = kt p → CWD Z I4 v0 v8 u0 u1 u2 u3 u4 u41 u5 u8 uL0 uC0 uL1 uC1 uP p13 p14 pc rc D a → c.toInt ≤ (P.2.2 p).toInt → REe D P.1 (I x0) v1 c.toInt (I uE) (I4 uE) → f_X11_rests_b83 Z Q v2 (pc p) c I4 L4 := fun I4 L4 w4 f4 P4 h0 X4 cl te => by
        unfold f_X11_rests_b83
        intro I5 e5 I6 e6
        rw [(P4 p hp).2.2] at e5
        have w5 : WD Z I5 := by rw [e5]; exact WD_putF w4 5 7 k5 (by decide) (by decide) trivial
        have f5 : FR [(5, 7)] Z I4 Z I5 := by rw [e5]; exact FR_putF k5 (by decide) List.mem_cons_self
        have P5 := (CPL_put X4 P4 p hp (P.2.2 p - c)).2.2
        rw [← e5] at P5
        have h05 : I5 (pc p) 0 = kt p := by rw [e5, jpI_o (by decide)]; exact h0
        rw [(P5 p hp).2.1, h05] at e6
        have w6 : WD Z I6 := by rw [e6]; exact WD_putF w5 5 6 k5 (by decide) (by decide) trivial
        have f6 : FR [(5, 6)] Z I5 Z I6 := by rw [e6]; exact FR_putF k5 (by decide) List.mem_cons_self
        have P6 := (CPL_put (X4.fr w5 f5 (by decide) (by decide)) P5 p hp (if (P.2.1 p + v2) < kt p then (P.2.1 p + v2) else kt p)).2.1
        rw [← e6] at P6
        have ye6 : I6 uE = I4 uE := (f6.2.2.2 v0 11 5 uE X.kv E5 (by rw [EE.2]; rfl) rfl (by decide)).trans (f5.2.2.2 v0 11 5 uE X.kv E5 (by rw [EE.2]; rfl) rfl (by decide))
        refine hQ c I6 L4 _ (Or.inr ⟨hin, c, ec, Or.inr ⟨by rw [ep]; exact cl, rfl, rfl⟩⟩) (by rw [ye6]; exact te) ?_ w6 ((f4.trans w.1 w.2.1 (f5.mono (by decide))).trans w.1 w.2.1 (f6.mono (by decide)))
        rw [ep]
        exact P6
      have h03 : I3 (pc p) 0 = kt p := by rw [f3.2.2.1 (pc p) 5 0 k5 (by decide) (by decide)]; exact (hk p hp).1
      refine ⟨fun cl => ?_, fun cl => ?_⟩
      · rw [(P3 p hp).2.2] at cl
        have cl := (i_le rfl rfl).mp cl
        intro b hb; cases X3.h2.symm.trans hb
        refine X3.has _ (fun r2 hr2 => ⟨fun ce => fin I3 L3 w3 f3' P3 h03 X3 cl (Or.inl ⟨Or.inr (by have ce := (i_eq rfl z0).mp ce; rw [(P3 p hp).1] at hr2; rw [ep]; omega), fun f _ => by rw [y3]⟩), fun ce => ?_⟩)
        have ce := (not_congr (i_eq rfl z0)).mp ce
        rw [(P3 p hp).1] at hr2
        rw [(P3 p hp).1]
        have rg := pyR_rng (D := D) (p := v1.toInt.toNat) (x := P.1 v1.toInt.toNat) ok
        have hc3 := LDc_fr f3 hc (by decide)
        refine r_X11_lead w3 v0 X.kv v8 uP4 x0 uE E2 E4 EP E0 Ex E5 c (P.1 p) 1 c.toInt rfl (by omega) (P.1 p).toInt.toNat (by omega) (by omega) (fun i hi => hc3.2.2.2.2.2.2.2.1 _ i (by omega) hi) (hc3.2.2.2.2.2.2.2.2 _ (by omega)) (fun I4 L4 w4 f4 hl => ?_)
        rw [yx3, y3] at hl
        exact fin I4 L4 w4 (f3'.trans w.1 w.2.1 (f4.mono (by decide))) (CPL_fr f4 (fun p hp => (X.pil p hp).2.1) (by decide) (by decide) (by decide) P3) (by rw [f4.2.2.1 (pc p) 5 0 k5 (by decide) (by decide)]; exact h03) (X3.fr w4 f4 (by decide) (by decide)) cl (Or.inr ⟨by omega, by rw [ep]; omega, by rw [ep]; omega, by rw [ep]; exact hl⟩)
      · rw [(P3 p hp).2.2] at cl
        have cl := (not_congr (i_le rfl rfl)).mp cl
        exact hQ _ I3 L3 P (Or.inr ⟨hin, c, ec, Or.inl ⟨by rw [ep]; exact cl, rfl, rfl⟩⟩) (REe_no (by decide) (fun f _ => by rw [y3])) P3 w3 f3'
    by_cases g : (P.1 p).toInt = -1
    · refine r_price0 X (P.1 p) (P.1 p) 0 _ g ?_
      refine go 0 I L w FR.rf ?_
      unfold pyR
      rw [ep, if_pos g]
      rfl
    · refine X.pr 0 (P.1 p) (P.1 p) 0 _ I L _ w FR.rf (by decide) (by omega) (by omega) (fun c I3 L3 w3 f3 ec => go c I3 L3 w3 f3 ?_)
      unfold pyR
      rw [ep, if_neg g, ec, e3p]
      rfl
  · have c1 := (not_congr (i_le rfl z30)).mp c1
    omega
/-! ===== EARNED: tread, rests of the reference ===== -/
set_option maxHeartbeats 4000000 in
theorem te_L121 {B : Nat × Nat} {T : Nat} {Z0 : jZ} {I0 : jI} (w0 : WD Z0 I0) {v0 t1 t2 t3 t4 t5 t6 t9 t10 t11 t12 t13 t29 t30 uX0 uX1 : Nat} {s0 s1 : Int} {D : DAT} {a : Nat → Int32} (d : DOK D) (t14 t15 t16 : Nat) (P : (Nat → Int32) × (Nat → Int32) × (Nat → Int32)) (p : Nat) (hp : p < dP D) (v1 v2 v3 v4 v5 v6 : Int32) (e1 : v1.toInt = (p : Int)) (ok : aOK a) (uE : Nat) (P5 E9 : Nat → Int32) (hw5 : ∀ z, z < 8 * dN D → 0 ≤ (P5 z).toInt ∧ (P5 z).toInt ≤ 720) (hs5 : ∀ s, s < dN D → shS (wtS P5 s) 8 = 720) (r3 : -1 ≤ v3.toInt ∧ v3.toInt < v2.toInt) (h2 : v2.toInt < (dN D : Int)) {Q : Int32 → jZ → jI → jL → Prop}
    (hQ : ∀ (Z' : jZ) (I' : jI) (L' : jL), RPL I' t14 t15 t16 (dP D) (updF P.1 p v2, updF P.2.1 p (P.2.1 p - v4), updF P.2.2 p (P.2.2 p - v5)) → LDs (PRa D a) P5 v3.toInt v2.toInt (dLd D p) v6.toInt (v2.toInt - (v3.toInt + 1)).toNat (v3.toInt + 1) E9 (I' uE) → WD Z' I' → BUD B Z' T → FR Ws_X12_tread Z0 I0 Z' I' → CP Z0 Z' → Q v5 Z' I' L') :
    ∀ (k s : Nat) (v7 : Int32) (Z : jZ) (I : jI) (L : jL), v2.toInt + 2 ≤ (k : Int) + (s : Int) → (s : Int) ≤ v2.toInt + 1 → v7.toInt = (s : Int) → v3.toInt < (s : Int) → RFM Z I v0 t1 t2 t3 t4 t5 t6 t9 t10 t11 t12 t13 t29 t30 uX0 uX1 s0 s1 D a → RPr Z v0 t14 t15 t16 → RPL I t14 t15 t16 (dP D) P → BUD B Z T → FR Ws_X12_tread Z0 I0 Z I → CP Z0 Z → jr Z v0 17 = some uE → jk Z uE 14 → I t5 = P5 → (s ≤ v2.toInt.toNat → ∀ E, LDs (PRa D a) P5 v3.toInt v2.toInt (dLd D p) v6.toInt (v2.toInt - (s : Int)).toNat (s : Int) (I uE) E → LDs (PRa D a) P5 v3.toInt v2.toInt (dLd D p) v6.toInt (v2.toInt - (v3.toInt + 1)).toNat (v3.toInt + 1) E9 E) ∧ ((s : Int) = v2.toInt + 1 → LDs (PRa D a) P5 v3.toInt v2.toInt (dLd D p) v6.toInt (v2.toInt - (v3.toInt + 1)).toNat (v3.toInt + 1) E9 (I uE)) → f_X12_tread_L121 B Q k v0 v1 v2 v3 v4 v5 v6 v7 Z I L := by
  have z1 : (1 : Int32).toInt = 1 := rfl
  have n24 := d.1
  have p6 := d.2.1
  have n1 : v1.toNatClampNeg = p := by have := i_nat e1 (by omega); omega
  have vi : vp_in v1 6 := vi_of e1 (by omega) (by omega)
  intro k
  induction k with
  | zero => intro s v7 Z I L hk hi; omega
  | succ k ih =>
    intro s v7 Z I L hk hi e7 h3 X hr hP bd f0 cp0 h17 k17 e5P hL
    have w := X.w
    have kv := X.S.1
    obtain ⟨x, ex, kt5, -⟩ := sh_f w.1 kv (j := 5) (k := 14) (m := 192) rfl
    cases X.h5.symm.trans ex
    unfold f_X12_tread_L121
    refine ⟨fun c => ?_, fun c => ?_⟩
    · have c := (i_lt rfl e7).mp c
      have n14 : uE ≠ t14 := ds_ne w.2.1 kv h17 hr.1 rfl rfl (by decide)
      have n15 : uE ≠ t15 := ds_ne w.2.1 kv h17 hr.2.2.1 rfl rfl (by decide)
      have n16 : uE ≠ t16 := ds_ne w.2.1 kv h17 hr.2.2.2.2.1 rfl rfl (by decide)
      have hl := hL.2 (by omega)
      intro b hb; cases hr.2.2.1.symm.trans hb
      refine ⟨vi, vi, fun I3 e3 => ?_⟩
      rw [n1, (hP p hp).2.1] at e3
      have w3 : WD Z I3 := by rw [e3]; exact WD_putA w 12 15 kv hr.2.2.1 hr.2.2.2.1 rfl rfl (by decide) trivial
      have f3 : FR Ws_X12_tread Z I Z I3 := by rw [e3]; exact FR_upA w.2.1 kv hr.2.2.1 hr.2.2.2.1 rfl rfl (by decide)
      have P3 := (RPL_put w kv hr hP p (P.2.1 p - v4)).2.1
      rw [← e3] at P3
      intro b hb; cases hr.2.2.2.2.1.symm.trans hb
      refine ⟨vi, vi, fun I4 e4 => ?_⟩
      rw [n1, (P3 p hp).2.2] at e4
      have w4 : WD Z I4 := by rw [e4]; exact WD_putA w3 12 16 kv hr.2.2.2.2.1 hr.2.2.2.2.2 rfl rfl (by decide) trivial
      have f4 : FR Ws_X12_tread Z I3 Z I4 := by rw [e4]; exact FR_upA w3.2.1 kv hr.2.2.2.2.1 hr.2.2.2.2.2 rfl rfl (by decide)
      have P4 := (RPL_put w3 kv hr P3 p (P.2.2 p - v5)).2.2
      rw [← e4] at P4
      intro b hb; cases hr.1.symm.trans hb
      refine ⟨vi, fun I5 e5 => ?_⟩
      rw [n1] at e5
      have w5 : WD Z I5 := by rw [e5]; exact WD_putA w4 12 14 kv hr.1 hr.2.1 rfl rfl (by decide) (by constructor <;> omega)
      have f5 : FR Ws_X12_tread Z I4 Z I5 := by rw [e5]; exact FR_upA w4.2.1 kv hr.1 hr.2.1 rfl rfl (by decide)
      have P5' := (RPL_put w4 kv hr P4 p v2).1
      rw [← e5] at P5'
      exact hQ Z I5 L P5' (by rw [e5, jpI_ne n14, e4, jpI_ne n16, e3, jpI_ne n15]; exact hl) w5 bd (((f0.trans w0.1 w0.2.1 f3).trans w0.1 w0.2.1 f4).trans w0.1 w0.2.1 f5) cp0
    · have c := (not_congr (i_lt rfl e7)).mp c
      have go : ∀ s3 : Int32, ((s3.toInt = 1 ∧ ¬ v7 = v2) ∨ (s3.toInt = 0 ∧ v7 = v2)) → f_X12_tread_b142 B (f_X12_tread_L121 B Q k) Q v0 v1 v2 v3 v4 v5 v6 v7 v0 v7 v0 s3 Z I L := fun s3 hs3 => by
        unfold f_X12_tread_b142
        intro b hb; cases X.h12.symm.trans hb
        refine ⟨vi, ?_⟩
        rw [n1]
        refine X.prm (B := B) (T := T) s3 v7 v3 (I t12 p) v6 Z I L _ w bd FR.rf (by omega) (by omega) (by omega) (fun r Z4 I4 L4 w4 bd4 f4 cp4 er => ?_)
        rw [e7, (X.pil p hp).2.2.2.1] at er
        have rg := PRa_rng (D := D) ok s3.toInt (s : Int) v3.toInt v6.toInt (dLd D p)
        have y4 : I4 uE = I uE := (f4.2.2.2 v0 12 17 uE kv h17 (by rw [k17.2]; rfl) rfl (by decide))
        have y5 : I4 t5 = P5 := (f4.2.2.2 v0 12 5 t5 kv X.h5 (by rw [kt5.2]; rfl) rfl (by decide)).trans e5P
        have h174 : jr Z4 v0 17 = some uE := (f4.2.1 v0 12 17 kv (by decide) (by decide)).trans h17
        have k174 := (f4.1 _ _ k17).1
        have kt54 := (f4.1 _ _ kt5).1
        have X4 := X.fr w4 f4 (by decide) (by decide)
        have kv4 := X4.S.1
        refine r_X12_earn w4 v0 kv4 t5 uE X4.h5 h174 (dN D) X4.hn n24 v7 r 1 r.toInt rfl (by omega) s e7 (by omega) (fun z hz => by rw [y5]; exact hw5 z hz) (by rw [y5]; exact hs5 s (by omega)) (fun I5 L5 w5 f5 hl => ?_)
        rw [y4, y5, er] at hl
        have y55 : I5 t5 = P5 := (f5.2.2.2 v0 12 5 t5 kv4 X4.h5 (by rw [kt54.2]; rfl) rfl (by decide)).trans y5
        intro x ex
        exact ih (s + 1) x Z4 I5 L5 (by omega) (by omega) (by rw [ex]; exact (i_add e7 z1 (by omega) (by omega)).trans (by omega)) (by omega) (X4.fr w5 f5 (by decide) (by decide)) (RPr_x f5 kv4 (RPr_x f4 kv hr)) (RPL_fr f5 kv4 (RPr_x f4 kv hr) (by decide) (by decide) (by decide) (RPL_fr f4 kv hr (by decide) (by decide) (by decide) hP)) bd4 ((f0.trans w0.1 w0.2.1 (f4.mono (by decide))).trans w0.1 w0.2.1 (f5.mono (by decide))) (CP.trans f0.1 cp0 cp4) h174 k174 y55 (by
          rcases hs3 with ⟨h9, c9⟩ | ⟨h9, c9⟩
          · have c9 := (not_congr (i_eq e7 rfl)).mp c9
            rw [h9] at hl
            refine ⟨fun _ E hE => hL.1 (by omega) E ?_, fun q => by omega⟩
            rw [show (v2.toInt - (s : Int)).toNat = (v2.toInt - ((s + 1 : Nat) : Int)).toNat + 1 by omega]
            exact ⟨I5 uE, hl, hE⟩
          · have c9 := (i_eq e7 rfl).mp c9
            rw [h9] at hl
            refine ⟨fun q => by omega, fun _ => hL.1 (by omega) (I5 uE) ?_⟩
            rw [show (v2.toInt - (s : Int)).toNat = 0 by omega]
            show LDr (I uE) (I5 uE) 1 (PRa D a 0 v2.toInt v3.toInt v6.toInt (dLd D p)) (wtS P5 v2.toInt.toNat)
            rw [← c9, Int.toNat_natCast]
            exact hl)
      exact ⟨fun cc => go 1 (Or.inl ⟨rfl, cc⟩), fun cc => go 0 (Or.inr ⟨rfl, cc⟩)⟩
set_option maxHeartbeats 4000000 in
theorem re_X12_tread {B : Nat × Nat} {T : Nat} {L : jL} {Z : jZ} {I : jI} {v0 t1 t2 t3 t4 t5 t6 t9 t10 t11 t12 t13 t29 t30 uX0 uX1 : Nat} {s0 s1 : Int} {D : DAT} {a : Nat → Int32} (X : RFM Z I v0 t1 t2 t3 t4 t5 t6 t9 t10 t11 t12 t13 t29 t30 uX0 uX1 s0 s1 D a) (ok : aOK a) (bd : BUD B Z T) (P : (Nat → Int32) × (Nat → Int32) × (Nat → Int32)) (t14 t15 t16 : Nat) (hr : RPr Z v0 t14 t15 t16) (hP : RPL I t14 t15 t16 (dP D) P) (ha : AOK D P.1) (uE : Nat) (h17 : jr Z v0 17 = some uE) (hw5 : ∀ z, z < 8 * dN D → 0 ≤ (I t5 z).toInt ∧ (I t5 z).toInt ≤ 720) (hs5 : ∀ s, s < dN D → shS (wtS (I t5) s) 8 = 720) (v1 v2 : Int32) {Q : Int32 → jZ → jI → jL → Prop}
    (hQ : ∀ (r : Int32) (Z' : jZ) (I' : jI) (L' : jL) (P' : (Nat → Int32) × (Nat → Int32) × (Nat → Int32)), TRd D a P v1 v2 r.toInt P' → TEd D a P.1 (I t5) v1 v2 r.toInt (I uE) (I' uE) → RPL I' t14 t15 t16 (dP D) P' → WD Z' I' → BUD B Z' T → FR Ws_X12_tread Z I Z' I' → CP Z Z' → Q r Z' I' L') : f_X12_tread B v0 v1 v2 Z I L Q := by
  have z0 : (0 : Int32).toInt = 0 := rfl
  have z1 : (1 : Int32).toInt = 1 := rfl
  have w := X.w
  have kv := X.S.1
  have d := X.dok
  have p6 := d.2.1
  have n24 := d.1
  obtain ⟨x, ex, kt5, -⟩ := sh_f w.1 kv (j := 5) (k := 14) (m := 192) rfl
  cases X.h5.symm.trans ex
  obtain ⟨x, ex, k17, -⟩ := sh_f w.1 kv (j := 17) (k := 14) (m := 8) rfl
  cases h17.symm.trans ex
  unfold f_X12_tread
  intro I1 e1
  have w1 : WD Z I1 := by rw [e1]; exact WD_putF w 12 22 kv (by decide) (by decide) trivial
  have f1 : FR [(12, 22)] Z I Z I1 := by rw [e1]; exact FR_putF kv (by decide) List.mem_cons_self
  have X1 := X.fr w1 f1 (by decide) (by decide)
  have P1 := RPL_fr f1 kv hr (by decide) (by decide) (by decide) hP
  have f1' : FR Ws_X12_tread Z I Z I1 := f1.mono (by decide)
  have y1 : I1 uE = I uE := (f1.2.2.2 v0 12 17 uE kv h17 (by rw [k17.2]; rfl) rfl (by decide))
  have y51 : I1 t5 = I t5 := (f1.2.2.2 v0 12 5 t5 kv X.h5 (by rw [kt5.2]; rfl) rfl (by decide))
  have hp8 := X1.hp
  have hn0 := X1.hn
  have bad : ¬ (inQ D v1 ∧ stp D v2) → Q (-1 : Int32) Z I1 L := fun n => hQ _ Z I1 L P (Or.inl ⟨n, rfl, rfl⟩) (TEd_no (by decide) (fun f _ => by rw [y1])) P1 w1 bd f1' CP.rf
  refine s_X12_isOne w1 v0 v1 kv (fun r hr1 => ⟨fun c => bad (fun q => ?_), fun c => ?_⟩)
  · have c := (i_eq rfl z0).mp c
    have := q.1
    unfold inQ at this
    omega
  have c := (not_congr (i_eq rfl z0)).mp c
  obtain ⟨p, ev⟩ : ∃ p : Nat, v1.toInt = (p : Int) := ⟨v1.toInt.toNat, by omega⟩
  have hp : p < dP D := by omega
  have ep : v1.toInt.toNat = p := by omega
  have n1 : v1.toNatClampNeg = p := by have := i_nat ev (by omega); omega
  have inq : inQ D v1 := by unfold inQ; omega
  have vi : vp_in v1 6 := vi_of ev (by omega) (by omega)
  have ra := ha p hp
  obtain ⟨l3, rl, -, -⟩ := d.2.2.2.2 p hp
  refine s_X12_isStep w1 v0 v2 kv (fun r2 hr2 => ⟨fun c2 => ?_, fun c2 => bad (fun q => ?_)⟩)
  · have c2 := (not_congr (i_eq rfl z0)).mp c2
    have hs : stp D v2 := by unfold stp; omega
    have hs' := hs
    unfold stp at hs'
    have es : v2.toInt = ((v2.toInt.toNat : Nat) : Int) := by omega
    intro b hb; cases hr.1.symm.trans hb
    refine ⟨vi, fun x51 e51 => ?_⟩
    rw [n1, (P1 p hp).1] at e51
    subst e51
    refine s_isMove2 X1 v1 (P.1 p) v2 p hp ev (by omega) (by omega) (fun r3 hr3 => ⟨fun c3 => ?_, fun c3 => ?_⟩)
    · have c3 := (not_congr (i_eq rfl z0)).mp c3
      have hm : MOV D P.1 v1.toInt.toNat v2 := by unfold MOV; rw [ep]; omega
      have hm' : (P.1 p).toInt < v2.toInt ∧ v2.toInt - (P.1 p).toInt ≤ (dLp D p : Int) := by omega
      refine r_effort X1 ok p hp v1 (P.1 p) v2 ev (by omega) (by omega) (by omega) (by omega) (fun e er => ?_) bd
      have er' : e.toInt = EFT (Hn (dR D) (dN D)) (Hn (dS D) (dN D)) (P.1 v1.toInt.toNat).toInt v2.toInt (dLd D v1.toInt.toNat) := by rw [ep]; exact er
      refine r_cost X1 ok bd p hp v1 (P.1 p) v2 ev (by omega) (by omega) (by omega) (by omega) (fun c Z4 I4 L4 w4 bd4 f4 cp4 ec => ?_)
      have ec' : c.toInt = CST (PRa D a) (P.1 v1.toInt.toNat).toInt v2.toInt (dLd D v1.toInt.toNat) := by rw [ep]; exact ec
      have X4 := X1.fr w4 f4 (by decide) (by decide)
      have kv4 := X4.S.1
      have y4 : I4 uE = I uE := (f4.2.2.2 v0 12 17 uE kv h17 (by rw [k17.2]; rfl) rfl (by decide)).trans y1
      have y54 : I4 t5 = I t5 := (f4.2.2.2 v0 12 5 t5 kv X.h5 (by rw [kt5.2]; rfl) rfl (by decide)).trans y51
      have h174 : jr Z4 v0 17 = some uE := (f4.2.1 v0 12 17 kv (by decide) (by decide)).trans h17
      have k174 := (f4.1 _ _ k17).1
      have hr4 := RPr_x f4 kv hr
      have P4 := RPL_fr f4 kv hr (by decide) (by decide) (by decide) P1
      have f04 : FR Ws_X12_tread Z I Z4 I4 := f1'.trans w.1 w.2.1 (f4.mono (by decide))
      intro b hb; cases X4.h13.symm.trans hb
      refine ⟨vi, ?_⟩
      refine X4.mnm v2 v2.toInt.toNat Z4 I4 L4 _ w4 FR.rf es (by omega) ?_
      rw [n1, (X4.pil p hp).2.2.2.2]
      unfold f_X12_has
      refine ⟨fun cv => ⟨fun _ => ?_, fun q => absurd rfl q⟩, fun cv => ⟨fun q => absurd q (by decide), fun _ => ?_⟩⟩
      · have nv : ¬ VOWd D v1.toInt.toNat v2.toInt.toNat := by
          unfold VOWd
          rw [ep]
          exact fun q => cv (i_has.mpr q)
        intro b hb; cases hr4.2.2.1.symm.trans hb
        rw [(P4 p hp).2.1]
        refine ⟨vi, fun c5 => ?_, fun c5 => ?_⟩
        · have c5 := (i_le rfl rfl).mp c5
          intro b hb; cases hr4.2.2.2.2.1.symm.trans hb
          rw [(P4 p hp).2.2]
          refine ⟨vi, fun c6 => ?_, fun c6 => ?_⟩
          · have c6 := (i_le rfl rfl).mp c6
            intro x98 e98 x99 e99
            have t99 : x99.toInt = (((P.1 p).toInt + 1).toNat : Int) := by rw [e99]; exact (i_add rfl z1 (by omega) (by omega)).trans (by omega)
            have t98 : x98.toInt = v2.toInt - (P.1 p).toInt - 1 := by rw [e98]; exact i_sub (i_sub rfl rfl (by omega) (by omega)) z1 (by omega) (by omega)
            have rg : 0 ≤ CST (PRa D a) (P.1 p).toInt v2.toInt (dLd D p) ∧ CST (PRa D a) (P.1 p).toInt v2.toInt (dLd D p) ≤ 297 := CST_rng (PRa_rng ok) (by omega)
            refine ⟨26, te_L121 w d t14 t15 t16 P p hp v1 v2 (P.1 p) e c x98 ev ok uE (I t5) (I uE) hw5 hs5 (by omega) (by omega) (fun Z' I' L' P' hl w' bd' f' cp' => ?_) 26 ((P.1 p).toInt + 1).toNat x99 Z4 I4 L4 (by omega) (by omega) t99 (by omega) X4 hr4 P4 bd4 f04 cp4 h174 k174 y54 ⟨fun _ E hE => ?_, fun q => by omega⟩⟩
            · rw [t98] at hl
              have te8 : TEd D a P.1 (I t5) v1 v2 c.toInt (I uE) (I' uE) := by
                refine Or.inr ⟨by omega, hm, hs, ?_, ?_⟩
                · rw [ep]; exact ra.1
                · rw [ep]; exact hl
              refine hQ c Z' I' L' _ (Or.inr ⟨⟨inq, hs⟩, Or.inr ⟨hm, Or.inr ⟨nv, e, c, er', ec', Or.inr ⟨by rw [ep]; exact c5, Or.inr ⟨by rw [ep]; exact c6, rfl, rfl⟩⟩⟩⟩⟩) te8 ?_ w' bd' f' cp'
              rw [ep]
              exact P'
            · rw [y4, show ((((P.1 p).toInt + 1).toNat : Nat) : Int) = (P.1 p).toInt + 1 by omega] at hE
              exact hE
          · have c6 := (not_congr (i_le rfl rfl)).mp c6
            exact hQ _ Z4 I4 L4 P (Or.inr ⟨⟨inq, hs⟩, Or.inr ⟨hm, Or.inr ⟨nv, e, c, er', ec', Or.inr ⟨by rw [ep]; exact c5, Or.inl ⟨by rw [ep]; exact c6, rfl, rfl⟩⟩⟩⟩⟩) (TEd_no (by decide) (fun f _ => by rw [y4])) P4 w4 bd4 f04 cp4
        · have c5 := (not_congr (i_le rfl rfl)).mp c5
          exact hQ _ Z4 I4 L4 P (Or.inr ⟨⟨inq, hs⟩, Or.inr ⟨hm, Or.inr ⟨nv, e, c, er', ec', Or.inl ⟨by rw [ep]; exact c5, rfl, rfl⟩⟩⟩⟩) (TEd_no (by decide) (fun f _ => by rw [y4])) P4 w4 bd4 f04 cp4
      · have yv : VOWd D v1.toInt.toNat v2.toInt.toNat := by
          unfold VOWd
          rw [ep]
          exact i_has.mp cv
        exact hQ _ Z4 I4 L4 P (Or.inr ⟨⟨inq, hs⟩, Or.inr ⟨hm, Or.inl ⟨yv, rfl, rfl⟩⟩⟩) (TEd_no (by decide) (fun f _ => by rw [y4])) P4 w4 bd4 f04 cp4
    · have c3 := (i_eq rfl z0).mp c3
      refine hQ _ Z I1 L P (Or.inr ⟨⟨inq, hs⟩, Or.inl ⟨?_, rfl, rfl⟩⟩) (TEd_no (by decide) (fun f _ => by rw [y1])) P1 w1 bd f1' CP.rf
      unfold MOV
      rw [ep]
      omega
  · have c2 := (i_eq rfl z0).mp c2
    have := q.2
    unfold stp at this
    omega
set_option maxHeartbeats 4000000 in
theorem re_X12_rests {B : Nat × Nat} {T : Nat} {L : jL} {Z : jZ} {I : jI} {v0 t1 t2 t3 t4 t5 t6 t9 t10 t11 t12 t13 t29 t30 uX0 uX1 : Nat} {s0 s1 : Int} {D : DAT} {a : Nat → Int32} (X : RFM Z I v0 t1 t2 t3 t4 t5 t6 t9 t10 t11 t12 t13 t29 t30 uX0 uX1 s0 s1 D a) (ok : aOK a) (bd : BUD B Z T) (P : (Nat → Int32) × (Nat → Int32) × (Nat → Int32)) (t14 t15 t16 : Nat) (hr : RPr Z v0 t14 t15 t16) (hP : RPL I t14 t15 t16 (dP D) P) (ha : AOK D P.1) (kt : Nat → Int32) (hk : ∀ p, p < dP D → I t9 p = kt p) (uE : Nat) (h17 : jr Z v0 17 = some uE) (hw5 : ∀ z, z < 8 * dN D → 0 ≤ (I t5 z).toInt ∧ (I t5 z).toInt ≤ 720) (hs5 : ∀ s, s < dN D → shS (wtS (I t5) s) 8 = 720) (v1 v2 : Int32) {Q : Int32 → jZ → jI → jL → Prop}
    (hQ : ∀ (r : Int32) (Z' : jZ) (I' : jI) (L' : jL) (P' : (Nat → Int32) × (Nat → Int32) × (Nat → Int32)), RSQd D a kt P v1 v2 r.toInt P' → REe D P.1 (I t5) v1 r.toInt (I uE) (I' uE) → RPL I' t14 t15 t16 (dP D) P' → WD Z' I' → BUD B Z' T → FR Ws_X12_rests Z I Z' I' → CP Z Z' → Q r Z' I' L') : f_X12_rests B v0 v1 v2 Z I L Q := by
  have z0 : (0 : Int32).toInt = 0 := rfl
  have z1 : (1 : Int32).toInt = 1 := rfl
  have z30 : (30 : Int32).toInt = 30 := rfl
  have zm : (-1 : Int32).toInt = -1 := by decide
  have w := X.w
  have kv := X.S.1
  have d := X.dok
  have p6 := d.2.1
  have n24 := d.1
  obtain ⟨x, ex, k9, -⟩ := sh_f w.1 kv (j := 9) (k := 14) (m := 6) rfl
  cases X.h9.symm.trans ex
  obtain ⟨x, ex, kt5, -⟩ := sh_f w.1 kv (j := 5) (k := 14) (m := 192) rfl
  cases X.h5.symm.trans ex
  obtain ⟨x, ex, k17, -⟩ := sh_f w.1 kv (j := 17) (k := 14) (m := 8) rfl
  cases h17.symm.trans ex
  unfold f_X12_rests
  intro I1 e1
  have w1 : WD Z I1 := by rw [e1]; exact WD_putF w 12 22 kv (by decide) (by decide) trivial
  have f1 : FR [(12, 22)] Z I Z I1 := by rw [e1]; exact FR_putF kv (by decide) List.mem_cons_self
  have X1 := X.fr w1 f1 (by decide) (by decide)
  have P1 := RPL_fr f1 kv hr (by decide) (by decide) (by decide) hP
  have f1' : FR Ws_X12_rests Z I Z I1 := f1.mono (by decide)
  have y1 : I1 uE = I uE := (f1.2.2.2 v0 12 17 uE kv h17 (by rw [k17.2]; rfl) rfl (by decide))
  have y51 : I1 t5 = I t5 := (f1.2.2.2 v0 12 5 t5 kv X.h5 (by rw [kt5.2]; rfl) rfl (by decide))
  have hp8 := X1.hp
  have hn0 := X1.hn
  have a9 : I1 t9 = I t9 := f1.2.2.2 v0 12 9 t9 kv X.h9 (by rw [k9.2]; rfl) rfl (by decide)
  have bad : ¬ (inQ D v1 ∧ 1 ≤ v2.toInt ∧ v2.toInt ≤ 30) → Q (-1 : Int32) Z I1 L := fun n => hQ _ Z I1 L P (Or.inl ⟨n, rfl, rfl⟩) (REe_no (by decide) (fun f _ => by rw [y1])) P1 w1 bd f1' CP.rf
  refine s_X12_isOne w1 v0 v1 kv (fun r hr1 => ⟨fun c => bad (fun q => ?_), fun c => ?_⟩)
  · have c := (i_eq rfl z0).mp c
    have := q.1
    unfold inQ at this
    omega
  have c := (not_congr (i_eq rfl z0)).mp c
  obtain ⟨p, ev⟩ : ∃ p : Nat, v1.toInt = (p : Int) := ⟨v1.toInt.toNat, by omega⟩
  have hp : p < dP D := by omega
  have ep : v1.toInt.toNat = p := by omega
  have n1 : v1.toNatClampNeg = p := by have := i_nat ev (by omega); omega
  have inq : inQ D v1 := by unfold inQ; omega
  have vi : vp_in v1 6 := vi_of ev (by omega) (by omega)
  have ra := ha p hp
  obtain ⟨l3, rl, -, -⟩ := d.2.2.2.2 p hp
  refine s_X12_in w1 v2 1 30 (fun r2 hr2 => ⟨fun c2 => ?_, fun c2 => bad (fun q => ?_)⟩)
  · have c2 := (not_congr (i_eq rfl z0)).mp c2
    have hin : inQ D v1 ∧ 1 ≤ v2.toInt ∧ v2.toInt ≤ 30 := ⟨inq, by omega, by omega⟩
    intro b hb; cases hr.1.symm.trans hb
    refine ⟨vi, fun x41 e41 => ?_⟩
    rw [n1, (P1 p hp).1] at e41
    subst e41
    have go : ∀ (c : Int32) (Z3 : jZ) (I3 : jI) (L3 : jL), WD Z3 I3 → BUD B Z3 T → FR Ws_X12_lawOf Z I1 Z3 I3 → CP Z Z3 → c.toInt = pyR D a v1.toInt.toNat (P.1 v1.toInt.toNat) → f_X12_rests_b55 B Q v0 v1 v2 (P.1 p) c Z3 I3 L3 := fun c Z3 I3 L3 w3 bd3 f3 cp3 ec => by
      have X3 := X1.fr w3 f3 (by decide) (by decide)
      have kv3 := X3.S.1
      have hr3 := RPr_x f3 kv hr
      have y3 : I3 uE = I uE := (f3.2.2.2 v0 12 17 uE kv h17 (by rw [k17.2]; rfl) rfl (by decide)).trans y1
      have y53 : I3 t5 = I t5 := (f3.2.2.2 v0 12 5 t5 kv X.h5 (by rw [kt5.2]; rfl) rfl (by decide)).trans y51
      have h173 : jr Z3 v0 17 = some uE := (f3.2.1 v0 12 17 kv (by decide) (by decide)).trans h17
      have k173 := (f3.1 _ _ k17).1
      have kt53 := (f3.1 _ _ kt5).1
      have P3 := RPL_fr f3 kv hr (by decide) (by decide) (by decide) P1
      have f03 : FR Ws_X12_rests Z I Z3 I3 := f1'.trans w.1 w.2.1 (f3.mono (by decide))
      unfold f_X12_rests_b55
      intro b hb; cases hr3.2.2.2.2.1.symm.trans hb
      rw [n1, (P3 p hp).2.2]
      refine ⟨vi, fun cl => ?_, fun cl => ?_⟩
      · have cl := (i_le rfl rfl).mp cl
        intro b hb; cases hr3.2.2.2.2.1.symm.trans hb
        refine ⟨vi, vi, fun I4 e4 => ?_⟩
        rw [(P3 p hp).2.2] at e4
        have w4 : WD Z3 I4 := by rw [e4]; exact WD_putA w3 12 16 kv3 hr3.2.2.2.2.1 hr3.2.2.2.2.2 rfl rfl (by decide) trivial
        have f4 : FR [(12, 16)] Z3 I3 Z3 I4 := by rw [e4]; exact FR_upA w3.2.1 kv3 hr3.2.2.2.2.1 hr3.2.2.2.2.2 rfl rfl List.mem_cons_self
        have P4 := (RPL_put w3 kv3 hr3 P3 p (P.2.2 p - c)).2.2
        rw [← e4] at P4
        intro b hb; cases hr3.2.2.1.symm.trans hb
        intro b hb; cases X3.h9.symm.trans hb
        refine ⟨vi, ?_⟩
        intro b hb; cases hr3.2.2.1.symm.trans hb
        refine ⟨vi, vi, fun I5 e5 => ?_⟩
        have k93 := (f3.1 _ _ k9).1
        have h9 : I4 t9 p = kt p := by
          rw [f4.2.2.2 v0 12 9 t9 kv3 X3.h9 (by rw [k93.2]; rfl) rfl (by decide), f3.2.2.2 v0 12 9 t9 kv X1.h9 (by rw [k9.2]; rfl) rfl (by decide), a9]
          exact hk p hp
        rw [(P4 p hp).2.1, h9] at e5
        have w5 : WD Z3 I5 := by rw [e5]; exact WD_putA w4 12 15 kv3 hr3.2.2.1 hr3.2.2.2.1 rfl rfl (by decide) trivial
        have f5 : FR [(12, 15)] Z3 I4 Z3 I5 := by rw [e5]; exact FR_upA w4.2.1 kv3 hr3.2.2.1 hr3.2.2.2.1 rfl rfl List.mem_cons_self
        have P5 := (RPL_put w4 kv3 hr3 P4 p (if (P.2.1 p + v2) < kt p then (P.2.1 p + v2) else kt p)).2.1
        rw [← e5] at P5
        have f05 : FR Ws_X12_rests Z I Z3 I5 := (f03.trans w.1 w.2.1 (f4.mono (by decide))).trans w.1 w.2.1 (f5.mono (by decide))
        have res : RSQd D a kt P v1 v2 c.toInt (P.1, updF P.2.1 p (if (P.2.1 p + v2) < kt p then (P.2.1 p + v2) else kt p), updF P.2.2 p (P.2.2 p - c)) := Or.inr ⟨hin, c, ec, Or.inr ⟨by rw [ep]; exact cl, rfl, by rw [ep]⟩⟩
        have y5 : I5 uE = I uE := ((f5.2.2.2 v0 12 17 uE kv3 h173 (by rw [k173.2]; rfl) rfl (by decide)).trans (f4.2.2.2 v0 12 17 uE kv3 h173 (by rw [k173.2]; rfl) rfl (by decide))).trans y3
        have y55 : I5 t5 = I t5 := ((f5.2.2.2 v0 12 5 t5 kv3 X3.h5 (by rw [kt53.2]; rfl) rfl (by decide)).trans (f4.2.2.2 v0 12 5 t5 kv3 X3.h5 (by rw [kt53.2]; rfl) rfl (by decide))).trans y53
        have e05 : (I5 v0 0).toInt = (dN D : Int) := by rw [f5.2.2.1 v0 12 0 kv3 (by decide) (by decide), f4.2.2.1 v0 12 0 kv3 (by decide) (by decide)]; exact X3.hn
        refine ⟨fun cg => hQ c Z3 I5 L3 _ res (Or.inl ⟨Or.inr (by rw [ep]; exact (i_eq rfl zm).mp cg), fun f _ => by rw [y5]⟩) P5 w5 bd3 f05 cp3, fun cg => ?_⟩
        have cg := (not_congr (i_eq rfl zm)).mp cg
        have rg := pyR_rng (D := D) (p := v1.toInt.toNat) (x := P.1 v1.toInt.toNat) ok
        refine r_X12_earn w5 v0 kv3 t5 uE X3.h5 h173 (dN D) e05 n24 (P.1 p) c 1 c.toInt rfl (by omega) (P.1 p).toInt.toNat (by omega) (by omega) (fun z hz => by rw [y55]; exact hw5 z hz) (by rw [y55]; exact hs5 _ (by omega)) (fun I6 L6 w6 f6 hl => ?_)
        rw [y5, y55] at hl
        exact hQ c Z3 I6 L6 _ res (Or.inr ⟨by omega, by rw [ep]; omega, by rw [ep]; omega, by rw [ep]; exact hl⟩) (RPL_fr f6 kv3 hr3 (by decide) (by decide) (by decide) P5) w6 bd3 (f05.trans w.1 w.2.1 (f6.mono (by decide))) cp3
      · have cl := (not_congr (i_le rfl rfl)).mp cl
        exact hQ _ Z3 I3 L3 P (Or.inr ⟨hin, c, ec, Or.inl ⟨by rw [ep]; exact cl, rfl, rfl⟩⟩) (REe_no (by decide) (fun f _ => by rw [y3])) P3 w3 bd3 f03 cp3
    refine ⟨fun cg => ?_, fun cg => ?_⟩
    · have cg := (not_congr (i_eq rfl zm)).mp cg
      intro b hb; cases X1.h12.symm.trans hb
      refine ⟨vi, ?_⟩
      rw [n1]
      refine X1.prm (B := B) (T := T) 0 (P.1 p) (P.1 p) (I1 t12 p) 0 Z I1 L _ w1 bd FR.rf (by decide) (by omega) (by omega) (fun c Z3 I3 L3 w3 bd3 f3 cp3 ec => go c Z3 I3 L3 w3 bd3 f3 cp3 ?_)
      unfold pyR
      rw [ep, if_neg cg, ec, (X1.pil p hp).2.2.2.1]
      rfl
    · have cg := (i_eq rfl zm).mp cg
      refine go 0 Z I1 L w1 bd FR.rf CP.rf ?_
      unfold pyR
      rw [ep, if_pos cg]
      rfl
  · have c2 := (i_eq rfl z0).mp c2
    omega
/-! ===== EARNED: both sides over all calls ===== -/
theorem wtS_own {P : Nat → Int32} {s : Nat} (h : shS (fun g => (P (8 * s + g)).toInt) 8 = 720) : shS (wtS P s) 8 = 720 := (shS_cg 8 (fun i hi => wtS_at hi)).trans h
theorem PP_wt {n : Nat} {P T : Nat → Int32} (h : PP n P T) : (∀ s, s < n → wtS P s = wtS T s) ∧ (∀ s f, s < n → f < 8 → 0 ≤ wtS P s f ∧ wtS P s f ≤ 720) ∧ (∀ s, s < n → shS (wtS P s) 8 = 720) ∧ (∀ z, z < 8 * n → 0 ≤ (T z).toInt ∧ (T z).toInt ≤ 720) ∧ ∀ s, s < n → shS (wtS T s) 8 = 720 := by
  have e : ∀ s, s < n → wtS P s = wtS T s := fun s hs => wtS_cg (fun f hf => h.1 (8 * s + f) (by omega))
  have q : ∀ s, s < n → shS (wtS T s) 8 = 720 := fun s hs => wtS_own (h.2.2 s hs).2
  refine ⟨e, fun s f hs hf => ?_, fun s hs => by rw [e s hs]; exact q s hs, fun z hz => OWP_le h.2.2 hz, q⟩
  rw [e s hs, wtS_at hf]
  exact OWP_le h.2.2 (by omega)
def EBx (Z : jZ) (I : jI) (v1 v2 uS u62 uE u17 : Nat) : Prop := jr Z v1 5 = some uE ∧ jk Z uE 14 ∧ jr Z v2 17 = some u17 ∧ jk Z u17 14 ∧ KCe Z I uS u62 8
def EB (Z : jZ) (I : jI) (v1 v2 uS u62 uE u17 : Nat) : Prop := EBx Z I v1 v2 uS u62 uE u17 ∧ ARr 8 (I uE) (I u17)
def WEx : List (Nat × Nat) := [(2, 3), (2, 8), (12, 62)]
def WEB : List (Nat × Nat) := [(11, 5), (12, 17), (2, 3), (2, 8), (12, 62)]
theorem EBx_fr {W : List (Nat × Nat)} {Z Z' : jZ} {I I' : jI} {v1 v2 uS u62 uE u17 : Nat} (f : FR W Z I Z' I') (wo : WD Z I) (k1 : jk Z v1 11) (k2 : jk Z v2 12) (kS : jk Z uS 17) (lS : jlen Z uS = 2) (h62 : jr Z v2 62 = some u62) (k62 : jk Z u62 14) (hW : ∀ p ∈ WEx, p ∉ W) (h : EBx Z I v1 v2 uS u62 uE u17) : EBx Z' I' v1 v2 uS u62 uE u17 := by
  obtain ⟨h5, kE, h17, k17, c⟩ := h
  exact ⟨(f.2.1 v1 11 5 k1 (by decide) (by decide)).trans h5, (f.1 _ _ kE).1, (f.2.1 v2 12 17 k2 (by decide) (by decide)).trans h17, (f.1 _ _ k17).1, KCe_fr f wo.1 kS lS k2 h62 k62 (hW _ (by decide)) (hW _ (by decide)) (hW _ (by decide)) rfl c⟩
theorem EB_fr {W : List (Nat × Nat)} {Z Z' : jZ} {I I' : jI} {v1 v2 uS u62 uE u17 : Nat} (f : FR W Z I Z' I') (wo : WD Z I) (k1 : jk Z v1 11) (k2 : jk Z v2 12) (kS : jk Z uS 17) (lS : jlen Z uS = 2) (h62 : jr Z v2 62 = some u62) (k62 : jk Z u62 14) (hW : ∀ p ∈ WEB, p ∉ W) (h : EB Z I v1 v2 uS u62 uE u17) : EB Z' I' v1 v2 uS u62 uE u17 := by
  refine ⟨EBx_fr f wo k1 k2 kS lS h62 k62 (fun p hp => hW p ?_) h.1, ?_⟩
  · exact List.mem_cons_of_mem _ (List.mem_cons_of_mem _ hp)
  · obtain ⟨⟨h5, kE, h17, k17, c⟩, a⟩ := h
    rw [f.2.2.2 v1 11 5 uE k1 h5 (by rw [kE.2]; rfl) rfl (hW _ (by decide)), f.2.2.2 v2 12 17 u17 k2 h17 (by rw [k17.2]; rfl) rfl (hW _ (by decide))]
    exact a
theorem EB_frp {Z Z' : jZ} {I I' : jI} {v1 v2 uS u62 uE u17 : Nat} (f : FRp Z I Z' I') (x : jext Z Z') (wo : WD Z I) (k1 : jk Z v1 11) (k2 : jk Z v2 12) (kS : jk Z uS 17) (lS : jlen Z uS = 2) (k62 : jk Z u62 14) (h : EB Z I v1 v2 uS u62 uE u17) : EB Z' I' v1 v2 uS u62 uE u17 := by
  obtain ⟨⟨h5, kE, h17, k17, c⟩, a⟩ := h
  refine ⟨⟨(f.1 v1 11 5 k1 (by decide)).trans h5, (x _ _ kE).1, (f.1 v2 12 17 k2 (by decide)).trans h17, (x _ _ k17).1, KCe_frp (v2 := v2) f wo.1 kS lS k62 rfl c⟩, fun s hs => ?_⟩
  rw [f.2 uE 14 s kE (by omega), f.2 u17 14 s k17 (by omega)]
  exact a s hs
theorem EB_new {Z : jZ} {I : jI} {L : jL} {q1 q2 : Nat} (uS u62 : Nat) (w : WD Z I) (k1 : jk Z q1 11) (k2 : jk Z q2 12) (kS : jk Z uS 17) (lS : jlen Z uS = 2) (hN : ∀ a c, jk Z a c → fr1 I L a c) : ∃ uE u17 : Nat, EB Z I q1 q2 uS u62 uE u17 := by
  obtain ⟨uE, a1, b1, -⟩ := sh_f w.1 k1 (j := 5) (k := 14) (m := 8) rfl
  obtain ⟨u17, a2, b2, -⟩ := sh_f w.1 k2 (j := 17) (k := 14) (m := 8) rfl
  refine ⟨uE, u17, ⟨a1, b1, a2, b2, fun i b a hi hb hh => ?_⟩, fun s _ => ?_⟩
  · obtain ⟨y, ey, kb⟩ := w.1.2.2.1 uS kS i (by rw [lS]; exact hi)
    cases hb.symm.trans ey
    exact absurd (by rw [(hN b 2 kb).1]; rfl) hh
  · have e1 : I uE s = 0 := by rw [(hN uE 14 b1).1]; exact jz_arr (by decide) s
    have e2 : I u17 s = 0 := by rw [(hN u17 14 b2).1]; exact jz_arr (by decide) s
    rw [e1, e2]
/-- keep -/
theorem EB_keep {Z : jZ} {I0 I1 I2 : jI} {v1 v2 uS u62 uE u17 uK uC : Nat} {v : Int32} {r1 r2 : Int} (w : WD Z I0) (f1 : FR Ws_X11_keep Z I0 Z I1) (f2 : FR Ws_X12_keep Z I1 Z I2) (k1 : jk Z v1 11) (kS : jk Z uS 17) (lS : jlen Z uS = 2) (k2 : jk Z v2 12) (h62 : jr Z v2 62 = some u62) (k62 : jk Z u62 14) {uF : Nat} (hF : jr Z v1 2 = some uF) (kF : jk Z uF 8)
    (p1 : KP11 Z uS v r1 I0 I1) (q1 : KBC Z v1 uS v r1 I0 I1) (p2 : KP12 v2 uK uC v r2 I1 I2) (q2 : KPM Z v2 v r2 I1 I2) (h : EB Z I0 v1 v2 uS u62 uE u17) : EB Z I2 v1 v2 uS u62 uE u17 := by
  obtain ⟨⟨h5, kE, h17, k17, c⟩, a⟩ := h
  refine ⟨⟨h5, kE, h17, k17, KCe_keep w f1 f2 k1 kS lS k2 h62 k62 hF kF h5 h17 k17 (Int.le_refl 8) rfl p1 q1 p2 q2 a c⟩, ?_⟩
  rw [f2.2.2.2 v1 11 5 uE k1 h5 (by rw [kE.2]; rfl) rfl (by decide), f1.2.2.2 v1 11 5 uE k1 h5 (by rw [kE.2]; rfl) rfl (by decide), f2.2.2.2 v2 12 17 u17 k2 h17 (by rw [k17.2]; rfl) rfl (by decide), f1.2.2.2 v2 12 17 u17 k2 h17 (by rw [k17.2]; rfl) rfl (by decide)]
  exact a
/-- again -/
theorem pe9_X12_again {Z : jZ} {I : jI} {L : jL} (w : WD Z I) (v0 : Nat) (v1 : Int32) (k0 : jk Z v0 12) : f_X12_again v0 v1 Z I L (fun r I' _ => EGM Z v0 v1 r.toInt I I') := pe_X12_again w v0 v1 k0 (fun _ _ _ _ _ h => h)
theorem EB_again {Z : jZ} {I0 I1 I2 : jI} {v1 v2 uS u62 uE u17 : Nat} {v : Int32} {r1 r2 : Int} (w : WD Z I0) (f1 : FR Ws_X11_again Z I0 Z I1) (f2 : FR Ws_X12_again Z I1 Z I2) (k1 : jk Z v1 11) (kS : jk Z uS 17) (lS : jlen Z uS = 2) (k2 : jk Z v2 12) (h62 : jr Z v2 62 = some u62) (k62 : jk Z u62 14) {uF : Nat} (hF : jr Z v1 2 = some uF) (kF : jk Z uF 8) (er : r1 = r2)
    (p1 : YN r1 (AG11 Z I0 uS v)) (q1 : AGC Z v1 uS v r1 I0 I1) (q2 : EGM Z v2 v r2 I1 I2) (w1 : WD Z I1) (h : EB Z I0 v1 v2 uS u62 uE u17) : EB Z I2 v1 v2 uS u62 uE u17 := by
  subst er
  have hx := EBx_fr f2 w1 k1 k2 kS lS h62 k62 (by decide) (EBx_fr f1 w k1 k2 kS lS h62 k62 (by decide) h.1)
  refine ⟨hx, fun s hs => ?_⟩
  obtain ⟨⟨h5, kE, h17, k17, c⟩, a⟩ := h
  obtain ⟨uP, hP, kP⟩ := sh_o w.1 kF (j := 4) (k := 4) rfl
  obtain ⟨x0, hx0, -⟩ := sh_f w.1 kP (j := 0) (k := 14) (m := 192) rfl
  obtain ⟨x1, hx1, -⟩ := sh_f w.1 kF (j := 1) (k := 14) (m := 24) rfl
  obtain ⟨x2, hx2, -⟩ := sh_f w.1 kF (j := 2) (k := 14) (m := 24) rfl
  have g1 := q1 uF uP x0 x1 x2 uE hF hP hx0 hx1 hx2 h5
  have g2 := q2 u17 u62 h17 h62
  have eX : I2 uE = I1 uE := f2.2.2.2 v1 11 5 uE k1 h5 (by rw [kE.2]; rfl) rfl (by decide)
  have eK : I1 u62 = I0 u62 := f1.2.2.2 v2 12 62 u62 k2 h62 (by rw [k62.2]; rfl) rfl (by decide)
  have e7 : I1 u17 = I0 u17 := f1.2.2.2 v2 12 17 u17 k2 h17 (by rw [k17.2]; rfl) rfl (by decide)
  rw [eX]
  rcases p1 with ⟨hr, hv, b, hb, hh⟩ | ⟨hr, -⟩
  · have n1 := i_nat (x := v) rfl hv.1
    obtain ⟨y, ey, kb⟩ := w.1.2.2.1 uS kS v.toNatClampNeg (by rw [lS]; omega)
    cases hb.symm.trans ey
    obtain ⟨a0, ha0, -⟩ := sh_f w.1 kb (j := 0) (k := 14) (m := 24) rfl
    obtain ⟨a1, ha1, -⟩ := sh_f w.1 kb (j := 1) (k := 14) (m := 24) rfl
    obtain ⟨a2, ha2, -⟩ := sh_f w.1 kb (j := 2) (k := 14) (m := 192) rfl
    obtain ⟨a3, ha3, -⟩ := sh_f w.1 kb (j := 3) (k := 14) (m := 8) rfl
    rw [(g1.1 hr b a0 a1 a2 a3 hb ha0 ha1 ha2 ha3).2.2.2.1 s (by omega), g2.1 hr s (by omega), eK]
    exact c v.toNatClampNeg b a3 (by omega) hb hh ha3 s hs
  · have z := g1.2 hr
    rw [g2.2 (by omega), z]
    exact a s hs
/-- stairs -/
def SE11 (I I' : jI) (uE : Nat) (r : Int) : Prop := (0 ≤ r → ∀ f, f < 8 → I' uE f = 0) ∧ (r < 0 → ∀ f, f < 8 → I' uE f = I uE f)
theorem se_L38 {Z : jZ} {I0 : jI} (w0 : WD Z I0) (v0 uA uS uE : Nat) (kv0 : jk Z v0 11) (hA : jr Z v0 3 = some uA) (hS : jr Z v0 8 = some uS) (hE : jr Z v0 5 = some uE) (n0 : Nat) (hn : (I0 v0 4).toInt = (n0 : Int)) (v1 : Int32) {Q : Int32 → jI → jL → Prop} (hQ : ∀ (I' : jI) (L' : jL), (∀ f, f < 8 → I' uE f = 0) → Q v1 I' L') :
    ∀ (n p : Nat) (v2 : Int32) (I : jI) (L : jL), n0 + 1 ≤ n + p → p ≤ n0 → v2.toInt = (p : Int) → WD Z I → FR Ws_X11_stairs Z I0 Z I → f_X11_stairs_L38 Z Q n v0 v1 v2 I L := by
  have z1 : (1 : Int32).toInt = 1 := rfl
  have n6 : 0 ≤ (I0 v0 4).toInt ∧ (I0 v0 4).toInt ≤ 6 := w0.fld 11 4 kv0 (by decide)
  intro n
  induction n with
  | zero => intro p v2 I L hk hi; omega
  | succ n ih =>
    intro p v2 I L hk hi e2 w f
    have e4 : (I v0 4).toInt = (n0 : Int) := by rw [f.2.2.1 v0 11 4 kv0 (by decide) (by decide)]; exact hn
    have nx : ∀ y : Int32, y = v2 + 1 → y.toInt = ((p + 1 : Nat) : Int) := fun y ey => by rw [ey]; exact (i_add e2 z1 (by omega) (by omega)).trans (by omega)
    unfold f_X11_stairs_L38
    refine ⟨fun c => ?_, fun c => ?_⟩
    · intro b5 h5
      obtain ⟨x, ex, k5, l5⟩ := sh_f w.1 kv0 (j := 5) (k := 14) (m := 8) rfl
      cases h5.symm.trans ex
      cases h5.symm.trans hE
      refine r_J7_fill_53178 w uE v0 11 5 8 k5 kv0 h5 (by decide) rfl l5 (by omega) 0 (fun i => trivial) (fun I3 w3 f3 y3 => ?_)
      refine ⟨3, st_L76 w3 v0 uS kv0 hS v1 (fun I4 L4 w4 f4 => ?_) 3 0 0 I3 L (by omega) (by omega) rfl w3 FR.rf⟩
      refine hQ I4 L4 (fun g hg => ?_)
      rw [f4.2.2.2 v0 11 5 uE kv0 h5 (by rw [k5.2]; rfl) rfl (by decide)]
      exact y3 g hg
    · have c := (not_congr (i_le e4 e2)).mp c
      refine s_X11_find w v0 v2 kv0 (fun r hr => ⟨fun e => ?_, fun b e => ?_⟩)
      · unfold f_X11_stairs_b60
        intro x ex
        exact ih (p + 1) x I L (by omega) (by omega) (nx x ex) w f
      · have kb := (hr.1 b e).1
        refine r_startAnew w b kb (fun I3 L3 w3 f3 g5 g6 g7 go => ?_)
        unfold f_X11_stairs_b60
        intro x ex
        exact ih (p + 1) x I3 L3 (by omega) (by omega) (nx x ex) w3 (f.trans w0.1 w0.2.1 (f3.mono (by decide)))
theorem pe_X11_stairs {Z : jZ} {I : jI} {L : jL} (w : WD Z I) (v0 uA uE : Nat) (kv0 : jk Z v0 11) (hA : jr Z v0 3 = some uA) (hE : jr Z v0 5 = some uE) : f_X11_stairs v0 Z I L (fun r I' _ => SE11 I I' uE r.toInt) := by
  have z0 : (0 : Int32).toInt = 0 := rfl
  have n6 : 0 ≤ (I v0 4).toInt ∧ (I v0 4).toInt ≤ 6 := w.fld 11 4 kv0 (by decide)
  obtain ⟨n0, hn⟩ : ∃ n0 : Nat, (I v0 4).toInt = (n0 : Int) := ⟨(I v0 4).toInt.toNat, by omega⟩
  obtain ⟨uN, hN, kN⟩ := sh_o w.1 kv0 (j := 1) (k := 9) rfl
  obtain ⟨uT, hT, kT⟩ := sh_o w.1 kv0 (j := 0) (k := 10) rfl
  obtain ⟨uF, hF, kF⟩ := sh_o w.1 kv0 (j := 2) (k := 8) rfl
  obtain ⟨uS, hS, -⟩ := sh_f w.1 kv0 (j := 8) (k := 17) (m := 2) rfl
  obtain ⟨x, ex, kE, -⟩ := sh_f w.1 kv0 (j := 5) (k := 14) (m := 8) rfl
  cases hE.symm.trans ex
  unfold f_X11_stairs
  intro b hb; cases hN.symm.trans hb
  intro b hb; cases hT.symm.trans hb
  refine s_X9_read w uN uT kN kT (fun r I1 L1 w1 f1 => ?_)
  intro b hb; cases hT.symm.trans hb
  refine s_X10_clear w1 uT kT (fun I2 L2 w2 f2 => ⟨fun c => ?_, fun c => ?_⟩)
  · have c := (i_le z0 rfl).mp c
    intro b hb; cases hF.symm.trans hb
    intro b hb; cases hN.symm.trans hb
    refine s_X8_build w2 uF uN kF kN (fun I3 L3 w3 f3 => ?_)
    have f03 : FR Ws_X11_stairs Z I Z I3 := ((f1.mono (by decide)).trans w.1 w.2.1 (f2.mono (by decide))).trans w.1 w.2.1 (f3.mono (by decide))
    have e3 : (I3 v0 4).toInt = (n0 : Int) := by rw [f03.2.2.1 v0 11 4 kv0 (by decide) (by decide)]; exact hn
    exact ⟨n0 + 1, se_L38 w3 v0 uA uS uE kv0 hA hS hE n0 e3 r (fun I4 L4 hT4 => ⟨fun _ => hT4, fun q => by omega⟩) (n0 + 1) 0 0 I3 L3 (by omega) (by omega) rfl w3 FR.rf⟩
  · have c := (not_congr (i_le z0 rfl)).mp c
    refine ⟨fun q => by omega, fun _ g _ => ?_⟩
    rw [f2.2.2.2 v0 11 5 uE kv0 hE (by rw [kE.2]; rfl) rfl (by decide), f1.2.2.2 v0 11 5 uE kv0 hE (by rw [kE.2]; rfl) rfl (by decide)]
def SE12 (I I' : jI) (v0 uE : Nat) : Prop := (I' v0 7 = I v0 7 ∧ I' uE = I uE) ∨ (I' v0 7 = I v0 7 + 1 ∧ ∀ f, f < 8 → I' uE f = 0)
theorem se_L280 {B : Nat × Nat} {Z : jZ} {J : jI} (wJ : WD Z J) (v0 : Nat) (v1 : Int32) (k0 : jk Z v0 12) (t9 t10 t14 t15 t16 np uE : Nat) (h9 : jr Z v0 9 = some t9) (k9 : jk Z t9 14) (h10 : jr Z v0 10 = some t10) (k10 : jk Z t10 14) (h14 : jr Z v0 14 = some t14) (k14 : jk Z t14 14) (h15 : jr Z v0 15 = some t15) (k15 : jk Z t15 14) (h16 : jr Z v0 16 = some t16) (k16 : jk Z t16 14) (h17 : jr Z v0 17 = some uE) (k17 : jk Z uE 14) (en : (J v0 8).toInt = (np : Int)) {Q : Int32 → jZ → jI → jL → Prop}
    (hQ : ∀ (I : jI) (L : jL), FR [(12, 14), (12, 15), (12, 16), (12, 17)] Z J Z I → (∀ f, f < 8 → I uE f = 0) → Q v1 Z I L) :
    ∀ (n p : Nat) (v3 : Int32) (I : jI) (L : jL), 9 ≤ n + p → p ≤ 8 → v3.toInt = (p : Int) → WD Z I → FR [(12, 17)] Z J Z I → (∀ f, f < p → I uE f = 0) → f_X12_stairs_L280 B Q n v0 v1 v3 Z I L := by
  have z1 : (1 : Int32).toInt = 1 := rfl
  have z8 : (8 : Int32).toInt = 8 := rfl
  have n6 : 0 ≤ (J v0 8).toInt ∧ (J v0 8).toInt ≤ 6 := wJ.fld 12 8 k0 (by decide)
  intro n
  induction n with
  | zero => intro p v3 I L hk hi; omega
  | succ n ih =>
    intro p v3 I L hk hi e3 w f hT
    have n3 : v3.toNatClampNeg = p := by have := i_nat e3 (by omega); omega
    unfold f_X12_stairs_L280
    refine ⟨fun c => ?_, fun c => ?_⟩
    · have c := (i_le z8 e3).mp c
      refine ⟨np + 1, ps_L301 w v0 v1 k0 t9 t10 t14 t15 t16 np h9 k9 h10 k10 h14 k14 h15 k15 h16 k16 (by rw [f.2.2.1 v0 12 8 k0 (by decide) (by decide)]; exact en) (fun I' L' w' f' h => ?_) (np + 1) 0 0 I L (by omega) (by omega) rfl w FR.rf (fun s hs => absurd hs (Nat.not_lt_zero s))⟩
      refine hQ I' L' ((f.mono (by decide)).trans wJ.1 wJ.2.1 (f'.mono (by decide))) (fun g hg => ?_)
      rw [f'.2.2.2 v0 12 17 uE k0 h17 (by rw [k17.2]; rfl) rfl (by decide)]
      exact hT g (by omega)
    have c := (not_congr (i_le z8 e3)).mp c
    intro b hb; cases h17.symm.trans hb
    refine ⟨vi_of e3 (by omega) (by omega), fun I4 e4 x5 e5 => ?_⟩
    rw [n3] at e4
    have w4 : WD Z I4 := by rw [e4]; exact WD_putA w 12 17 k0 h17 k17 rfl rfl (by decide) trivial
    have f4 : FR [(12, 17)] Z I Z I4 := by rw [e4]; exact FR_upA w.2.1 k0 h17 k17 rfl rfl (by decide)
    refine ih (p + 1) x5 I4 L (by omega) (by omega) (by rw [e5]; exact (i_add e3 z1 (by omega) (by omega)).trans (by omega)) w4 (f.trans wJ.1 wJ.2.1 f4) (fun g hg => ?_)
    by_cases c9 : g = p
    · rw [c9, e4, jpI_at]
    · rw [e4, jpI_off c9]
      exact hT g (by omega)
theorem pe_X12_stairs {B : Nat × Nat} {T : Nat} {Z : jZ} {I : jI} {L : jL} (w : WD Z I) (bd : BUD B Z T) (v0 : Nat) (k0 : jk Z v0 12) (uE : Nat) (h17 : jr Z v0 17 = some uE) : f_X12_stairs B v0 Z I L (fun _ _ I' _ => SE12 I I' v0 uE) := by
  have n6 : 0 ≤ (I v0 8).toInt ∧ (I v0 8).toInt ≤ 6 := w.fld 12 8 k0 (by decide)
  obtain ⟨np, en⟩ : ∃ np : Nat, (I v0 8).toInt = (np : Int) := ⟨(I v0 8).toInt.toNat, by omega⟩
  obtain ⟨x, ex, k17, -⟩ := sh_f w.1 k0 (j := 17) (k := 14) (m := 8) rfl
  cases h17.symm.trans ex
  obtain ⟨t9, h9, k9, -⟩ := sh_f w.1 k0 (j := 9) (k := 14) (m := 6) rfl
  obtain ⟨t10, h10, k10, -⟩ := sh_f w.1 k0 (j := 10) (k := 14) (m := 6) rfl
  obtain ⟨t14, h14, k14, -⟩ := sh_f w.1 k0 (j := 14) (k := 14) (m := 6) rfl
  obtain ⟨t15, h15, k15, -⟩ := sh_f w.1 k0 (j := 15) (k := 14) (m := 6) rfl
  obtain ⟨t16, h16, k16, -⟩ := sh_f w.1 k0 (j := 16) (k := 14) (m := 6) rfl
  refine sp_X12_stairs w bd v0 k0 ⟨fun r Z' I' L' w' _ f' _ => Or.inl ⟨f'.2.2.1 v0 12 7 k0 (by decide) (by decide), f'.2.2.2 v0 12 17 uE k0 h17 (by rw [k17.2]; rfl) rfl (by decide)⟩, fun v1 h2 Z1 I1 L1 w1 bd1 f1 cp1 => ?_⟩
  intro I38 e38 I39 e39
  have k1 := (f1.1 _ _ k0).1
  have w38 : WD Z1 I38 := by rw [e38]; exact WD_putF w1 12 7 k1 (by decide) (by decide) trivial
  have w39 : WD Z1 I39 := by rw [e39]; exact WD_putF w38 12 52 k1 (by decide) (by decide) (by constructor <;> decide)
  have f38 : FR [(12, 7), (12, 52)] Z1 I1 Z1 I38 := by rw [e38]; exact FR_putF k1 (by decide) (by decide)
  have f39 : FR [(12, 7), (12, 52)] Z1 I38 Z1 I39 := by rw [e39]; exact FR_putF k1 (by decide) (by decide)
  have f13 := f38.trans w1.1 w1.2.1 f39
  have g : ∀ (j b : Nat), jr Z v0 j = some b → j ≠ 23 → jr Z1 v0 j = some b := fun j b e hj => (f1.2.1 v0 12 j k0 (fun q => absurd q.1 (by decide)) (fun q => hj q.2)).trans e
  have e7 : I39 v0 7 = I v0 7 + 1 := by
    rw [e39, jpI_o (by decide), e38, jpI_at, f1.2.2.1 v0 12 7 k0 (by decide) (by decide)]
  have e8 : (I39 v0 8).toInt = (np : Int) := by rw [f13.2.2.1 v0 12 8 k1 (by decide) (by decide), f1.2.2.1 v0 12 8 k0 (by decide) (by decide)]; exact en
  exact ⟨9, se_L280 w39 v0 v1 k1 t9 t10 t14 t15 t16 np uE (g 9 _ h9 (by decide)) (f1.1 _ _ k9).1 (g 10 _ h10 (by decide)) (f1.1 _ _ k10).1 (g 14 _ h14 (by decide)) (f1.1 _ _ k14).1 (g 15 _ h15 (by decide)) (f1.1 _ _ k15).1 (g 16 _ h16 (by decide)) (f1.1 _ _ k16).1 (g 17 _ h17 (by decide)) (f1.1 _ _ k17).1 e8 (fun I4 L4 f4 h => Or.inr ⟨(f4.2.2.1 v0 12 7 k1 (by decide) (by decide)).trans e7, h⟩) 9 0 0 I39 L1 (by omega) (by omega) rfl w39 FR.rf (fun q hq => absurd hq (Nat.not_lt_zero q))⟩
theorem EB_stairs {Z Z2 : jZ} {I0 I1 I2 : jI} {v1 v2 uS u62 uE u17 : Nat} {r1 r2 : Int} (w : WD Z I0) (f1 : FR Ws_X11_stairs Z I0 Z I1) (f2 : FR Ws_X12_stairs Z I1 Z2 I2) (k1 : jk Z v1 11) (k2 : jk Z v2 12) (kS : jk Z uS 17) (lS : jlen Z uS = 2) (h62 : jr Z v2 62 = some u62) (k62 : jk Z u62 14) (er : r1 = r2) (b7 : 0 ≤ (I1 v2 7).toInt ∧ (I1 v2 7).toInt ≤ 1000)
    (p1 : (r1 < 0 → ∀ b, jk Z b 2 → I1 b 8 = I0 b 8) ∧ (0 ≤ r1 → ∀ i b, i < 2 → jr Z uS i = some b → I1 b 8 = 0)) (q1 : SE11 I0 I1 uE r1) (q2 : SE12 I1 I2 v2 u17) (p7 : (0 ≤ r2 → (I2 v2 7).toInt = (I1 v2 7).toInt + 1) ∧ (r2 < 0 → (I2 v2 7).toInt = (I1 v2 7).toInt)) (h : EB Z I0 v1 v2 uS u62 uE u17) : EB Z2 I2 v1 v2 uS u62 uE u17 := by
  subst er
  obtain ⟨⟨h5, kE, h17, k17, c⟩, a⟩ := h
  have z1 : (1 : Int32).toInt = 1 := rfl
  have e7 : I1 u17 = I0 u17 := f1.2.2.2 v2 12 17 u17 k2 h17 (by rw [k17.2]; rfl) rfl (by decide)
  refine ⟨⟨(f2.2.1 v1 11 5 k1 (by decide) (by decide)).trans h5, (f2.1 _ _ kE).1, (f2.2.1 v2 12 17 k2 (by decide) (by decide)).trans h17, (f2.1 _ _ k17).1, KCe_stairs f1 f2 w.1 kS lS k2 h62 k62 rfl p1 (fun _ => rfl) c⟩, fun s hs => ?_⟩
  rw [f2.2.2.2 v1 11 5 uE k1 h5 (by rw [kE.2]; rfl) rfl (by decide)]
  by_cases c0 : 0 ≤ r1
  · have t7 := p7.1 c0
    rcases q2 with ⟨s7, -⟩ | ⟨-, z9⟩
    · rw [s7] at t7; omega
    · rw [q1.1 c0 s (by omega), z9 s (by omega)]
  · have t7 := p7.2 (by omega)
    rcases q2 with ⟨-, z9⟩ | ⟨s7, -⟩
    · rw [q1.2 (by omega) s (by omega), z9, e7]
      exact a s hs
    · have := i_add (x := I1 v2 7) (y := 1) rfl z1 (by omega) (by omega)
      rw [s7] at t7
      omega
/-- mends -/
def MEe (n : Int) (P : Nat → Int32) (v r : Int32) (E E' : Nat → Int32) : Prop := (¬ (0 ≤ v.toInt ∧ v.toInt < n) ∧ ∀ f, f < 8 → E' f = E f) ∨ ((0 ≤ v.toInt ∧ v.toInt < n) ∧ LDr E E' (-1) r.toInt (wtS P v.toInt.toNat))
theorem MEe_eq {n m : Int} {P T E E' G G' : Nat → Int32} {v r q : Int32} (e : n = m) (er : r.toInt = q.toInt) (hP : ∀ s : Nat, (s : Int) < n → wtS P s = wtS T s) (h : MEe n P v r E E') (g : MEe m T v q G G') (hs : ARr 8 E G) : ARr 8 E' G' := by
  subst e
  intro s h8
  rcases h with ⟨h1, h2⟩ | ⟨h1, h2⟩
  · rcases g with ⟨g1, g2⟩ | ⟨g1, g2⟩
    · rw [h2 s (by omega), g2 s (by omega)]; exact hs s h8
    · exact absurd g1 h1
  · rcases g with ⟨g1, g2⟩ | ⟨g1, g2⟩
    · exact absurd h1 g1
    · rw [er] at h2
      exact LDr_eq (fun f hf => hs f (by omega)) (hP _ (by omega)) h2 g2 s (by omega)
theorem me_rng {x y z : Int32} (ez : z = ((9 : Int32) - x) * y) (hx : 0 ≤ x.toInt ∧ x.toInt ≤ 9) (hy : 0 ≤ y.toInt ∧ y.toInt ≤ 30) : 0 ≤ z.toInt ∧ z.toInt ≤ 100000 := by
  have e9 : ((9 : Int32) - x).toInt = 9 - x.toInt := i_sub (show (9 : Int32).toInt = 9 from rfl) rfl (by omega) (by omega)
  have l : 0 ≤ (9 - x.toInt) * y.toInt := Int.mul_nonneg (by omega) hy.1
  have u : (9 - x.toInt) * y.toInt ≤ 9 * 30 := Int.mul_le_mul (by omega) hy.2 hy.1 (by omega)
  rw [ez, i_mul e9 rfl (by omega) (by omega)]
  omega
theorem pe_X11_mends {Z : jZ} {I : jI} {L : jL} (w : WD Z I) (v0 : Nat) (v1 : Int32) (kv0 : jk Z v0 11) (uF uP x0 uX uR uE n : Nat) (hF : jr Z v0 2 = some uF) (kF : jk Z uF 8) (hP : jr Z uF 4 = some uP) (kP : jk Z uP 4) (hx0 : jr Z uP 0 = some x0) (kx0 : jk Z x0 14) (hX : jr Z uF 1 = some uX) (kX : jk Z uX 14) (hR : jr Z uF 0 = some uR) (hE : jr Z v0 5 = some uE) (kE : jk Z uE 14) (hn : (I uF 9).toInt = (n : Int)) (n24 : n ≤ 24) (hw : ∀ s f, s < n → f < 8 → 0 ≤ wtS (I x0) s f ∧ wtS (I x0) s f ≤ 720) (hs : ∀ s, s < n → shS (wtS (I x0) s) 8 = 720) (bX : ∀ s, s < n → 0 ≤ (I uX s).toInt ∧ (I uX s).toInt ≤ 9) (bR : ∀ s, s < n → 0 ≤ (I uR s).toInt ∧ (I uR s).toInt ≤ 30) : f_X11_mends v0 v1 Z I L (fun r I' _ => MEe (I uF 9).toInt (I x0) v1 r (I uE) (I' uE)) := by
  unfold f_X11_mends
  intro b hb; cases hF.symm.trans hb
  refine s_X8_has w uF v1 kF (fun r p => ⟨fun c => ?_, fun c => Or.inl ⟨by have c := yz c; omega, fun _ _ => rfl⟩⟩)
  have c := nz c
  have n1 := i_nat (x := v1) rfl (by omega)
  intro b hb; cases hF.symm.trans hb
  intro b hb; cases hX.symm.trans hb
  refine ⟨vi_of rfl (by omega) (by omega), ?_⟩
  intro b hb; cases hF.symm.trans hb
  intro b hb; cases hR.symm.trans hb
  refine ⟨vi_of rfl (by omega) (by omega), ?_⟩
  intro x16 e16
  have rg := me_rng e16 (bX _ (by omega)) (bR _ (by omega))
  refine r_X11_lead w v0 kv0 uF uP x0 uE hF hP kP hx0 kx0 hE x16 v1 (-1) x16.toInt rfl rg v1.toInt.toNat (by omega) (by omega) (fun f hf => hw _ f (by omega) hf) (hs _ (by omega)) (fun I2 L2 w2 f2 hl => ?_)
  intro b hb; cases hF.symm.trans hb
  intro b hb; cases hX.symm.trans hb
  refine ⟨vi_of rfl (by omega) (by omega), ?_⟩
  intro I26 e26
  refine Or.inr ⟨by omega, ?_⟩
  have f26 : FR [(8, 1)] Z I2 Z I26 := by rw [e26]; exact FR_upA w2.2.1 kF hX kX rfl rfl List.mem_cons_self
  rw [f26.2.2.2 v0 11 5 uE kv0 hE (by rw [kE.2]; rfl) rfl (by decide)]
  exact hl
theorem pe_X12_mends {Z : jZ} {I : jI} {L : jL} (w : WD Z I) (v0 : Nat) (v1 : Int32) (kv0 : jk Z v0 12) (u5 uX uR uE n : Nat) (h5 : jr Z v0 5 = some u5) (k5 : jk Z u5 14) (hX : jr Z v0 2 = some uX) (kX : jk Z uX 14) (hR : jr Z v0 1 = some uR) (kR : jk Z uR 14) (hE : jr Z v0 17 = some uE) (kE : jk Z uE 14) (hn : (I v0 0).toInt = (n : Int)) (n24 : n ≤ 24) (hp : ∀ z, z < 8 * n → 0 ≤ (I u5 z).toInt ∧ (I u5 z).toInt ≤ 720) (hs : ∀ s, s < n → shS (wtS (I u5) s) 8 = 720) : f_X12_mends v0 v1 Z I L (fun r I' _ => MEe (I v0 0).toInt (I u5) v1 r (I uE) (I' uE)) := by
  unfold f_X12_mends
  intro I1 e1
  have w1 : WD Z I1 := by rw [e1]; exact WD_putF w 12 22 kv0 (by decide) (by decide) trivial
  have f1 : FR [(12, 22)] Z I Z I1 := by rw [e1]; exact FR_putF kv0 (by decide) List.mem_cons_self
  have y5 : I1 u5 = I u5 := f1.2.2.2 v0 12 5 u5 kv0 h5 (by rw [k5.2]; rfl) rfl (by decide)
  have yE : I1 uE = I uE := f1.2.2.2 v0 12 17 uE kv0 hE (by rw [kE.2]; rfl) rfl (by decide)
  have s0 : I1 v0 0 = I v0 0 := f1.2.2.1 v0 12 0 kv0 (by decide) (by decide)
  refine s_X12_isStep w1 v0 v1 kv0 (fun r p => ?_)
  rw [s0] at p
  refine ⟨fun c => ?_, fun c => Or.inl ⟨by have c := yz c; omega, fun f _ => by rw [yE]⟩⟩
  have c := nz c
  have n1 := i_nat (x := v1) rfl (by omega)
  intro b hb; cases hX.symm.trans hb
  refine ⟨vi_of rfl (by omega) (by omega), ?_⟩
  intro b hb; cases hR.symm.trans hb
  refine ⟨vi_of rfl (by omega) (by omega), ?_⟩
  intro x16 e16
  have rg := me_rng e16 (w1.arr 12 2 kv0 hX kX rfl rfl _) (w1.arr 12 1 kv0 hR kR rfl rfl _)
  refine r_X12_earn w1 v0 kv0 u5 uE h5 hE n (by rw [s0]; exact hn) n24 v1 x16 (-1) x16.toInt rfl rg v1.toInt.toNat (by omega) (by omega) (fun z hz => by rw [y5]; exact hp z hz) (by rw [y5]; exact hs _ (by omega)) (fun I2 L2 w2 f2 hl => ?_)
  rw [yE, y5] at hl
  intro b hb; cases hX.symm.trans hb
  refine ⟨vi_of rfl (by omega) (by omega), ?_⟩
  intro I26 e26
  refine Or.inr ⟨by omega, ?_⟩
  have f26 : FR [(12, 2)] Z I2 Z I26 := by rw [e26]; exact FR_upA w2.2.1 kv0 hX kX rfl rfl List.mem_cons_self
  rw [f26.2.2.2 v0 12 17 uE kv0 hE (by rw [kE.2]; rfl) rfl (by decide)]
  exact hl
/-- earned -/
def EAd (v : Int32) (E : Nat → Int32) (r : Int32) : Prop := ((0 ≤ v.toInt ∧ v.toInt ≤ 7) ∧ r = E v.toNatClampNeg) ∨ (¬ (0 ≤ v.toInt ∧ v.toInt ≤ 7) ∧ r.toInt = -1)
theorem EAd_eq {v r q : Int32} {E G : Nat → Int32} (h : EAd v E r) (g : EAd v G q) (a : ARr 8 E G) : r.toInt = q.toInt := by
  rcases h with ⟨h1, h2⟩ | ⟨h1, h2⟩
  · rcases g with ⟨g1, g2⟩ | ⟨g1, g2⟩
    · have n1 := i_nat (x := v) rfl h1.1
      rw [h2, g2, a v.toNatClampNeg (by omega)]
    · exact absurd h1 g1
  · rcases g with ⟨g1, g2⟩ | ⟨g1, g2⟩
    · exact absurd g1 h1
    · rw [h2, g2]
theorem e18_X11_earned {Z : jZ} {I : jI} {L : jL} (w : WD Z I) (v0 : Nat) (v1 : Int32) (kv0 : jk Z v0 11) (uE : Nat) (hE : jr Z v0 5 = some uE) {Q : Int32 → jI → jL → Prop} (hQ : ∀ (r : Int32) (I' : jI) (L' : jL), WD Z I' → FR Ws_X11_earned Z I Z I' → EAd v1 (I uE) r → Q r I' L') : f_X11_earned v0 v1 Z I L Q := by
  obtain ⟨x, ex, kE, -⟩ := sh_f w.1 kv0 (j := 5) (k := 14) (m := 8) rfl
  cases hE.symm.trans ex
  unfold f_X11_earned
  refine s_X11_isFamily w v1 (fun r hr => ⟨fun c => ?_, fun c => hQ _ I L w FR.rf (Or.inr ⟨by have c := yz c; omega, rfl⟩)⟩)
  have c := nz c
  obtain ⟨uF, hF, kF⟩ := sh_o w.1 kv0 (j := 2) (k := 8) rfl
  obtain ⟨uP, hP, kP⟩ := sh_o w.1 kF (j := 4) (k := 4) rfl
  intro b hb; cases hF.symm.trans hb
  intro b hb; cases hP.symm.trans hb
  refine s_X4_sumOf w uP v1 kP (fun r2 => ?_)
  refine s_X11_tellOne w v0 _ kv0 (fun I2 L2 w2 f2 => ?_)
  intro b hb; cases hE.symm.trans hb
  refine ⟨vi_of rfl (by omega) (by omega), ?_⟩
  have y : I2 uE = I uE := f2.2.2.2 v0 11 5 uE kv0 hE (by rw [kE.2]; rfl) rfl (by decide)
  rw [y]
  exact hQ _ I2 L2 w2 (f2.mono (by decide)) (Or.inl ⟨by omega, rfl⟩)
theorem e18_L18 {Z : jZ} {I0 : jI} (w0 : WD Z I0) (v0 : Nat) (v1 : Int32) (kv0 : jk Z v0 12) (uE : Nat) (hE : jr Z v0 17 = some uE) (kE : jk Z uE 14) {Q : Int32 → jI → jL → Prop} (hQ : ∀ (r : Int32) (I' : jI) (L' : jL), WD Z I' → FR Ws_X12_earned Z I0 Z I' → r = I0 uE v1.toNatClampNeg → Q r I' L') (hv : 0 ≤ v1.toInt ∧ v1.toInt ≤ 7) :
    ∀ (n : Nat) (v2 v3 : Int32) (I : jI) (L : jL), WD Z I → FR Ws_X12_earned Z I0 Z I → (0 ≤ v3.toInt ∧ v3.toInt ≤ 24) → 24 - v3.toInt < (n : Int) → f_X12_earned_L18 Z Q n v0 v1 v2 v3 I L := by
  have z0 : (0 : Int32).toInt = 0 := rfl
  have z1 : (1 : Int32).toInt = 1 := rfl
  have z8 : (8 : Int32).toInt = 8 := rfl
  intro n
  induction n with
  | zero => intro v2 v3 I L w f h3 hk; omega
  | succ n ih =>
    intro v2 v3 I L w f h3 hk
    have rn : 0 ≤ (I v0 0).toInt ∧ (I v0 0).toInt ≤ 24 := w.fld 12 0 kv0 (by decide)
    have yE : I uE = I0 uE := f.2.2.2 v0 12 17 uE kv0 hE (by rw [kE.2]; rfl) rfl (by decide)
    unfold f_X12_earned_L18
    refine ⟨fun c => ?_, fun c => ?_⟩
    · intro I2 e2
      have w2 : WD Z I2 := by rw [e2]; exact WD_putF w 12 21 kv0 (by decide) (by decide) (by constructor <;> decide)
      have f2 : FR [(12, 21)] Z I Z I2 := by rw [e2]; exact FR_putF kv0 (by decide) List.mem_cons_self
      refine s_X12_tell w2 v0 _ kv0 (by rw [e2, jpI_at]; decide) (fun I5 L5 w5 f5 _ => ?_)
      intro b hb; cases hE.symm.trans hb
      refine ⟨vi_of rfl (by omega) (by omega), ?_⟩
      refine hQ _ I5 L5 w5 ((f.trans w0.1 w0.2.1 (f2.mono (by decide))).trans w0.1 w0.2.1 (f5.mono (by decide))) ?_
      rw [f5.2.2.2 v0 12 17 uE kv0 hE (by rw [kE.2]; rfl) rfl (by decide), f2.2.2.2 v0 12 17 uE kv0 hE (by rw [kE.2]; rfl) rfl (by decide), yE]
    · have c := (not_congr (i_le rfl rfl)).mp c
      intro b hb
      have t : (((8 : Int32) * v3) + v1).toInt = 8 * v3.toInt + v1.toInt := i_add (i_mul z8 rfl (by omega) (by omega)) rfl (by omega) (by omega)
      refine ⟨vi_of t (by omega) (by omega), fun x13 e13 x14 e14 => ?_⟩
      have t14 : x14.toInt = v3.toInt + 1 := by rw [e14]; exact i_add rfl z1 (by omega) (by omega)
      exact ih x13 x14 I L w f (by omega) (by omega)
theorem e18_X12_earned {Z : jZ} {I : jI} {L : jL} (w : WD Z I) (v0 : Nat) (v1 : Int32) (kv0 : jk Z v0 12) (uE : Nat) (hE : jr Z v0 17 = some uE) {Q : Int32 → jI → jL → Prop} (hQ : ∀ (r : Int32) (I' : jI) (L' : jL), WD Z I' → FR Ws_X12_earned Z I Z I' → EAd v1 (I uE) r → Q r I' L') : f_X12_earned v0 v1 Z I L Q := by
  obtain ⟨x, ex, kE, -⟩ := sh_f w.1 kv0 (j := 17) (k := 14) (m := 8) rfl
  cases hE.symm.trans ex
  unfold f_X12_earned
  intro I1 e1
  have w1 : WD Z I1 := by rw [e1]; exact WD_putF w 12 22 kv0 (by decide) (by decide) trivial
  have f1 : FR Ws_X12_earned Z I Z I1 := by rw [e1]; exact FR_putF kv0 (by decide) (by decide)
  refine s_X12_isFamily w1 v1 (fun r hr => ⟨fun c => ?_, fun c => hQ _ I1 L w1 f1 (Or.inr ⟨by have c := yz c; omega, rfl⟩)⟩)
  have c := nz c
  have z0 : (0 : Int32).toInt = 0 := rfl
  refine ⟨25, e18_L18 w1 v0 v1 kv0 uE hE kE (fun r' I' L' w' f' h => hQ r' I' L' w' (f1.trans w.1 w.2.1 f') (Or.inl ⟨by omega, ?_⟩)) (by omega) 25 0 0 I1 L w1 FR.rf (by omega) (by omega)⟩
  rw [h, f1.2.2.2 v0 12 17 uE kv0 hE (by rw [kE.2]; rfl) rfl (by decide)]
theorem mj_X11_mends {v0 : Nat} {v1 : Int32} {Z : jZ} {I : jI} {L : jL} {Q2 Q3 : Int32 → jI → jL → Prop} (h2 : f_X11_mends v0 v1 Z I L Q2) (h1 : f_X11_mends v0 v1 Z I L (fun r I L => Q2 r I L → Q3 r I L)) : f_X11_mends v0 v1 Z I L Q3 := and_X11_mends h1 h2 (fun _ _ _ a b => a b)
theorem mj_X12_mends {v0 : Nat} {v1 : Int32} {Z : jZ} {I : jI} {L : jL} {Q2 Q3 : Int32 → jI → jL → Prop} (h2 : f_X12_mends v0 v1 Z I L Q2) (h1 : f_X12_mends v0 v1 Z I L (fun r I L => Q2 r I L → Q3 r I L)) : f_X12_mends v0 v1 Z I L Q3 := and_X12_mends h1 h2 (fun _ _ _ a b => a b)
/-- tread: the class's call, and what it promises of the reference's; what is EARNED besides -/
theorem SAM_treadE {B : Nat × Nat} {T : Nat} {L : jL} {Z : jZ} {I : jI} {v1 v2 uF uR uX uA uW uP x0 x1 u5c uFe uT uL0 uC0 uL1 uC1 uV p13 p14 : Nat} {vR vX vA vW v5 t6 t9 t10 t11 t12 t13 t29 t30 q0 q1 : Nat} {t14 t15 t16 uE u17 : Nat} (X : SAM Z I v1 v2 uF uR uX uA uW uP x0 x1 u5c uFe uT uL0 uC0 uL1 uC1 uV p13 p14 vR vX vA vW v5 t6 t9 t10 t11 t12 t13 t29 t30 q0 q1) (PL : PLB Z I v1 v2 uV t14 t15 t16) (h5 : jr Z v1 5 = some uE) (h17 : jr Z v2 17 = some u17) (h8 : ARr 8 (I uE) (I u17)) (bd : BUD B Z T) (a b : Int32) {Q : Int32 → jI → jL → Prop}
    (hQ : ∀ (r1 : Int32) (I1 : jI) (L1 : jL), WD Z I1 → FR Ws_X11_tread Z I Z I1 → (∀ (L : jL) (Q2 : Int32 → jZ → jI → jL → Prop), (∀ (r2 : Int32) (Z2 : jZ) (I2 : jI) (L2 : jL), r1.toInt = r2.toInt → WD Z2 I2 → BUD B Z2 T → FR Ws_X12_tread Z I1 Z2 I2 → CP Z Z2 → PLB Z2 I2 v1 v2 uV t14 t15 t16 → ARr 8 (I2 uE) (I2 u17) → Q2 r2 Z2 I2 L2) → f_X12_tread B v2 a b Z I1 L Q2) → Q r1 I1 L1) : f_X11_tread v1 a b Z I L Q := by
  have ok := X.ok
  obtain ⟨hc, hk, ha⟩ := X.cpl PL
  obtain ⟨g1, g2, g3, g4, g5⟩ := PP_wt X.pp
  have dn : dN (SAd Z I v1 uF uR uX uW x1 u5c uV t30 q0 q1) = (I v2 0).toInt.toNat := by
    show (I uF 9).toInt.toNat = _
    rw [X.sz]
  obtain ⟨x9, ex9, kE, -⟩ := sh_f X.w.1 X.k1 (j := 5) (k := 14) (m := 8) rfl
  cases h5.symm.trans ex9
  obtain ⟨x9, ex9, k17, -⟩ := sh_f X.w.1 X.k2 (j := 17) (k := 14) (m := 8) rfl
  cases h17.symm.trans ex9
  obtain ⟨x9, ex9, kv5, -⟩ := sh_f X.w.1 X.k2 (j := 5) (k := 14) (m := 192) rfl
  cases X.m5.symm.trans ex9
  have kP : jk Z uP 4 := (STc_k X.w X.S).2.2.2.2.1
  obtain ⟨x9, ex9, kx0, -⟩ := sh_f X.w.1 kP (j := 0) (k := 14) (m := 192) rfl
  cases X.hx0.symm.trans ex9
  have hcE : LDc Z I v1 uF uP x0 uE (dN (SAd Z I v1 uF uR uX uW x1 u5c uV t30 q0 q1)) := ⟨X.hF, X.S.2.2.2.2.2.1, kP, X.hx0, kx0, h5, kE, fun s f hs hf => g2 s f (by omega) hf, fun s hs => g3 s (by omega)⟩
  refine re_X11_tread X.cwd (I t14, I t15, I t16) (I t9) hc hk ha uP x0 uE hcE a b (fun r1 I1 L1 P1 ht te c1 w1 f1 => hQ r1 I1 L1 w1 f1 (fun L Q2 h2 => ?_))
  have Y1 := X.rfm.fr w1 f1 (by decide) (by decide)
  have R1 : RPL I1 t14 t15 t16 (dP (SAd Z I v1 uF uR uX uW x1 u5c uV t30 q0 q1)) (I t14, I t15, I t16) := RPL_fr f1 X.k2 PL.1 (by decide) (by decide) (by decide) (fun p _ => ⟨rfl, rfl, rfl⟩)
  have y5 : I1 v5 = I v5 := f1.2.2.2 v2 12 5 v5 X.k2 X.m5 (by rw [kv5.2]; rfl) rfl (by decide)
  have y17 : I1 u17 = I u17 := f1.2.2.2 v2 12 17 u17 X.k2 h17 (by rw [k17.2]; rfl) rfl (by decide)
  refine re_X12_tread Y1 ok bd (I t14, I t15, I t16) t14 t15 t16 PL.1 R1 ha u17 h17 (fun z hz => by rw [y5]; exact g4 z (by omega)) (fun s hs => by rw [y5]; exact g5 s (by omega)) a b (fun r2 Z2 I2 L2 P2 ht2 te2 c2 w2 bd2 f2 cp2 => ?_)
  obtain ⟨er, eP⟩ := TRd_fun ht ht2
  obtain ⟨a1, a2⟩ := X.pq (f1.mono (W' := Ws_X11_tread ++ Ws_X12_tread) (fun q hq => List.mem_append_left _ hq) |>.trans X.w.1 X.w.2.1 (f2.mono (fun q hq => List.mem_append_right _ hq))) (by decide)
  have C2 := CPL_fr (pc := fun p => (jr Z uV p).getD 0) f2 (fun p hp => (X.cwd.pil p hp).2.1) (by decide) (by decide) (by decide) c1
  rw [eP] at C2
  have n2 : (I2 v2 0).toInt = (dN (SAd Z I v1 uF uR uX uW x1 u5c uV t30 q0 q1) : Int) := by rw [f2.2.2.1 v2 12 0 X.k2 (by decide) (by decide)]; exact Y1.hn
  have eE : I2 uE = I1 uE := f2.2.2.2 v1 11 5 uE X.k1 h5 (by rw [kE.2]; rfl) rfl (by decide)
  have t8 := TEd_eq (fun s hs => by rw [y5]; exact g1 s (by omega)) er (fun f hf => by rw [y17]; exact h8 f (by omega)) te te2
  exact h2 r2 Z2 I2 L2 er w2 bd2 f2 cp2 (PLB_mk (RPr_x f2 X.k2 PL.1) a1 a2 C2 c2 (fun i hi => by have := (TRd_ok ht2 ha i hi).2; omega)) (fun s hs => by rw [eE]; exact t8 s (by omega))
/-- rests: the class's call, and what it promises of the reference's; what is EARNED besides -/
theorem SAM_restsE {B : Nat × Nat} {T : Nat} {L : jL} {Z : jZ} {I : jI} {v1 v2 uF uR uX uA uW uP x0 x1 u5c uFe uT uL0 uC0 uL1 uC1 uV p13 p14 : Nat} {vR vX vA vW v5 t6 t9 t10 t11 t12 t13 t29 t30 q0 q1 : Nat} {t14 t15 t16 uE u17 : Nat} (X : SAM Z I v1 v2 uF uR uX uA uW uP x0 x1 u5c uFe uT uL0 uC0 uL1 uC1 uV p13 p14 vR vX vA vW v5 t6 t9 t10 t11 t12 t13 t29 t30 q0 q1) (PL : PLB Z I v1 v2 uV t14 t15 t16) (h5 : jr Z v1 5 = some uE) (h17 : jr Z v2 17 = some u17) (h8 : ARr 8 (I uE) (I u17)) (bd : BUD B Z T) (a b : Int32) {Q : Int32 → jI → jL → Prop}
    (hQ : ∀ (r1 : Int32) (I1 : jI) (L1 : jL), WD Z I1 → FR Ws_X11_rests Z I Z I1 → (∀ (L : jL) (Q2 : Int32 → jZ → jI → jL → Prop), (∀ (r2 : Int32) (Z2 : jZ) (I2 : jI) (L2 : jL), r1.toInt = r2.toInt → WD Z2 I2 → BUD B Z2 T → FR Ws_X12_rests Z I1 Z2 I2 → CP Z Z2 → PLB Z2 I2 v1 v2 uV t14 t15 t16 → ARr 8 (I2 uE) (I2 u17) → Q2 r2 Z2 I2 L2) → f_X12_rests B v2 a b Z I1 L Q2) → Q r1 I1 L1) : f_X11_rests v1 a b Z I L Q := by
  have ok := X.ok
  obtain ⟨hc, hk, ha⟩ := X.cpl PL
  obtain ⟨g1, g2, g3, g4, g5⟩ := PP_wt X.pp
  have dn : dN (SAd Z I v1 uF uR uX uW x1 u5c uV t30 q0 q1) = (I v2 0).toInt.toNat := by
    show (I uF 9).toInt.toNat = _
    rw [X.sz]
  obtain ⟨x9, ex9, kE, -⟩ := sh_f X.w.1 X.k1 (j := 5) (k := 14) (m := 8) rfl
  cases h5.symm.trans ex9
  obtain ⟨x9, ex9, k17, -⟩ := sh_f X.w.1 X.k2 (j := 17) (k := 14) (m := 8) rfl
  cases h17.symm.trans ex9
  obtain ⟨x9, ex9, kv5, -⟩ := sh_f X.w.1 X.k2 (j := 5) (k := 14) (m := 192) rfl
  cases X.m5.symm.trans ex9
  have kP : jk Z uP 4 := (STc_k X.w X.S).2.2.2.2.1
  obtain ⟨x9, ex9, kx0, -⟩ := sh_f X.w.1 kP (j := 0) (k := 14) (m := 192) rfl
  cases X.hx0.symm.trans ex9
  have hcE : LDc Z I v1 uF uP x0 uE (dN (SAd Z I v1 uF uR uX uW x1 u5c uV t30 q0 q1)) := ⟨X.hF, X.S.2.2.2.2.2.1, kP, X.hx0, kx0, h5, kE, fun s f hs hf => g2 s f (by omega) hf, fun s hs => g3 s (by omega)⟩
  refine re_X11_rests X.cwd (I t14, I t15, I t16) (I t9) hc hk ha uP x0 uE hcE a b (fun r1 I1 L1 P1 ht te c1 w1 f1 => hQ r1 I1 L1 w1 f1 (fun L Q2 h2 => ?_))
  have Y1 := X.rfm.fr w1 f1 (by decide) (by decide)
  have R1 : RPL I1 t14 t15 t16 (dP (SAd Z I v1 uF uR uX uW x1 u5c uV t30 q0 q1)) (I t14, I t15, I t16) := RPL_fr f1 X.k2 PL.1 (by decide) (by decide) (by decide) (fun p _ => ⟨rfl, rfl, rfl⟩)
  have y5 : I1 v5 = I v5 := f1.2.2.2 v2 12 5 v5 X.k2 X.m5 (by rw [kv5.2]; rfl) rfl (by decide)
  have y17 : I1 u17 = I u17 := f1.2.2.2 v2 12 17 u17 X.k2 h17 (by rw [k17.2]; rfl) rfl (by decide)
  obtain ⟨x9, ex9, k9, -⟩ := sh_f X.w.1 X.k2 (j := 9) (k := 14) (m := 6) rfl
  cases X.m9.symm.trans ex9
  have a9 : I1 t9 = I t9 := f1.2.2.2 v2 12 9 t9 X.k2 X.m9 (by rw [k9.2]; rfl) rfl (by decide)
  refine re_X12_rests Y1 ok bd (I t14, I t15, I t16) t14 t15 t16 PL.1 R1 ha (I t9) (fun p _ => by rw [a9]) u17 h17 (fun z hz => by rw [y5]; exact g4 z (by omega)) (fun s hs => by rw [y5]; exact g5 s (by omega)) a b (fun r2 Z2 I2 L2 P2 ht2 te2 c2 w2 bd2 f2 cp2 => ?_)
  obtain ⟨er, eP⟩ := RSQd_fun ht ht2
  obtain ⟨a1, a2⟩ := X.pq (f1.mono (W' := Ws_X11_rests ++ Ws_X12_rests) (fun q hq => List.mem_append_left _ hq) |>.trans X.w.1 X.w.2.1 (f2.mono (fun q hq => List.mem_append_right _ hq))) (by decide)
  have C2 := CPL_fr (pc := fun p => (jr Z uV p).getD 0) f2 (fun p hp => (X.cwd.pil p hp).2.1) (by decide) (by decide) (by decide) c1
  rw [eP] at C2
  have n2 : (I2 v2 0).toInt = (dN (SAd Z I v1 uF uR uX uW x1 u5c uV t30 q0 q1) : Int) := by rw [f2.2.2.1 v2 12 0 X.k2 (by decide) (by decide)]; exact Y1.hn
  have eE : I2 uE = I1 uE := f2.2.2.2 v1 11 5 uE X.k1 h5 (by rw [kE.2]; rfl) rfl (by decide)
  have t8 := REe_eq (fun s hs => by rw [y5]; exact g1 s (by omega)) er (fun f hf => by rw [y17]; exact h8 f (by omega)) te te2
  exact h2 r2 Z2 I2 L2 er w2 bd2 f2 cp2 (PLB_mk (RPr_x f2 X.k2 PL.1) a1 a2 C2 c2 (fun i hi => by have := (RSQd_ok ht2 ha i hi).2; omega)) (fun s hs => by rw [eE]; exact t8 s (by omega))
