/-! ===== what climbs of all PILGRIMS cost together ===== -/
def dCl (D : DAT) (a : Nat → Int32) (ld : Int) : Nat → Nat → Int := CCp (PRa D a) ld
def dEl (D : DAT) (ld : Int) : Nat → Nat → Int := EEp (Hn (dR D) (dN D)) (Hn (dS D) (dN D)) ld
theorem dCl_rng {D : DAT} {a : Nat → Int32} {ld : Int} (ha : aOK a) : ∀ q f, 0 ≤ dCl D a ld q f ∧ dCl D a ld q f ≤ 297 := CCp_rng (PRa_rng ha)
theorem dEl_rng {D : DAT} {ld : Int} (h : DOK D) (hl : 0 ≤ ld ∧ ld ≤ 50) : ∀ q f, 0 ≤ dEl D ld q f ∧ dEl D ld q f ≤ 600 := EEp_rng (Hn_rng (by omega) h.2.2.1) (Hn_rng (by omega) h.2.2.2.1) hl
/-- pilgrim p with load ld and vow vw, step cl being shut, can't climb; its least climb -/
def NCd (D : DAT) (a : Nat → Int32) (cl : Int) (vw : Int32) (ld : Int) (p : Nat) : Prop := ∀ m c e b, ¬ FEA (dLp D p) (dN D) (opF vw (dMn D) cl) (dCl D a ld) (dEl D ld) (dKn D p) (dPu D p) m c e b
def LCd (D : DAT) (a : Nat → Int32) (cl : Int) (vw : Int32) (ld : Int) (p m : Nat) (c e b : Int) : Prop := LST (dLp D p) (dN D) (opF vw (dMn D) cl) (dCl D a ld) (dEl D ld) (dKn D p) (dPu D p) m c e b
/-- whether it climbs (x), its cost, its effort -/
def OCd (D : DAT) (a : Nat → Int32) (cl : Int) (vw : Int32) (ld : Int) (p : Nat) (x c e : Int) : Prop := (x = 0 ∧ c = 0 ∧ e = 0 ∧ NCd D a cl vw ld p) ∨ (x = 1 ∧ ∃ m b, LCd D a cl vw ld p m c e b)
theorem OCd_fun {D : DAT} {a : Nat → Int32} {cl : Int} {vw : Int32} {ld : Int} {p : Nat} {x c e x' c' e' : Int} (h : DOK D) (hp : p < dP D) (ha : aOK a) (hl : 0 ≤ ld ∧ ld ≤ 50) (h1 : OCd D a cl vw ld p x c e) (h2 : OCd D a cl vw ld p x' c' e') : x = x' ∧ c = c' ∧ e = e' := by
  have hk := (h.2.2.2.2 p hp).2.2.1
  rcases h1 with ⟨q1, q2, q3, n1⟩ | ⟨q1, m, b, l1⟩
  · rcases h2 with ⟨r1, r2, r3, n2⟩ | ⟨r1, m', b', l2⟩
    · exact ⟨q1.trans r1.symm, q2.trans r2.symm, q3.trans r3.symm⟩
    · exact absurd l2.1 (n1 _ _ _ _)
  · rcases h2 with ⟨r1, r2, r3, n2⟩ | ⟨r1, m', b', l2⟩
    · exact absurd l1.1 (n2 _ _ _ _)
    · obtain ⟨-, s2, s3, -⟩ := LST_one h.1 (dCl_rng ha) (dEl_rng h hl) (by omega) l1 l2
      exact ⟨q1.trans r1.symm, s2, s3⟩
theorem OCd_rng {D : DAT} {a : Nat → Int32} {cl : Int} {vw : Int32} {ld : Int} {p : Nat} {x c e : Int} (h : DOK D) (hp : p < dP D) (ha : aOK a) (hl : 0 ≤ ld ∧ ld ≤ 50) (h1 : OCd D a cl vw ld p x c e) : (0 ≤ x ∧ x ≤ 1) ∧ (0 ≤ c ∧ c ≤ 999) ∧ 0 ≤ e ∧ e ≤ 120 := by
  have hk := (h.2.2.2.2 p hp).2.2
  rcases h1 with ⟨q1, q2, q3, n1⟩ | ⟨q1, m, b, ⟨l1, l2, l3⟩, -⟩
  · omega
  · have := PX_rng h.1 (dCl_rng ha) (dEl_rng h hl) l1
    omega
/-- how many climb, what they pay, their efforts -/
def ALd (D : DAT) (a : Nat → Int32) (cl x c e : Int) : Prop := (dN D = 0 ∧ x = 0 ∧ c = 0 ∧ e = 0) ∨ (1 ≤ dN D ∧ ∃ f g h : Nat → Int, (∀ p, p < dP D → OCd D a cl (dVw D p) (dLd D p) p (f p) (g p) (h p)) ∧ x = smN f (dP D) ∧ c = smN g (dP D) ∧ e = smN h (dP D))
theorem ALd_fun {D : DAT} {a : Nat → Int32} {cl x c e x' c' e' : Int} (d : DOK D) (ha : aOK a) (h1 : ALd D a cl x c e) (h2 : ALd D a cl x' c' e') : x = x' ∧ c = c' ∧ e = e' := by
  rcases h1 with ⟨n0, q1, q2, q3⟩ | ⟨n1, f, g, h, q, q1, q2, q3⟩
  · rcases h2 with ⟨-, r1, r2, r3⟩ | ⟨n1, -⟩
    · exact ⟨q1.trans r1.symm, q2.trans r2.symm, q3.trans r3.symm⟩
    · omega
  · rcases h2 with ⟨n0, -⟩ | ⟨-, f', g', h', q', r1, r2, r3⟩
    · omega
    · have k := fun p hp => OCd_fun d hp ha (d.2.2.2.2 p hp).2.1 (q p hp) (q' p hp)
      exact ⟨by rw [q1, r1]; exact smN_cong _ (fun p hp => (k p hp).1), by rw [q2, r2]; exact smN_cong _ (fun p hp => (k p hp).2.1), by rw [q3, r3]; exact smN_cong _ (fun p hp => (k p hp).2.2)⟩
theorem ALd_rng {D : DAT} {a : Nat → Int32} {cl x c e : Int} (d : DOK D) (ha : aOK a) (h1 : ALd D a cl x c e) : (0 ≤ x ∧ x ≤ 6) ∧ (0 ≤ c ∧ c ≤ 5994) ∧ 0 ≤ e ∧ e ≤ 720 := by
  have p6 := d.2.1
  rcases h1 with ⟨n0, q1, q2, q3⟩ | ⟨n1, f, g, h, q, q1, q2, q3⟩
  · omega
  · have k := fun p hp => OCd_rng d hp ha (d.2.2.2.2 p hp).2.1 (q p hp)
    have r1 := smN_rng (f := f) (m := 1) (dP D) (fun p hp => (k p hp).1)
    have r2 := smN_rng (f := g) (m := 999) (dP D) (fun p hp => (k p hp).2.1)
    have r3 := smN_rng (f := h) (m := 120) (dP D) (fun p hp => (k p hp).2.2)
    omega
/-- of the first p pilgrims -/
def ALp (D : DAT) (a : Nat → Int32) (cl : Int) (p : Nat) (x c e : Int) : Prop := ∃ f g h : Nat → Int, (∀ q, q < p → OCd D a cl (dVw D q) (dLd D q) q (f q) (g q) (h q)) ∧ x = smN f p ∧ c = smN g p ∧ e = smN h p
theorem ALp_0 {D : DAT} {a : Nat → Int32} {cl : Int} : ALp D a cl 0 0 0 0 := ⟨fun _ => 0, fun _ => 0, fun _ => 0, fun q hq => absurd hq (Nat.not_lt_zero q), rfl, rfl, rfl⟩
theorem ALp_s {D : DAT} {a : Nat → Int32} {cl : Int} {p : Nat} {x c e x1 c1 e1 : Int} (h : ALp D a cl p x c e) (o : OCd D a cl (dVw D p) (dLd D p) p x1 c1 e1) : ALp D a cl (p + 1) (x + x1) (c + c1) (e + e1) := by
  obtain ⟨f, g, h, q, q1, q2, q3⟩ := h
  refine ⟨fun i => if i = p then x1 else f i, fun i => if i = p then c1 else g i, fun i => if i = p then e1 else h i, fun i hi => ?_, ?_, ?_, ?_⟩
  · by_cases c9 : i = p
    · subst c9
      simp only [if_true]
      exact o
    · simp only [if_neg c9]
      exact q i (by omega)
  · rw [smN_upd, q1]
  · rw [smN_upd, q2]
  · rw [smN_upd, q3]
theorem ALp_rng {D : DAT} {a : Nat → Int32} {cl : Int} {p : Nat} {x c e : Int} (d : DOK D) (ha : aOK a) (hp : p ≤ dP D) (h1 : ALp D a cl p x c e) : (0 ≤ x ∧ x ≤ 6) ∧ (0 ≤ c ∧ c ≤ 5994) ∧ 0 ≤ e ∧ e ≤ 720 := by
  have p6 := d.2.1
  obtain ⟨f, g, h, q, q1, q2, q3⟩ := h1
  have k := fun i (hi : i < p) => OCd_rng d (by omega) ha (d.2.2.2.2 i (by omega)).2.1 (q i hi)
  have r1 := smN_rng (f := f) (m := 1) p (fun i hi => (k i hi).1)
  have r2 := smN_rng (f := g) (m := 999) p (fun i hi => (k i hi).2.1)
  have r3 := smN_rng (f := h) (m := 120) p (fun i hi => (k i hi).2.2)
  omega
/-- the data with other STATES, feuds, VOWS, LOADS -/
def set4 (D : DAT) (S : Nat → Int32) (X : Int → Int → Int32) (V : Nat → Int32) (L : Nat → Int) : DAT := (D.1, (D.2.1.1, S, D.2.1.2.2), X, D.2.2.2.1, (D.2.2.2.2.1.1, V, D.2.2.2.2.1.2.2), (L, D.2.2.2.2.2.2))
theorem DOK_4 {D : DAT} {S : Nat → Int32} {X : Int → Int → Int32} {V : Nat → Int32} {L : Nat → Int} (d : DOK D) (hS : ∀ k, k < dN D → 0 ≤ (S k).toInt ∧ (S k).toInt ≤ 9) (hL : ∀ p, p < dP D → 0 ≤ L p ∧ L p ≤ 50) : DOK (set4 D S X V L) := ⟨d.1, d.2.1, d.2.2.1, hS, fun p hp => ⟨(d.2.2.2.2 p hp).1, hL p hp, (d.2.2.2.2 p hp).2.2⟩⟩
/-- what is told of two sums -/
def DFd (x c e x' c' e' r : Int) : Prop := (r = 0 ∧ x' = x ∧ c' = c ∧ e' = e) ∨ (r = 1 ∧ ¬ (x' = x ∧ c' = c ∧ e' = e))
theorem DFd_fun {x c e x' c' e' r y d f y' d' f' r' : Int} (h : DFd x c e x' c' e' r) (h' : DFd y d f y' d' f' r') (e1 : x = y ∧ c = d ∧ e = f) (e2 : x' = y' ∧ c' = d' ∧ e' = f') : r = r' := by
  unfold DFd at h h'
  omega
def updS (D : DAT) (s : Nat) : DAT := set4 D (updA (dS D) s 9) (dX D) (dVw D) (dLd D)
theorem DOK_S {D : DAT} {s : Nat} (d : DOK D) : DOK (updS D s) := DOK_4 d (fun k hk => by
  unfold updA
  by_cases c : k = s
  · rw [if_pos c]
    decide
  · rw [if_neg c]
    exact d.2.2.2.1 k hk) (fun p hp => (d.2.2.2.2 p hp).2.1)
/-- were step v1 whole, shut: 1, if something is told otherwise -/
def WHd (D : DAT) (a : Nat → Int32) (v1 : Int32) (r : Int) : Prop := (¬ (0 ≤ v1.toInt ∧ v1.toInt < (dN D : Int)) ∧ r = -1) ∨ ((0 ≤ v1.toInt ∧ v1.toInt < (dN D : Int)) ∧ ∃ x c e x' c' e', ALd D a (-1) x c e ∧ ALd (updS D v1.toInt.toNat) a (-1) x' c' e' ∧ DFd x c e x' c' e' r)
def SHd (D : DAT) (a : Nat → Int32) (v1 : Int32) (r : Int) : Prop := (¬ (0 ≤ v1.toInt ∧ v1.toInt < (dN D : Int)) ∧ r = -1) ∨ ((0 ≤ v1.toInt ∧ v1.toInt < (dN D : Int)) ∧ ∃ x c e x' c' e', ALd D a (-1) x c e ∧ ALd D a v1.toInt x' c' e' ∧ DFd x c e x' c' e' r)
theorem WHd_fun {D : DAT} {a : Nat → Int32} {v1 : Int32} {r r' : Int} (d : DOK D) (ok : aOK a) (h : WHd D a v1 r) (h' : WHd D a v1 r') : r = r' := by
  rcases h with ⟨n, e⟩ | ⟨y, x1, x2, x3, x4, x5, x6, h1, h2, h3⟩
  · rcases h' with ⟨-, e'⟩ | ⟨y', -⟩
    · exact e.trans e'.symm
    · exact absurd y' n
  · rcases h' with ⟨n, -⟩ | ⟨-, y1, y2, y3, y4, y5, y6, g1, g2, g3⟩
    · exact absurd y n
    · exact DFd_fun h3 g3 (ALd_fun d ok h1 g1) (ALd_fun (DOK_S d) ok h2 g2)
theorem SHd_fun {D : DAT} {a : Nat → Int32} {v1 : Int32} {r r' : Int} (d : DOK D) (ok : aOK a) (h : SHd D a v1 r) (h' : SHd D a v1 r') : r = r' := by
  rcases h with ⟨n, e⟩ | ⟨y, x1, x2, x3, x4, x5, x6, h1, h2, h3⟩
  · rcases h' with ⟨-, e'⟩ | ⟨y', -⟩
    · exact e.trans e'.symm
    · exact absurd y' n
  · rcases h' with ⟨n, -⟩ | ⟨-, y1, y2, y3, y4, y5, y6, g1, g2, g3⟩
    · exact absurd y n
    · exact DFd_fun h3 g3 (ALd_fun d ok h1 g1) (ALd_fun d ok h2 g2)
/-! what a step may ask, and as many climb -/
theorem PYd_OC {D : DAT} {a : Nat → Int32} {s p : Nat} {pay cl : Int} (h : PYd D a s p pay cl) : ∃ c e, OCd D a (-1) (dVw D p) (dLd D p) p cl c e := by
  rcases h with ⟨n1, e1, e2⟩ | ⟨m, c, e, b, fr, to, l1, p1, e1, e2⟩
  · exact ⟨0, 0, Or.inl ⟨e2, rfl, rfl, n1⟩⟩
  · exact ⟨c, e, Or.inr ⟨e2, m, b, l1⟩⟩
theorem TOT_AL {D : DAT} {a : Nat → Int32} {s : Nat} {tot cl : Int} (hn : 1 ≤ dN D) (h : TOT D a s tot cl) : ∃ c e, ALd D a (-1) cl c e := by
  obtain ⟨f, g, q, e1, e2⟩ := h
  have key : ∀ k, k ≤ dP D → ∃ c e, ALp D a (-1) k (smN g k) c e := by
    intro k
    induction k with
    | zero => exact fun _ => ⟨0, 0, ALp_0⟩
    | succ k ih =>
      intro hk
      obtain ⟨c, e, h⟩ := ih (by omega)
      obtain ⟨c', e', o⟩ := PYd_OC (q k (by omega))
      exact ⟨c + c', e + e', ALp_s h o⟩
  obtain ⟨c, e, h⟩ := key (dP D) (Nat.le_refl _)
  exact ⟨c, e, Or.inr ⟨hn, by rw [e2]; exact h⟩⟩
def TLd (D : DAT) (a : Nat → Int32) (v1 : Int32) (r : Int) : Prop := (¬ (0 ≤ v1.toInt ∧ v1.toInt < (dN D : Int)) ∧ r = -1) ∨ ((0 ≤ v1.toInt ∧ v1.toInt < (dN D : Int)) ∧ ∃ v : Nat, v ≤ 20 ∧ r = (v : Int) ∧ ∃ x0, (∃ c e, ALd D (updA a v1.toInt.toNat (Int32.ofNat 0)) (-1) x0 c e) ∧ (∃ c e, ALd D (updA a v1.toInt.toNat (Int32.ofNat v)) (-1) x0 c e) ∧ ∀ w : Nat, v < w → w ≤ 20 → ∃ x c e, ALd D (updA a v1.toInt.toNat (Int32.ofNat w)) (-1) x c e ∧ ¬ x = x0)
theorem TLd_fun {D : DAT} {a : Nat → Int32} {v1 : Int32} {r r' : Int} (d : DOK D) (ok : aOK a) (h : TLd D a v1 r) (h' : TLd D a v1 r') : r = r' := by
  rcases h with ⟨n, e⟩ | ⟨y, v, v20, er, x0, ⟨c0, e0, h0⟩, ⟨c1, e1, h1⟩, h2⟩
  · rcases h' with ⟨-, e'⟩ | ⟨y', -⟩
    · exact e.trans e'.symm
    · exact absurd y' n
  · rcases h' with ⟨n, -⟩ | ⟨-, v', v20', er', x0', ⟨c0', e0', h0'⟩, ⟨c1', e1', h1'⟩, h2'⟩
    · exact absurd y n
    · have ex : x0 = x0' := (ALd_fun d (aOK_upd ok (by omega)) h0 h0').1
      rcases Nat.lt_trichotomy v v' with l | l | l
      · obtain ⟨x, c, e, g, n⟩ := h2 v' l v20'
        exact absurd ((ALd_fun d (aOK_upd ok (by omega)) g h1').1.trans ex.symm) n
      · rw [er, er', l]
      · obtain ⟨x, c, e, g, n⟩ := h2' v l v20
        exact absurd ((ALd_fun d (aOK_upd ok (by omega)) g h1).1.trans ex) n
/-- the greatest v up to k with f v = f 0 -/
def lstE (f : Nat → Int) : Nat → Nat
  | 0 => 0
  | k + 1 => if f (k + 1) = f 0 then k + 1 else lstE f k
theorem lstE_ok (f : Nat → Int) : ∀ k, lstE f k ≤ k ∧ f (lstE f k) = f 0 ∧ ∀ w, lstE f k < w → w ≤ k → ¬ f w = f 0 := by
  intro k
  induction k with
  | zero => exact ⟨Nat.le_refl _, rfl, fun w h1 h2 => by omega⟩
  | succ k ih =>
    obtain ⟨a, b, c⟩ := ih
    by_cases q : f (k + 1) = f 0
    · have e : lstE f (k + 1) = k + 1 := if_pos q
      rw [e]
      exact ⟨Nat.le_refl _, q, fun w h1 h2 => by omega⟩
    · have e : lstE f (k + 1) = lstE f k := if_neg q
      rw [e]
      refine ⟨by omega, b, fun w h1 h2 => ?_⟩
      by_cases q2 : w = k + 1
      · rw [q2]; exact q
      · exact c w h1 (by omega)
/-! ===== the class: one climb, all climbs ===== -/
theorem CWD.sqL {Z : jZ} {I : jI} {v0 v8 u0 u1 u2 u3 u4 u41 u5 u8 uL0 uC0 uL1 uC1 uP p13 p14 : Nat} {pc rc : Nat → Nat} {D : DAT} {a : Nat → Int32} (X : CWD Z I v0 v8 u0 u1 u2 u3 u4 u41 u5 u8 uL0 uC0 uL1 uC1 uP p13 p14 pc rc D a) (p : Nat) (hp : p < dP D) (ld : Int) (rl : 0 ≤ ld ∧ ld ≤ 50) : SQ Z I (rc p) v8 u0 u1 (dLp D p) (dN D) ld (PRa D a) (Hn (dR D) (dN D)) (Hn (dS D) (dN D)) := by
  have d := X.dok
  obtain ⟨a1, a2, a3, a4, a5⟩ := X.pil p hp
  obtain ⟨e1, e2, e3, e4, e5⟩ := X.piv p hp
  obtain ⟨q1, q2, q3, q4⟩ := d.2.2.2.2 p hp
  refine ⟨X.w, a4, X.S.1, a5, X.S.2.1, X.S.2.2.1, X.pr, PRa_rng X.ok, Hn_rng (by omega) d.2.2.1, Hn_rng (by omega) d.2.2.2.1, fun s hs => ?_, fun s hs => ?_, X.hn, e5, q1, d.1, rl⟩
  · rw [Hn_at hs, X.iR]
  · rw [Hn_at hs, X.iS]
/-- the class's word of a climb -/
def OCc (D : DAT) (a : Nat → Int32) (cl : Int) (vw : Int32) (ld : Int) (p : Nat) (r : Int64) : Prop := (r = (9223372036854775807 : Int64) ∧ NCd D a cl vw ld p) ∨ ∃ m c e b, LCd D a cl vw ld p m c e b ∧ r.toInt = kf m c e b
def Wlc : List (Nat × Nat) := [(3, 2), (6, 4), (6, 5), (6, 6), (6, 7), (6, 14), (6, 15), (7, 1), (7, 2), (7, 3), (7, 4), (7, 5), (7, 8), (7, 9), (8, 8)]
set_option maxHeartbeats 1000000 in
theorem lc_one {B : Nat × Nat} {T : Nat} {L : jL} {Z : jZ} {I : jI} {v0 v8 u0 u1 u2 u3 u4 u41 u5 u8 uL0 uC0 uL1 uC1 uP p13 p14 : Nat} {pc rc : Nat → Nat} {D : DAT} {a : Nat → Int32} (X : CWD Z I v0 v8 u0 u1 u2 u3 u4 u41 u5 u8 uL0 uC0 uL1 uC1 uP p13 p14 pc rc D a) (bd : BUD B Z T) (p : Nat) (hp : p < dP D) (v1 vw v3 : Int32) (ld cl : Int) (e1 : v1.toInt = ld) (rl : 0 ≤ ld ∧ ld ≤ 50) (e3 : v3.toInt = cl) {Q : Int64 → jZ → jI → jL → Prop}
    (hQ : ∀ (r : Int64) (Z' : jZ) (I' : jI) (L' : jL), WD Z' I' → BUD B Z' T → FR Wlc Z I Z' I' → CP Z Z' → CWD Z' I' v0 v8 u0 u1 u2 u3 u4 u41 u5 u8 uL0 uC0 uL1 uC1 uP p13 p14 pc rc D a → OCc D a cl vw ld p r → Q r Z' I' L') :
    f_X6_lay (rc p) v1 vw v3 Z I L (fun I1 L1 => ∀ b : Nat, jr Z (pc p) 8 = some b → f_X6_cheapest B b Z I1 L1 Q) := by
  have d := X.dok
  have ok := X.ok
  obtain ⟨-, -, g8, k6, -⟩ := X.pil p hp
  obtain ⟨l3, -, rK, rP⟩ := d.2.2.2.2 p hp
  refine r_X6_lay (X.sqL p hp ld rl) X.S.2.2.2.2.2.1 (dMn D) X.mnc v1 vw v3 cl e1 e3 (fun I1 L1 t4 t5 t6 t7 w1 f1 hL => ?_)
  obtain ⟨lu, hM, hu1, hu2⟩ := hL
  have X1 := X.fr w1 f1 (by decide) (by decide)
  obtain ⟨-, -, eK', eP', -⟩ := X1.piv p hp
  intro b hb; cases g8.symm.trans hb
  refine r_X6_cheapest_f w1 bd (rc p) k6 t4 t5 t6 t7 (dLp D p) (dN D) _ _ _ lu hM l3 d.1 (CCp_rng (PRa_rng ok)) (EEp_rng (Hn_rng (by omega) d.2.2.1) (Hn_rng (by omega) d.2.2.2.1) rl) (Or.inl rfl) hu1 hu2 (dKn D p) (dPu D p) eK' eP' (by omega) rP (fun r Z' I' L' w2 bd2 f2 cp2 hr => ?_)
  exact hQ r Z' I' L' w2 bd2 ((f1.mono (by decide)).trans X.w.1 X.w.2.1 (f2.mono (by decide))) cp2 (X1.fr w2 f2 (by decide) (by decide)) hr
theorem OCc_none {D : DAT} {a : Nat → Int32} {cl : Int} {vw : Int32} {ld : Int} {p : Nat} {r : Int64} (h : OCc D a cl vw ld p r) (d : DOK D) (ha : aOK a) (hl : 0 ≤ ld ∧ ld ≤ 50) (hp : p < dP D) (c : lg_cmp r (9223372036854775807 : Int64) = 0) : NCd D a cl vw ld p := by
  rcases h with ⟨-, h⟩ | ⟨m, c0, e, b, h, er⟩
  · exact h
  · have hk := (d.2.2.2.2 p hp).2.2
    obtain ⟨⟨l1, l2, l3⟩, -⟩ := h
    have := PX_rng d.1 (dCl_rng ha) (dEl_rng d hl) l1
    have e9 := (lg_cmp_eq _ _).mp c
    rw [e9] at er
    exfalso
    have z : (9223372036854775807 : Int64).toInt = 9223372036854775807 := by decide
    unfold kf at er
    omega
theorem OCc_some {D : DAT} {a : Nat → Int32} {cl : Int} {vw : Int32} {ld : Int} {p : Nat} {r : Int64} (h : OCc D a cl vw ld p r) (d : DOK D) (ha : aOK a) (hl : 0 ≤ ld ∧ ld ≤ 50) (hp : p < dP D) (c : ¬ lg_cmp r (9223372036854775807 : Int64) = 0) : ∃ m c e b, LCd D a cl vw ld p m c e b ∧ r.toInt = kf m c e b ∧ 0 ≤ r.toInt ∧ cK r.toInt = c ∧ eK r.toInt = e ∧ (0 ≤ c ∧ c ≤ 999) ∧ 0 ≤ e ∧ e ≤ 120 := by
  rcases h with ⟨h, -⟩ | ⟨m, c0, e, b, h, er⟩
  · exact absurd ((lg_cmp_eq _ _).mpr h) c
  · have hk := (d.2.2.2.2 p hp).2.2
    have hh := h
    obtain ⟨⟨l1, l2, l3⟩, -⟩ := hh
    have g := PX_rng d.1 (dCl_rng ha) (dEl_rng d hl) l1
    refine ⟨m, c0, e, b, h, er, ?_, ?_, ?_, by omega, by omega, by omega⟩
    · rw [er]; unfold kf; omega
    · rw [er]; exact kf_cost g.1 (by omega) (by omega)
    · rw [er]; exact kf_eff g.1 (by omega) (by omega)
/-- the sums of the class -/
def SMc (I : jI) (v2 : Nat) (x c e : Int) : Prop := (I v2 0).toInt = x ∧ (I v2 1).toInt = c ∧ (I v2 2).toInt = e
theorem sm_j {j : Nat} (hj : j = 11 ∨ j = 12) : jsr 11 j = false ∧ (∀ i v, okA 11 j i v) ∧ (11, j) ∉ Wlc ∧ (∀ p ∈ Wk11, p ∉ [(11, j)]) ∧ (8, 2) ∉ [(11, j)] := by
  rcases hj with rfl | rfl
  · exact ⟨rfl, fun i v => trivial, by decide, by decide, by decide⟩
  · exact ⟨rfl, fun i v => trivial, by decide, by decide, by decide⟩
set_option maxHeartbeats 4000000 in
theorem su_L7 {B : Nat × Nat} {T : Nat} {Z0 : jZ} {I0 : jI} (w0 : WD Z0 I0) {v0 v8 u0 u1 u2 u3 u4 u41 u5 u8 uL0 uC0 uL1 uC1 uP p13 p14 : Nat} {pc rc : Nat → Nat} {D : DAT} {a : Nat → Int32} (v1 : Int32) (cl : Int) (e3 : v1.toInt = cl) (v2 j : Nat) (hj : j = 11 ∨ j = 12) (h2 : jr Z0 v0 j = some v2) (k2 : jk Z0 v2 14) (l2 : jlen Z0 v2 = 3) (kv0 : jk Z0 v0 11) {Q : jZ → jI → jL → Prop}
    (hQ : ∀ (Z' : jZ) (I' : jI) (L' : jL) (x c e : Int), ALd D a cl x c e → SMc I' v2 x c e → CWD Z' I' v0 v8 u0 u1 u2 u3 u4 u41 u5 u8 uL0 uC0 uL1 uC1 uP p13 p14 pc rc D a → BUD B Z' T → FR ((11, j) :: Wlc) Z0 I0 Z' I' → CP Z0 Z' → Q Z' I' L') :
    ∀ (k p : Nat) (v3 : Int32) (Z : jZ) (I : jI) (L : jL) (x c e : Int), dP D + 1 ≤ k + p → p ≤ dP D → v3.toInt = (p : Int) → (dN D = 0 → p = 0) → CWD Z I v0 v8 u0 u1 u2 u3 u4 u41 u5 u8 uL0 uC0 uL1 uC1 uP p13 p14 pc rc D a → BUD B Z T → FR ((11, j) :: Wlc) Z0 I0 Z I → CP Z0 Z → ALp D a cl p x c e → SMc I v2 x c e → f_X11_sumUp_L7 B Q k v0 v1 v2 v3 Z I L := by
  have z0 : (0 : Int32).toInt = 0 := rfl
  have z1 : (1 : Int32).toInt = 1 := rfl
  have q0 : (0 : Int32).toNatClampNeg = 0 := rfl
  have q1 : (1 : Int32).toNatClampNeg = 1 := rfl
  have q2 : (2 : Int32).toNatClampNeg = 2 := rfl
  obtain ⟨hs, okj, nj, nk, n82⟩ := sm_j hj
  intro k
  induction k with
  | zero => intro p v3 Z I L x c e hk hi; omega
  | succ k ih =>
    intro p v3 Z I L x c e hk hi ev3 hz X bd f0 cp0 hA hS
    have d := X.dok
    have ok := X.ok
    have p6 := d.2.1
    have n24 := d.1
    have kv := X.kv
    have h2' : jr Z v0 j = some v2 := (f0.2.1 v0 11 j kv0 (fun q => absurd q.1 (by decide)) (fun q => absurd q.1 (by decide))).trans h2
    have k2' : jk Z v2 14 := (f0.1 _ _ k2).1
    have nx : ∀ y : Int32, y = v3 + 1 → y.toInt = ((p + 1 : Nat) : Int) := fun y ey => by rw [ey]; exact (i_add ev3 z1 (by omega) (by omega)).trans (by omega)
    unfold f_X11_sumUp_L7
    refine ⟨fun c1 => ?_, fun c1 => ?_⟩
    · have c1 := (i_le X.hp ev3).mp c1
      have ep : p = dP D := by omega
      subst ep
      refine hQ Z I L x c e ?_ hS X bd f0 cp0
      by_cases n0 : dN D = 0
      · have p0 := hz n0
        obtain ⟨f, g, h, -, e1, e2, e3⟩ := hA
        rw [p0] at e1 e2 e3
        exact Or.inl ⟨n0, e1, e2, e3⟩
      · exact Or.inr ⟨by omega, hA⟩
    · have c1 := (not_congr (i_le X.hp ev3)).mp c1
      have hp : p < dP D := by omega
      intro b3 hb3; cases X.h2.symm.trans hb3
      refine ⟨fun c2 => ?_, fun c2 => ?_⟩
      · have c2 := (i_le X.hn z0).mp c2
        have n0 : dN D = 0 := by omega
        have p0 := hz n0
        obtain ⟨f, g, h, -, e1, e2, e3⟩ := hA
        rw [p0] at e1 e2 e3
        exact hQ Z I L x c e (Or.inl ⟨n0, e1, e2, e3⟩) hS X bd f0 cp0
      · have c2 := (not_congr (i_le X.hn z0)).mp c2
        refine X.find p hp v3 ev3 ⟨(fun q => by cases q), fun b hb' => ?_⟩
        cases hb'
        intro b h8; cases (X.pil p hp).2.2.1.symm.trans h8
        obtain ⟨e3p, e4p, -, -, -⟩ := X.piv p hp
        have rl := (d.2.2.2.2 p hp).2.1
        rw [e4p]
        refine lc_one X bd p hp (I (pc p) 3) (dVw D p) v1 (dLd D p) cl e3p rl e3 (fun r Z1 I1 L1 w1 bd1 f1 cp1 X1 hr => ?_)
        have h21 : jr Z1 v0 j = some v2 := (f1.2.1 v0 11 j kv (fun q => absurd q.1 (by decide)) (fun q => absurd q.1 (by decide))).trans h2'
        have k21 : jk Z1 v2 14 := (f1.1 _ _ k2').1
        have l21 : jlen Z1 v2 = 3 := (f1.1 _ _ k2').2.trans ((f0.1 _ _ k2).2.trans l2)
        have eA : I1 v2 = I v2 := f1.2.2.2 v0 11 j v2 kv h2' (by rw [k2'.2]; rfl) hs nj
        have f01 : FR ((11, j) :: Wlc) Z0 I0 Z1 I1 := f0.trans w0.1 w0.2.1 (f1.mono (fun q hq => List.mem_cons_of_mem _ hq))
        have cp01 := CP.trans f0.1 cp0 cp1
        obtain ⟨s0, s1, s2⟩ := hS
        have R := ALp_rng d ok (by omega) hA
        refine ⟨fun c3 => ?_, fun c3 => ?_⟩
        · have n := OCc_none hr d ok rl hp c3
          unfold f_X11_sumUp_b107
          intro y ey
          have hA1 := ALp_s hA (Or.inl ⟨rfl, rfl, rfl, n⟩)
          rw [Int.add_zero, Int.add_zero, Int.add_zero] at hA1
          exact ih (p + 1) y Z1 I1 L1 x c e (by omega) (by omega) (nx y ey) (fun n0 => by omega) X1 bd1 f01 cp01 hA1 ⟨by rw [eA]; exact s0, by rw [eA]; exact s1, by rw [eA]; exact s2⟩
        · obtain ⟨m, c', e', b', hl, er, r0, rc1, re1, bc, be⟩ := OCc_some hr d ok rl hp c3
          have vi : ∀ (v : Int32) (n : Nat), v.toInt = (n : Int) → n < 3 → vp_in v (jlen Z1 v2) := fun v n hv hn => by rw [l21]; exact vi_of hv (by omega) (by omega)
          refine ⟨vi 0 0 z0 (by omega), vi 0 0 z0 (by omega), fun I3 e3' => ⟨vi 1 1 z1 (by omega), c_costIn rfl r0 (fun rk hk => ⟨vi 1 1 z1 (by omega), fun I4 e4' => ⟨vi 2 2 rfl (by omega), c_effortIn rfl r0 (fun rf hf => ⟨vi 2 2 rfl (by omega), fun I5 e5' => ?_⟩)⟩⟩)⟩⟩
          rw [q0] at e3'; rw [q1] at e4'; rw [q2] at e5'
          have w3 : WD Z1 I3 := by rw [e3']; exact WD_putA w1 11 j X1.kv h21 k21 rfl hs (by decide) (okj _ _)
          have w4 : WD Z1 I4 := by rw [e4']; exact WD_putA w3 11 j X1.kv h21 k21 rfl hs (by decide) (okj _ _)
          have w5 : WD Z1 I5 := by rw [e5']; exact WD_putA w4 11 j X1.kv h21 k21 rfl hs (by decide) (okj _ _)
          have f3 : FR [(11, j)] Z1 I1 Z1 I3 := by rw [e3']; exact FR_upA w1.2.1 X1.kv h21 k21 rfl hs List.mem_cons_self
          have f4 : FR [(11, j)] Z1 I3 Z1 I4 := by rw [e4']; exact FR_upA w3.2.1 X1.kv h21 k21 rfl hs List.mem_cons_self
          have f5 : FR [(11, j)] Z1 I4 Z1 I5 := by rw [e5']; exact FR_upA w4.2.1 X1.kv h21 k21 rfl hs List.mem_cons_self
          have f15 : FR [(11, j)] Z1 I1 Z1 I5 := (f3.trans w1.1 w1.2.1 f4).trans w1.1 w1.2.1 f5
          unfold f_X11_sumUp_b107
          intro y ey
          refine ih (p + 1) y Z1 I5 L1 (x + 1) (c + c') (e + e') (by omega) (by omega) (nx y ey) (fun n0 => by omega) (X1.fr w5 f15 nk n82) bd1 (f01.trans w0.1 w0.2.1 (f15.mono (fun q hq => by rw [List.mem_singleton.mp hq]; exact List.mem_cons_self))) cp01 (ALp_s hA (Or.inr ⟨rfl, m, b', hl⟩)) ⟨?_, ?_, ?_⟩
          · rw [e5', jpI_off (by decide), e4', jpI_off (by decide), e3', jpI_at, eA]
            exact (i_add s0 z1 (by omega) (by omega)).trans rfl
          · rw [e5', jpI_off (by decide), e4', jpI_at, e3', jpI_off (by decide), eA]
            exact i_add s1 (hk.trans rc1) (by omega) (by omega)
          · rw [e5', jpI_at, e4', jpI_off (by decide), e3', jpI_off (by decide), eA]
            exact i_add s2 (hf.trans re1) (by omega) (by omega)
theorem r_X11_sumUp {B : Nat × Nat} {T : Nat} {L : jL} {Z : jZ} {I : jI} {v0 v8 u0 u1 u2 u3 u4 u41 u5 u8 uL0 uC0 uL1 uC1 uP p13 p14 : Nat} {pc rc : Nat → Nat} {D : DAT} {a : Nat → Int32} (X : CWD Z I v0 v8 u0 u1 u2 u3 u4 u41 u5 u8 uL0 uC0 uL1 uC1 uP p13 p14 pc rc D a) (bd : BUD B Z T) (v1 : Int32) (cl : Int) (e3 : v1.toInt = cl) (v2 j : Nat) (hj : j = 11 ∨ j = 12) (h2 : jr Z v0 j = some v2) (k2 : jk Z v2 14) (l2 : jlen Z v2 = 3) {Q : jZ → jI → jL → Prop}
    (hQ : ∀ (Z' : jZ) (I' : jI) (L' : jL) (x c e : Int), ALd D a cl x c e → SMc I' v2 x c e → CWD Z' I' v0 v8 u0 u1 u2 u3 u4 u41 u5 u8 uL0 uC0 uL1 uC1 uP p13 p14 pc rc D a → BUD B Z' T → FR ((11, j) :: Wlc) Z I Z' I' → CP Z Z' → Q Z' I' L') : f_X11_sumUp B v0 v1 v2 Z I L Q := by
  obtain ⟨hs, okj, nj, nk, n82⟩ := sm_j hj
  unfold f_X11_sumUp
  refine r_J7_fill_53178 X.w v2 v0 11 j 3 k2 X.kv h2 (by decide) hs l2 (by omega) 0 (fun i => okj i _) (fun I1 w1 f1 h1 => ?_)
  exact ⟨dP D + 1, su_L7 X.w v1 cl e3 v2 j hj h2 k2 l2 X.kv hQ (dP D + 1) 0 0 Z I1 L 0 0 0 (by omega) (by omega) rfl (fun _ => rfl) (X.fr w1 f1 nk n82) bd (f1.mono (fun q hq => by rw [List.mem_singleton.mp hq]; exact List.mem_cons_self)) CP.rf ALp_0 ⟨by rw [h1 0 (by omega)]; rfl, by rw [h1 1 (by omega)]; rfl, by rw [h1 2 (by omega)]; rfl⟩⟩
def Wal : List (Nat × Nat) := (11, 16) :: (11, 11) :: Wlc
theorem r_X11_all {B : Nat × Nat} {T : Nat} {L : jL} {Z : jZ} {I : jI} {v0 v8 u0 u1 u2 u3 u4 u41 u5 u8 uL0 uC0 uL1 uC1 uP p13 p14 : Nat} {pc rc : Nat → Nat} {D : DAT} {a : Nat → Int32} (X : CWD Z I v0 v8 u0 u1 u2 u3 u4 u41 u5 u8 uL0 uC0 uL1 uC1 uP p13 p14 pc rc D a) (bd : BUD B Z T) {Q : Int32 → jZ → jI → jL → Prop}
    (hQ : ∀ (r : Int32) (Z' : jZ) (I' : jI) (L' : jL) (x e : Int), ALd D a (-1) x r.toInt e → WD Z' I' → BUD B Z' T → FR Wal Z I Z' I' → CP Z Z' → Q r Z' I' L') : f_X11_all B v0 Z I L Q := by
  have kv := X.kv
  obtain ⟨u, h, k, l⟩ := sh_f X.w.1 kv (j := 11) (k := 14) (m := 3) rfl
  unfold f_X11_all
  intro b hb; cases h.symm.trans hb
  refine r_X11_sumUp X bd (-1) (-1) rfl u 11 (Or.inl rfl) h k l (fun Z1 I1 L1 x c e hA hS X1 bd1 f1 cp1 => ?_)
  have h' := (f1.2.1 v0 11 11 kv (by decide) (by decide)).trans h
  intro b9 hb9; cases h'.symm.trans hb9
  intro b10 hb10; cases h'.symm.trans hb10
  refine s_X11_tellTwo X1.w v0 _ _ X1.kv (fun I2 L2 w2 f2 => ?_)
  intro b17 hb17; cases h'.symm.trans hb17
  have e1 : (I2 u (1 : Int32).toNatClampNeg).toInt = c := by rw [f2.2.2.2 v0 11 11 u X1.kv h' (by rw [((f1.1 _ _ k).1).2]; rfl) rfl (by decide)]; exact hS.2.1
  refine hQ _ Z1 I2 L2 x e (by rw [e1]; exact hA) w2 bd1 ((f1.mono (fun q hq => List.mem_cons_of_mem _ hq)).trans X.w.1 X.w.2.1 (f2.mono (fun q hq => by rw [List.mem_singleton.mp hq]; exact List.mem_cons_self))) cp1
/-! ===== the reference: all climbs ===== -/
/-- what finding a climb says in worlds Y, step cl being shut -/
def FCY (B : Nat × Nat) (T : Nat) (v0 : Nat) (D : DAT) (a : Nat → Int32) (cl : Int) (Y : jZ → jI → Prop) : Prop := ∀ (Z : jZ) (I : jI), Y Z I → (WD Z I ∧ jk Z v0 12 ∧ (I v0 8).toInt = (dP D : Int) ∧ (I v0 0).toInt = (dN D : Int)) ∧ (∀ (Z' : jZ) (I' : jI), WD Z' I' → FR Ws_X12_findAll Z I Z' I' → Y Z' I') ∧ ∀ (L : jL) (v1 : Int32) (p : Nat) (Q : Int32 → jZ → jI → jL → Prop), BUD B Z T → 1 ≤ dN D → p < dP D → v1.toInt = (p : Int) → (∀ (r : Int32) (Z' : jZ) (I' : jI) (L' : jL) (t44 : Nat), WD Z' I' → BUD B Z' T → FR Ws_X12_findClimb Z I Z' I' → CP Z Z' → CLR (dLp D p) (dN D) (opF (dVw D p) (dMn D) cl) (dCl D a (dLd D p)) (dEl D (dLd D p)) (dKn D p) (dPu D p) I' v0 t44 r → Q r Z' I' L') → f_X12_findClimb B v0 v1 Z I L Q
theorem RFM.fcy {B : Nat × Nat} {T : Nat} {v0 t1 t2 t3 t4 t5 t6 t9 t10 t11 t12 t13 t29 t30 uX0 uX1 : Nat} {s0 s1 : Int} {D : DAT} {a : Nat → Int32} (ok : aOK a) : FCY B T v0 D a (-1) (fun Z I => RFM Z I v0 t1 t2 t3 t4 t5 t6 t9 t10 t11 t12 t13 t29 t30 uX0 uX1 s0 s1 D a) := fun Z I X => ⟨⟨X.w, X.S.1, X.hp, X.hn⟩, fun Z' I' w' f => X.fr w' f (by decide) (by decide), fun L v1 p Q bd h1 hp e1 hQ => X.fc ok bd h1 v1 p hp e1 (fun r Z' I' L' t w b f c _ h => hQ r Z' I' L' t w b f c h)⟩
theorem CLR_OC {D : DAT} {a : Nat → Int32} {cl : Int} {vw : Int32} {ld : Int} {p v0 t44 : Nat} {I : jI} {r : Int32} (h : CLR (dLp D p) (dN D) (opF vw (dMn D) cl) (dCl D a ld) (dEl D ld) (dKn D p) (dPu D p) I v0 t44 r) : (r = 0 → NCd D a cl vw ld p) ∧ (¬ r = 0 → ∃ m b, LCd D a cl vw ld p m (I v0 41).toInt (I v0 42).toInt b) := by
  have z0 : (0 : Int32).toInt = 0 := rfl
  rcases h with ⟨e, n⟩ | ⟨e, m, c, e', b, l, h1, h2, -, -⟩
  · exact ⟨fun _ => n, fun c => absurd ((i_eq rfl z0).mpr e) c⟩
  · refine ⟨fun c => ?_, fun _ => ⟨m, b, by rw [h1, h2]; exact l⟩⟩
    have := (i_eq rfl z0).mp c
    omega
/-- the sums of the reference -/
def SMm (I : jI) (v0 : Nat) (x c e : Int) : Prop := (I v0 48).toInt = x ∧ (I v0 49).toInt = c ∧ (I v0 50).toInt = e
theorem SMm_fr {W : List (Nat × Nat)} {Z Z' : jZ} {I I' : jI} {v0 : Nat} {x c e : Int} (f : FR W Z I Z' I') (kv : jk Z v0 12) (h1 : (12, 48) ∉ W) (h2 : (12, 49) ∉ W) (h3 : (12, 50) ∉ W) (h : SMm I v0 x c e) : SMm I' v0 x c e := ⟨by rw [f.2.2.1 v0 12 48 kv (by decide) h1]; exact h.1, by rw [f.2.2.1 v0 12 49 kv (by decide) h2]; exact h.2.1, by rw [f.2.2.1 v0 12 50 kv (by decide) h3]; exact h.2.2⟩
set_option maxHeartbeats 4000000 in
theorem fa_L17 {B : Nat × Nat} {T : Nat} {Z0 : jZ} {I0 : jI} (w0 : WD Z0 I0) {v0 : Nat} {D : DAT} {a : Nat → Int32} {cl : Int} {Y : jZ → jI → Prop} (hY : FCY B T v0 D a cl Y) (d : DOK D) (ok : aOK a) {Q : jZ → jI → jL → Prop}
    (hQ : ∀ (Z' : jZ) (I' : jI) (L' : jL) (x c e : Int), ALd D a cl x c e → SMm I' v0 x c e → Y Z' I' → BUD B Z' T → FR Ws_X12_findAll Z0 I0 Z' I' → CP Z0 Z' → Q Z' I' L') :
    ∀ (k p : Nat) (v1 : Int32) (Z : jZ) (I : jI) (L : jL) (x c e : Int), dP D + 1 ≤ k + p → p ≤ dP D → v1.toInt = (p : Int) → (dN D = 0 → p = 0) → Y Z I → BUD B Z T → FR Ws_X12_findAll Z0 I0 Z I → CP Z0 Z → ALp D a cl p x c e → SMm I v0 x c e → f_X12_findAll_L17 B Q k v0 v1 Z I L := by
  have z0 : (0 : Int32).toInt = 0 := rfl
  have z1 : (1 : Int32).toInt = 1 := rfl
  intro k
  induction k with
  | zero => intro p v1 Z I L x c e hk hi; omega
  | succ k ih =>
    intro p v1 Z I L x c e hk hi ev hz y bd f0 cp0 hA hS
    have p6 := d.2.1
    obtain ⟨⟨w, kv, hp8, hn0⟩, hfr, hfc⟩ := hY Z I y
    have nx : ∀ y : Int32, y = v1 + 1 → y.toInt = ((p + 1 : Nat) : Int) := fun y ey => by rw [ey]; exact (i_add ev z1 (by omega) (by omega)).trans (by omega)
    unfold f_X12_findAll_L17
    refine ⟨fun c1 => ?_, fun c1 => ⟨fun c2 => ?_, fun c2 => ?_⟩⟩
    · have c1 := (i_le hp8 ev).mp c1
      have ep : p = dP D := by omega
      subst ep
      refine hQ Z I L x c e ?_ hS y bd f0 cp0
      by_cases n0 : dN D = 0
      · have p0 := hz n0
        obtain ⟨f, g, h, -, e1, e2, e3⟩ := hA
        rw [p0] at e1 e2 e3
        exact Or.inl ⟨n0, e1, e2, e3⟩
      · exact Or.inr ⟨by omega, hA⟩
    · have c2 := (i_le hn0 z0).mp c2
      have n0 : dN D = 0 := by omega
      have p0 := hz n0
      obtain ⟨f, g, h, -, e1, e2, e3⟩ := hA
      rw [p0] at e1 e2 e3
      exact hQ Z I L x c e (Or.inl ⟨n0, e1, e2, e3⟩) hS y bd f0 cp0
    · have c1 := (not_congr (i_le hp8 ev)).mp c1
      have c2 := (not_congr (i_le hn0 z0)).mp c2
      refine hfc L v1 p _ bd (by omega) (by omega) ev (fun r Z1 I1 L1 t44 w1 bd1 f1 cp1 hr => ?_)
      have kv1 := (f1.1 _ _ kv).1
      have f1' : FR Ws_X12_findAll Z I Z1 I1 := f1.mono (by decide)
      have cp01 := CP.trans f0.1 cp0 cp1
      have hS1 := SMm_fr f1 kv (by decide) (by decide) (by decide) hS
      obtain ⟨h0, h1⟩ := CLR_OC hr
      have R := ALp_rng d ok (by omega) hA
      refine ⟨fun c3 => ?_, fun c3 => ?_⟩
      · obtain ⟨m, b, hl⟩ := h1 c3
        have oc : OCd D a cl (dVw D p) (dLd D p) p 1 (I1 v0 41).toInt (I1 v0 42).toInt := Or.inr ⟨rfl, m, b, hl⟩
        have ro := OCd_rng d (by omega) ok (d.2.2.2.2 p (by omega)).2.1 oc
        have hA1 := ALp_s hA oc
        intro I3 e3 I4 e4 I5 e5
        have w3 : WD Z1 I3 := by rw [e3]; exact WD_putF w1 12 48 kv1 (by decide) (by decide) trivial
        have w4 : WD Z1 I4 := by rw [e4]; exact WD_putF w3 12 49 kv1 (by decide) (by decide) trivial
        have w5 : WD Z1 I5 := by rw [e5]; exact WD_putF w4 12 50 kv1 (by decide) (by decide) trivial
        have f3 : FR Ws_X12_findAll Z1 I1 Z1 I3 := by rw [e3]; exact FR_putF kv1 (by decide) (by decide)
        have f4 : FR Ws_X12_findAll Z1 I3 Z1 I4 := by rw [e4]; exact FR_putF kv1 (by decide) (by decide)
        have f5 : FR Ws_X12_findAll Z1 I4 Z1 I5 := by rw [e5]; exact FR_putF kv1 (by decide) (by decide)
        have f15 := (f3.trans w1.1 w1.2.1 f4).trans w1.1 w1.2.1 f5
        have g1 := f1'.trans w.1 w.2.1 f15
        unfold f_X12_findAll_b79
        intro x1 ex
        refine ih (p + 1) x1 Z1 I5 L1 _ _ _ (by omega) (by omega) (nx x1 ex) (fun n0 => by omega) (hfr Z1 I5 w5 g1) bd1 (f0.trans w0.1 w0.2.1 g1) cp01 hA1 ⟨?_, ?_, ?_⟩
        · rw [e5, jpI_o (by decide), e4, jpI_o (by decide), e3, jpI_at]
          exact i_add hS1.1 z1 (by omega) (by omega)
        · rw [e5, jpI_o (by decide), e4, jpI_at, e3, jpI_o (by decide), jpI_o (by decide)]
          exact i_add hS1.2.1 rfl (by omega) (by omega)
        · rw [e5, jpI_at, e4, jpI_o (by decide), jpI_o (by decide), e3, jpI_o (by decide), jpI_o (by decide)]
          exact i_add hS1.2.2 rfl (by omega) (by omega)
      · unfold f_X12_findAll_b79
        intro x1 ex
        have hA1 := ALp_s hA (Or.inl ⟨rfl, rfl, rfl, h0 c3⟩)
        rw [Int.add_zero, Int.add_zero, Int.add_zero] at hA1
        exact ih (p + 1) x1 Z1 I1 L1 _ _ _ (by omega) (by omega) (nx x1 ex) (fun n0 => by omega) (hfr Z1 I1 w1 f1') bd1 (f0.trans w0.1 w0.2.1 f1') cp01 hA1 hS1
theorem r_X12_findAll {B : Nat × Nat} {T : Nat} {L : jL} {v0 : Nat} {D : DAT} {a : Nat → Int32} {cl : Int} {Y : jZ → jI → Prop} (hY : FCY B T v0 D a cl Y) (d : DOK D) (ok : aOK a) {Z : jZ} {I : jI} (y : Y Z I) (bd : BUD B Z T) {Q : jZ → jI → jL → Prop}
    (hQ : ∀ (Z' : jZ) (I' : jI) (L' : jL) (x c e : Int), ALd D a cl x c e → SMm I' v0 x c e → Y Z' I' → BUD B Z' T → FR Ws_X12_findAll Z I Z' I' → CP Z Z' → Q Z' I' L') : f_X12_findAll B v0 Z I L Q := by
  obtain ⟨⟨w, kv, hp8, hn0⟩, hfr, -⟩ := hY Z I y
  unfold f_X12_findAll
  intro I3 e3 I4 e4 I5 e5
  have w3 : WD Z I3 := by rw [e3]; exact WD_putF w 12 48 kv (by decide) (by decide) trivial
  have w4 : WD Z I4 := by rw [e4]; exact WD_putF w3 12 49 kv (by decide) (by decide) trivial
  have w5 : WD Z I5 := by rw [e5]; exact WD_putF w4 12 50 kv (by decide) (by decide) trivial
  have f3 : FR Ws_X12_findAll Z I Z I3 := by rw [e3]; exact FR_putF kv (by decide) (by decide)
  have f4 : FR Ws_X12_findAll Z I3 Z I4 := by rw [e4]; exact FR_putF kv (by decide) (by decide)
  have f5 : FR Ws_X12_findAll Z I4 Z I5 := by rw [e5]; exact FR_putF kv (by decide) (by decide)
  have f15 := (f3.trans w.1 w.2.1 f4).trans w.1 w.2.1 f5
  exact ⟨dP D + 1, fa_L17 w hY d ok hQ (dP D + 1) 0 0 Z I5 L 0 0 0 (by omega) (by omega) rfl (fun _ => rfl) (hfr Z I5 w5 f15) bd f15 CP.rf ALp_0 ⟨by rw [e5, jpI_o (by decide), e4, jpI_o (by decide), e3, jpI_at]; rfl, by rw [e5, jpI_o (by decide), e4, jpI_at]; rfl, by rw [e5, jpI_at]; rfl⟩⟩
theorem r_X12_all {B : Nat × Nat} {T : Nat} {L : jL} {Z : jZ} {I : jI} {v0 t1 t2 t3 t4 t5 t6 t9 t10 t11 t12 t13 t29 t30 uX0 uX1 : Nat} {s0 s1 : Int} {D : DAT} {a : Nat → Int32} (X : RFM Z I v0 t1 t2 t3 t4 t5 t6 t9 t10 t11 t12 t13 t29 t30 uX0 uX1 s0 s1 D a) (ok : aOK a) (bd : BUD B Z T) {Q : Int32 → jZ → jI → jL → Prop}
    (hQ : ∀ (r : Int32) (Z' : jZ) (I' : jI) (L' : jL) (x e : Int), ALd D a (-1) x r.toInt e → WD Z' I' → BUD B Z' T → FR Ws_X12_all Z I Z' I' → CP Z Z' → Q r Z' I' L') : f_X12_all B v0 Z I L Q := by
  have w := X.w
  have kv := X.S.1
  unfold f_X12_all
  intro I1 e1
  have w1 : WD Z I1 := by rw [e1]; exact WD_putF w 12 22 kv (by decide) (by decide) trivial
  have f1 : FR [(12, 22)] Z I Z I1 := by rw [e1]; exact FR_putF kv (by decide) List.mem_cons_self
  have X1 := X.fr w1 f1 (by decide) (by decide)
  refine r_X12_findAll (RFM.fcy ok) X.dok ok X1 bd (fun Z2 I2 L2 x c e hA hS X2 bd2 f2 cp2 => ?_)
  have kv2 := X2.S.1
  intro I3 e3
  have w3 : WD Z2 I3 := by rw [e3]; exact WD_putF X2.w 12 21 kv2 (by decide) (by decide) (by first | exact trivial | (constructor <;> decide))
  have f3 : FR [(12, 21)] Z2 I2 Z2 I3 := by rw [e3]; exact FR_putF kv2 (by decide) List.mem_cons_self
  have e21 : (I3 v0 21).toInt = 0 := by rw [e3, jpI_at]; rfl
  refine s_X12_tell w3 v0 _ kv2 (by omega) (fun I4 L4 w4 f4 e4 => ?_)
  refine s_X12_tell w4 v0 _ kv2 (by omega) (fun I5 L5 w5 f5 e5 => ?_)
  have hS5 := SMm_fr f5 kv2 (by decide) (by decide) (by decide) (SMm_fr f4 kv2 (by decide) (by decide) (by decide) (SMm_fr f3 kv2 (by decide) (by decide) (by decide) hS))
  refine hQ _ Z2 I5 L5 x e (by rw [hS5.2.1]; exact hA) w5 bd2 (((((f1.mono (by decide)).trans w.1 w.2.1 (f2.mono (by decide))).trans w.1 w.2.1 (f3.mono (by decide))).trans w.1 w.2.1 (f4.mono (by decide))).trans w.1 w.2.1 (f5.mono (by decide))) cp2
/-! ===== the class: were a step whole, shut ===== -/
def Wk11s : List (Nat × Nat) := [(8, 9), (8, 0), (8, 3), (4, 1), (3, 0), (3, 3), (3, 4), (11, 4), (5, 3), (5, 4), (6, 1), (6, 2), (6, 3)]
theorem CWD.fraS {W : List (Nat × Nat)} {Z' : jZ} {I' : jI} {S1 : Nat → Int32} {X1 : Int → Int → Int32} {Z : jZ} {I : jI} {v0 v8 u0 u1 u2 u3 u4 u41 u5 u8 uL0 uC0 uL1 uC1 uP p13 p14 : Nat} {pc rc : Nat → Nat} {D : DAT} {a : Nat → Int32} (X : CWD Z I v0 v8 u0 u1 u2 u3 u4 u41 u5 u8 uL0 uC0 uL1 uC1 uP p13 p14 pc rc D a) (w' : WD Z' I') (f : FR W Z I Z' I') (hW : ∀ p ∈ Wk11s, p ∉ W) (hA : I' u2 = a) (hS : I' u1 = S1) (hX : xLc (I u41) (I' u5) = X1) (dk : DOK (set4 D S1 X1 (dVw D) (dLd D))) : CWD Z' I' v0 v8 u0 u1 u2 u3 u4 u41 u5 u8 uL0 uC0 uL1 uC1 uP p13 p14 pc rc (set4 D S1 X1 (dVw D) (dLd D)) a := by
  have w := X.w
  have kv := X.kv
  obtain ⟨q0, q1, q2, q3, q4, q41, q5, q8, -⟩ := STc_k w X.S
  obtain ⟨k8, s0, s1, s2, s3, s4, s41, s5, s8⟩ := X.S
  have kP := X.kP
  have rf : ∀ (v c j b : Nat), jk Z v c → jr Z v j = some b → ¬ (c = 7 ∧ j = 0) → ¬ (c = 12 ∧ j = 23) → jr Z' v j = some b := fun v c j b k e n1 n2 => (f.2.1 v c j k n1 n2).trans e
  have kk : ∀ x c, jk Z x c → jk Z' x c := fun x c k => (f.1 x c k).1
  have ar : ∀ (v c j b : Nat), jk Z v c → jr Z v j = some b → jk Z b 14 → jsr c j = false → (c, j) ∈ Wk11s → I' b = I b := fun v c j b ka e kb hs hw => f.2.2.2 v c j b ka e (by rw [kb.2]; rfl) hs (hW _ hw)
  have fl : ∀ (v c j : Nat), jk Z v c → c < 13 → (c, j) ∈ Wk11s → I' v j = I v j := fun v c j k hc hw => f.2.2.1 v c j k hc (hW _ hw)
  have i0 := ar v8 8 0 u0 k8 s0 q0 rfl (by decide)
  have i3 := ar v8 8 3 u3 k8 s3 q3 rfl (by decide)
  have i41 := ar u4 4 1 u41 q4 s41 q41 rfl (by decide)
  have S' : STc Z' v8 u0 u1 u2 u3 u4 u41 u5 u8 := ⟨kk _ _ k8, rf v8 8 0 _ k8 s0 (by decide) (by decide), rf v8 8 1 _ k8 s1 (by decide) (by decide), rf v8 8 2 _ k8 s2 (by decide) (by decide), rf v8 8 3 _ k8 s3 (by decide) (by decide), rf v8 8 4 _ k8 s4 (by decide) (by decide), rf u4 4 1 _ q4 s41 (by decide) (by decide), rf v8 8 5 _ k8 s5 (by decide) (by decide), rf v8 8 8 _ k8 s8 (by decide) (by decide)⟩
  have hl' : LWs Z' I' v8 uL0 uC0 uL1 uC1 (dC0 D) (dC1 D) := by
    obtain ⟨hL0, hC0, hL1, hC1, g0, g1, ok0, ok1⟩ := X.hl
    obtain ⟨x, ex, kL0⟩ := sh_o w.1 k8 (j := 6) (k := 3) rfl
    cases hL0.symm.trans ex
    obtain ⟨x, ex, kL1⟩ := sh_o w.1 k8 (j := 7) (k := 3) rfl
    cases hL1.symm.trans ex
    obtain ⟨x, ex, kC0, -⟩ := sh_f w.1 kL0 (j := 0) (k := 14) (m := 40) rfl
    cases hC0.symm.trans ex
    obtain ⟨x, ex, kC1, -⟩ := sh_f w.1 kL1 (j := 0) (k := 14) (m := 40) rfl
    cases hC1.symm.trans ex
    exact ⟨rf v8 8 6 _ k8 hL0 (by decide) (by decide), rf uL0 3 0 _ kL0 hC0 (by decide) (by decide), rf v8 8 7 _ k8 hL1 (by decide) (by decide), rf uL1 3 0 _ kL1 hC1 (by decide) (by decide), LWc_eq g0 (fl uL0 3 3 kL0 (by decide) (by decide)) (fl uL0 3 4 kL0 (by decide) (by decide)) (ar uL0 3 0 uC0 kL0 hC0 kC0 rfl (by decide)), LWc_eq g1 (fl uL1 3 3 kL1 (by decide) (by decide)) (fl uL1 3 4 kL1 (by decide) (by decide)) (ar uL1 3 0 uC1 kL1 hC1 kC1 rfl (by decide)), ok0, ok1⟩
  refine ⟨w', kk _ _ kv, rf v0 11 2 _ kv X.h2 (by decide) (by decide), S', hl', ?_, ?_, hA, ?_, ?_, ?_, ?_, ?_, rf v0 11 3 _ kv X.h3 (by decide) (by decide), rf v0 11 13 _ kv X.h13 (by decide) (by decide), rf v0 11 14 _ kv X.h14 (by decide) (by decide), fun p hp => ?_, fun p hp => ?_, dk⟩
  · rw [fl v8 8 9 k8 (by decide) (by decide)]; exact X.hn
  · rw [fl v0 11 4 kv (by decide) (by decide)]; exact X.hp
  · rw [i0]; exact X.iR
  · exact hS
  · rw [i3]; exact X.iW
  · rw [i41]; exact hX
  · rw [i41]; exact X.iM
  · obtain ⟨a1, a2, a3, a4, a5⟩ := X.pil p hp
    exact ⟨rf uP 18 p _ kP a1 (by omega) (by omega), kk _ _ a2, rf (pc p) 5 8 _ a2 a3 (by decide) (by decide), kk _ _ a4, rf (rc p) 6 0 _ a4 a5 (by decide) (by decide)⟩
  · obtain ⟨a1, a2, a3, a4, a5⟩ := X.pil p hp
    rw [fl (pc p) 5 3 a2 (by decide) (by decide), fl (pc p) 5 4 a2 (by decide) (by decide), fl (rc p) 6 1 a4 (by decide) (by decide), fl (rc p) 6 2 a4 (by decide) (by decide), fl (rc p) 6 3 a4 (by decide) (by decide)]
    exact X.piv p hp

theorem CWD.putS {Z : jZ} {I : jI} {v0 v8 u0 u1 u2 u3 u4 u41 u5 u8 uL0 uC0 uL1 uC1 uP p13 p14 : Nat} {pc rc : Nat → Nat} {D : DAT} {a : Nat → Int32} (X : CWD Z I v0 v8 u0 u1 u2 u3 u4 u41 u5 u8 uL0 uC0 uL1 uC1 uP p13 p14 pc rc D a) (s : Nat) (v : Int32) (rv : 0 ≤ v.toInt ∧ v.toInt ≤ 9) (S1 : Nat → Int32) (hS : S1 = updA (I u1) s v) : CWD Z (jpI I u1 s v) v0 v8 u0 u1 u2 u3 u4 u41 u5 u8 uL0 uC0 uL1 uC1 uP p13 p14 pc rc (set4 D S1 (dX D) (dVw D) (dLd D)) a ∧ FR [(8, 1)] Z I Z (jpI I u1 s v) := by
  obtain ⟨q0, q1, q2, q3, q4, q41, q5, q8, -⟩ := STc_k X.w X.S
  obtain ⟨k8, s0, s1, s2, s3, s4, s41, s5, s8⟩ := X.S
  have w' : WD Z (jpI I u1 s v) := WD_putA X.w 8 1 k8 s1 q1 rfl rfl (by decide) (by constructor <;> omega)
  have f' : FR [(8, 1)] Z I Z (jpI I u1 s v) := FR_upA X.w.2.1 k8 s1 q1 rfl rfl List.mem_cons_self
  have i2 : jpI I u1 s v u2 = I u2 := f'.2.2.2 v8 8 2 u2 k8 s2 (by rw [q2.2]; rfl) rfl (by decide)
  have i5 : jpI I u1 s v u5 = I u5 := f'.2.2.2 v8 8 5 u5 k8 s5 (by rw [q5.2]; rfl) rfl (by decide)
  have eS : jpI I u1 s v u1 = S1 := by
    rw [hS]
    funext k
    unfold updA
    by_cases c : k = s
    · rw [if_pos c, c, jpI_at]
    · rw [if_neg c, jpI_off c]
  refine ⟨X.fraS w' f' (by decide) (by rw [i2]; exact X.iA) eS (by rw [i5]; exact X.iX) (DOK_4 X.dok (fun k hk => ?_) (fun p hp => (X.dok.2.2.2.2 p hp).2.1)), f'⟩
  rw [hS]
  unfold updA
  by_cases c : k = s
  · rw [if_pos c]
    exact rv
  · rw [if_neg c, X.iS]
    exact X.dok.2.2.2.1 k hk
set_option maxHeartbeats 1000000 in
theorem td_L8 {Z : jZ} {I0 : jI} (w0 : WD Z I0) (v0 u11 u12 : Nat) (kv : jk Z v0 11) (h11 : jr Z v0 11 = some u11) (h12 : jr Z v0 12 = some u12) (k11 : jk Z u11 14) (k12 : jk Z u12 14) {Q : Int32 → jI → jL → Prop}
    (hQ : ∀ (r : Int32) (I' : jI) (L' : jL), ((r.toInt = 0 ∧ ∀ i, i < 3 → I0 u12 i = I0 u11 i) ∨ (r.toInt = 1 ∧ ∃ i, i < 3 ∧ ¬ I0 u12 i = I0 u11 i)) → WD Z I' → FR [(11, 16)] Z I0 Z I' → Q r I' L') :
    ∀ (k p : Nat) (v1 v2 : Int32) (I : jI) (L : jL), 4 ≤ k + p → p ≤ 3 → v2.toInt = (p : Int) → ((v1 = 0 ∧ ∀ i, i < p → I0 u12 i = I0 u11 i) ∨ (v1 = 1 ∧ ∃ i, i < p ∧ ¬ I0 u12 i = I0 u11 i)) → WD Z I → FR [(11, 16)] Z I0 Z I → f_X11_tellDifferences_L8 Z Q k v0 v1 v2 I L := by
  have z1 : (1 : Int32).toInt = 1 := rfl
  have z3 : (3 : Int32).toInt = 3 := rfl
  intro k
  induction k with
  | zero => intro p v1 v2 I L hk hi; omega
  | succ k ih =>
    intro p v1 v2 I L hk hi e2 hv w f
    have nx : ∀ y : Int32, y = v2 + 1 → y.toInt = ((p + 1 : Nat) : Int) := fun y ey => by rw [ey]; exact (i_add e2 z1 (by omega) (by omega)).trans (by omega)
    have n2 : v2.toNatClampNeg = p := by have := i_nat e2 (by omega); omega
    unfold f_X11_tellDifferences_L8
    intro b hb; cases h11.symm.trans hb
    refine ⟨fun c => ?_, fun c => ?_⟩
    · have c := (i_le z3 e2).mp c
      have p3 : p = 3 := by omega
      subst p3
      refine ⟨fun c2 => ?_, fun c2 => ?_⟩
      · rcases hv with ⟨-, h⟩ | ⟨h, -⟩
        · exact hQ 0 I L (Or.inl ⟨rfl, h⟩) w f
        · rw [h] at c2; exact absurd c2 (by decide)
      · rcases hv with ⟨h, -⟩ | ⟨-, h⟩
        · exact absurd h c2
        · exact hQ 1 I L (Or.inr ⟨rfl, h⟩) w f
    · have c := (not_congr (i_le z3 e2)).mp c
      have vi : vp_in v2 3 := vi_of e2 (by omega) (by omega)
      intro b hb; cases h12.symm.trans hb
      refine ⟨vi, fun b hb => ?_⟩
      cases h11.symm.trans hb
      refine ⟨vi, s_X11_tellMore w v0 _ kv (fun I2 L2 w2 f2 => ?_)⟩
      have f02 : FR [(11, 16)] Z I0 Z I2 := f.trans w0.1 w0.2.1 (f2.mono (by decide))
      have a11 : I2 u11 = I0 u11 := f02.2.2.2 v0 11 11 u11 kv h11 (by rw [k11.2]; rfl) rfl (by decide)
      have a12 : I2 u12 = I0 u12 := f02.2.2.2 v0 11 12 u12 kv h12 (by rw [k12.2]; rfl) rfl (by decide)
      intro b hb; cases h12.symm.trans hb
      refine ⟨vi, fun b hb => ?_⟩
      cases h11.symm.trans hb
      rw [n2, a11, a12]
      refine ⟨vi, fun c3 => ?_, fun c3 => ?_⟩
      · unfold f_X11_tellDifferences_b56
        intro x1 e1 x2 ex2
        refine ih (p + 1) x1 x2 I2 L2 (by omega) (by omega) (nx x2 ex2) ?_ w2 f02
        rcases hv with ⟨h, g⟩ | ⟨h, i, g1, g2⟩
        · refine Or.inl ⟨by rw [e1, h]; decide, fun i hi => ?_⟩
          by_cases c9 : i = p
          · rw [c9]; exact c3
          · exact g i (by omega)
        · exact Or.inr ⟨by rw [e1, h]; decide, i, by omega, g2⟩
      · unfold f_X11_tellDifferences_b56
        intro x1 e1 x2 ex2
        refine ih (p + 1) x1 x2 I2 L2 (by omega) (by omega) (nx x2 ex2) ?_ w2 f02
        rcases hv with ⟨h, -⟩ | ⟨h, -⟩
        · exact Or.inr ⟨by rw [e1, h]; decide, p, by omega, c3⟩
        · exact Or.inr ⟨by rw [e1, h]; decide, p, by omega, c3⟩
theorem r_X11_tellDifferences {Z : jZ} {I : jI} {L : jL} (w : WD Z I) (v0 u11 u12 : Nat) (kv : jk Z v0 11) (h11 : jr Z v0 11 = some u11) (h12 : jr Z v0 12 = some u12) (k11 : jk Z u11 14) (k12 : jk Z u12 14) {x c e x' c' e' : Int} (s1 : SMc I u11 x c e) (s2 : SMc I u12 x' c' e') {Q : Int32 → jI → jL → Prop}
    (hQ : ∀ (r : Int32) (I' : jI) (L' : jL), DFd x c e x' c' e' r.toInt → WD Z I' → FR [(11, 16)] Z I Z I' → Q r I' L') : f_X11_tellDifferences v0 Z I L Q := by
  unfold f_X11_tellDifferences
  refine s_X11_tellNothing w v0 kv (fun I1 L1 w1 f1 => ?_)
  have f1 : FR [(11, 16)] Z I Z I1 := f1.mono (by decide)
  have a11 : I1 u11 = I u11 := f1.2.2.2 v0 11 11 u11 kv h11 (by rw [k11.2]; rfl) rfl (by decide)
  have a12 : I1 u12 = I u12 := f1.2.2.2 v0 11 12 u12 kv h12 (by rw [k12.2]; rfl) rfl (by decide)
  refine ⟨4, td_L8 w1 v0 u11 u12 kv h11 h12 k11 k12 (fun r I2 L2 hr w2 f2 => hQ r I2 L2 ?_ w2 (f1.trans w.1 w.2.1 f2)) 4 0 0 0 I1 L1 (by omega) (by omega) rfl (Or.inl ⟨rfl, fun i hi => absurd hi (Nat.not_lt_zero i)⟩) w1 FR.rf⟩
  rw [a11, a12] at hr
  obtain ⟨g1, g2, g3⟩ := s1
  obtain ⟨g4, g5, g6⟩ := s2
  rcases hr with ⟨h, h1⟩ | ⟨h, i, hi, h1⟩
  · exact Or.inl ⟨h, by rw [← g4, ← g1, h1 0 (by omega)], by rw [← g5, ← g2, h1 1 (by omega)], by rw [← g6, ← g3, h1 2 (by omega)]⟩
  · refine Or.inr ⟨h, fun ⟨q1, q2, q3⟩ => h1 ?_⟩
    have hi3 : i = 0 ∨ i = 1 ∨ i = 2 := by omega
    rcases hi3 with rfl | rfl | rfl
    · exact (i_eq rfl rfl).mpr (by omega)
    · exact (i_eq rfl rfl).mpr (by omega)
    · exact (i_eq rfl rfl).mpr (by omega)
theorem SMc_fr {W : List (Nat × Nat)} {Z Z' : jZ} {I I' : jI} {v0 u j : Nat} {x c e : Int} (f : FR W Z I Z' I') (kv : jk Z v0 11) (h : jr Z v0 j = some u) (k : jk Z u 14) (hs : jsr 11 j = false) (hw : (11, j) ∉ W) (s : SMc I u x c e) : SMc I' u x c e := by
  unfold SMc
  rw [f.2.2.2 v0 11 j u kv h (by rw [k.2]; rfl) hs hw]
  exact s
def Wwh : List (Nat × Nat) := [(3, 2), (6, 4), (6, 5), (6, 6), (6, 7), (6, 14), (6, 15), (7, 1), (7, 2), (7, 3), (7, 4), (7, 5), (7, 8), (7, 9), (8, 8), (11, 11), (11, 12), (11, 16)]
set_option maxHeartbeats 4000000 in
theorem r_X11_shut {B : Nat × Nat} {T : Nat} {L : jL} {Z : jZ} {I : jI} {v0 v8 u0 u1 u2 u3 u4 u41 u5 u8 uL0 uC0 uL1 uC1 uP p13 p14 : Nat} {pc rc : Nat → Nat} {D : DAT} {a : Nat → Int32} (X : CWD Z I v0 v8 u0 u1 u2 u3 u4 u41 u5 u8 uL0 uC0 uL1 uC1 uP p13 p14 pc rc D a) (bd : BUD B Z T) (v1 : Int32) {Q : Int32 → jZ → jI → jL → Prop}
    (hQ : ∀ (r : Int32) (Z' : jZ) (I' : jI) (L' : jL), SHd D a v1 r.toInt → WD Z' I' → BUD B Z' T → FR Wwh Z I Z' I' → CP Z Z' → Q r Z' I' L') : f_X11_shut B v0 v1 Z I L Q := by
  have z0 : (0 : Int32).toInt = 0 := rfl
  have w := X.w
  have kv := X.kv
  obtain ⟨u, h, k, l⟩ := sh_f w.1 kv (j := 11) (k := 14) (m := 3) rfl
  obtain ⟨u', h', k', l'⟩ := sh_f w.1 kv (j := 12) (k := 14) (m := 3) rfl
  unfold f_X11_shut
  intro b hb; cases X.h2.symm.trans hb
  refine X.has v1 (fun r hr => ⟨fun c => ?_, fun c => hQ _ Z I L (Or.inl ⟨?_, rfl⟩) w bd FR.rf CP.rf⟩)
  · have c := (not_congr (i_eq rfl z0)).mp c
    have hin : 0 ≤ v1.toInt ∧ v1.toInt < (dN D : Int) := by omega
    intro b hb; cases h.symm.trans hb
    refine r_X11_sumUp X bd (-1) (-1) rfl u 11 (Or.inl rfl) h k l (fun Z1 I1 L1 x c e hA hS X1 bd1 f1 cp1 => ?_)
    have f1' : FR Wwh Z I Z1 I1 := f1.mono (by decide)
    have g := (f1.2.1 v0 11 11 kv (by decide) (by decide)).trans h
    have g' := (f1.2.1 v0 11 12 kv (by decide) (by decide)).trans h'
    intro b hb; cases g'.symm.trans hb
    refine r_X11_sumUp X1 bd1 v1 v1.toInt rfl u' 12 (Or.inr rfl) g' (f1.1 _ _ k').1 ((f1.1 _ _ k').2.trans l') (fun Z2 I2 L2 x' c' e' hA' hS' X2 bd2 f2 cp2 => ?_)
    have f2' : FR Wwh Z1 I1 Z2 I2 := f2.mono (by decide)
    have k1 := (f1.1 _ _ k).1
    have k1' := (f1.1 _ _ k').1
    have hS2 := SMc_fr f2 X1.kv g k1 rfl (by decide) hS
    refine r_X11_tellDifferences X2.w v0 u u' X2.kv ((f2.2.1 v0 11 11 X1.kv (by decide) (by decide)).trans g) ((f2.2.1 v0 11 12 X1.kv (by decide) (by decide)).trans g') (f2.1 _ _ k1).1 (f2.1 _ _ k1').1 hS2 hS' (fun r3 I3 L3 hd w3 f3 => ?_)
    exact hQ r3 Z2 I3 L3 (Or.inr ⟨hin, x, c, e, x', c', e', hA, hA', hd⟩) w3 bd2 ((f1'.trans w.1 w.2.1 f2').trans w.1 w.2.1 (f3.mono (by decide))) (CP.trans f1.1 cp1 cp2)
  · have c := (i_eq rfl z0).mp c
    omega
set_option maxHeartbeats 4000000 in
theorem r_X11_whole {B : Nat × Nat} {T : Nat} {L : jL} {Z : jZ} {I : jI} {v0 v8 u0 u1 u2 u3 u4 u41 u5 u8 uL0 uC0 uL1 uC1 uP p13 p14 : Nat} {pc rc : Nat → Nat} {D : DAT} {a : Nat → Int32} (X : CWD Z I v0 v8 u0 u1 u2 u3 u4 u41 u5 u8 uL0 uC0 uL1 uC1 uP p13 p14 pc rc D a) (bd : BUD B Z T) (v1 : Int32) {Q : Int32 → jZ → jI → jL → Prop}
    (hQ : ∀ (r : Int32) (Z' : jZ) (I' : jI) (L' : jL), WHd D a v1 r.toInt → CWD Z' I' v0 v8 u0 u1 u2 u3 u4 u41 u5 u8 uL0 uC0 uL1 uC1 uP p13 p14 pc rc D a → BUD B Z' T → FR ((8, 1) :: Wwh) Z I Z' I' → CP Z Z' → Q r Z' I' L') : f_X11_whole B v0 v1 Z I L Q := by
  have z0 : (0 : Int32).toInt = 0 := rfl
  have w := X.w
  have kv := X.kv
  have n24 := X.dok.1
  obtain ⟨u, h, k, l⟩ := sh_f w.1 kv (j := 11) (k := 14) (m := 3) rfl
  obtain ⟨u', h', k', l'⟩ := sh_f w.1 kv (j := 12) (k := 14) (m := 3) rfl
  unfold f_X11_whole
  intro b hb; cases X.h2.symm.trans hb
  refine X.has v1 (fun r hr => ⟨fun c => ?_, fun c => hQ _ Z I L (Or.inl ⟨?_, rfl⟩) X bd FR.rf CP.rf⟩)
  · have c := (not_congr (i_eq rfl z0)).mp c
    have hin : 0 ≤ v1.toInt ∧ v1.toInt < (dN D : Int) := by omega
    obtain ⟨s, es⟩ : ∃ s : Nat, v1.toInt = (s : Int) := ⟨v1.toInt.toNat, by omega⟩
    have n1 : v1.toNatClampNeg = s := by have := i_nat es (by omega); omega
    have vi : vp_in v1 24 := vi_of es (by omega) (by omega)
    intro b hb; cases h.symm.trans hb
    refine r_X11_sumUp X bd (-1) (-1) rfl u 11 (Or.inl rfl) h k l (fun Z1 I1 L1 x c e hA hS X1 bd1 f1 cp1 => ?_)
    have f1' : FR ((8, 1) :: Wwh) Z I Z1 I1 := f1.mono (by decide)
    have g := (f1.2.1 v0 11 11 kv (by decide) (by decide)).trans h
    have g' := (f1.2.1 v0 11 12 kv (by decide) (by decide)).trans h'
    have k1 := (f1.1 _ _ k).1
    have k1' := (f1.1 _ _ k').1
    have sv : jr Z1 v8 1 = some u1 := X1.S.2.2.1
    intro b hb; cases X1.h2.symm.trans hb
    intro b hb; cases sv.symm.trans hb
    refine ⟨vi, fun was ew => ?_⟩
    intro b hb; cases X1.h2.symm.trans hb
    intro b hb; cases sv.symm.trans hb
    refine ⟨vi, fun I3 e3 => ?_⟩
    rw [n1] at e3 ew
    have rwas : 0 ≤ was.toInt ∧ was.toInt ≤ 9 := by rw [ew, X1.iS]; exact X1.dok.2.2.2.1 s (by omega)
    obtain ⟨X3, f3⟩ := X1.putS s 9 (by decide) (updA (dS D) s 9) (by rw [X1.iS])
    rw [← e3] at X3 f3
    have g3 := (f3.2.1 v0 11 12 X1.kv (by decide) (by decide)).trans g'
    intro b hb; cases g'.symm.trans hb
    refine r_X11_sumUp X3 bd1 (-1) (-1) rfl u' 12 (Or.inr rfl) g' k1' ((f1.1 _ _ k').2.trans l') (fun Z2 I2 L2 x' c' e' hA' hS' X2 bd2 f2 cp2 => ?_)
    have sv2 : jr Z2 v8 1 = some u1 := X2.S.2.2.1
    intro b hb; cases X2.h2.symm.trans hb
    intro b hb; cases sv2.symm.trans hb
    refine ⟨vi, fun I4 e4 => ?_⟩
    rw [n1] at e4
    obtain ⟨X4, f4⟩ := X2.putS s was rwas (dS D) (by
      rw [X2.iS]
      funext i
      show dS D i = updA (updA (dS D) s 9) s was i
      unfold updA
      by_cases c9 : i = s
      · rw [if_pos c9, ew, X1.iS, c9]
      · rw [if_neg c9, if_neg c9])
    rw [← e4] at X4 f4
    have X5 : CWD Z2 I4 v0 v8 u0 u1 u2 u3 u4 u41 u5 u8 uL0 uC0 uL1 uC1 uP p13 p14 pc rc D a := X4
    have hS4 := SMc_fr f4 X2.kv ((f2.2.1 v0 11 11 X3.kv (by decide) (by decide)).trans g) (f2.1 _ _ k1).1 rfl (by decide) (SMc_fr f2 X3.kv g k1 rfl (by decide) (SMc_fr f3 X1.kv g k1 rfl (by decide) hS))
    have hS4' := SMc_fr f4 X2.kv ((f2.2.1 v0 11 12 X3.kv (by decide) (by decide)).trans g') (f2.1 _ _ k1').1 rfl (by decide) hS'
    refine r_X11_tellDifferences X5.w v0 u u' X5.kv ((f2.2.1 v0 11 11 X3.kv (by decide) (by decide)).trans g) ((f2.2.1 v0 11 12 X3.kv (by decide) (by decide)).trans g') (f2.1 _ _ k1).1 (f2.1 _ _ k1').1 hS4 hS4' (fun r5 I5 L5 hd w5 f5 => ?_)
    refine hQ r5 Z2 I5 L5 (Or.inr ⟨hin, x, c, e, x', c', e', hA, ?_, hd⟩) (X5.fr w5 f5 (by decide) (by decide)) bd2 ((((f1'.trans w.1 w.2.1 (f3.mono (by decide))).trans w.1 w.2.1 (f2.mono (by decide))).trans w.1 w.2.1 (f4.mono (by decide))).trans w.1 w.2.1 (f5.mono (by decide))) (CP.trans f1.1 cp1 cp2)
    rw [show v1.toInt.toNat = s by omega]
    exact hA'
  · have c := (i_eq rfl z0).mp c
    omega
/-! ===== the reference: were a step whole, shut ===== -/
def Wk12s : List (Nat × Nat) := [(12, 0), (12, 1), (12, 4), (12, 5), (12, 8), (12, 9), (12, 10), (12, 11), (12, 30), (12, 39), (19, 0), (19, 1)]
theorem RFM.fraS {W : List (Nat × Nat)} {Z' : jZ} {I' : jI} {S1 V1 : Nat → Int32} {X1 : Int → Int → Int32} {L1 : Nat → Int} {Z : jZ} {I : jI} {v0 t1 t2 t3 t4 t5 t6 t9 t10 t11 t12 t13 t29 t30 uX0 uX1 : Nat} {s0 s1 : Int} {D : DAT} {a : Nat → Int32} (X : RFM Z I v0 t1 t2 t3 t4 t5 t6 t9 t10 t11 t12 t13 t29 t30 uX0 uX1 s0 s1 D a) (w' : WD Z' I') (f : FR W Z I Z' I') (hW : ∀ p ∈ Wk12s, p ∉ W) (h3' : ∀ k, k < dN D → I' t3 k = a k) (hS : ∀ k, k < dN D → I' t2 k = S1 k) (hX : ∀ st fr : Int, 0 ≤ st → st < (dN D : Int) → -1 ≤ fr → fr < (dN D : Int) → xLm (dMn D) (I' t6) st fr = X1 st fr) (hL : ∀ p, p < dP D → (I' t12 p).toInt = L1 p ∧ I' t13 p = V1 p) : RFM Z' I' v0 t1 t2 t3 t4 t5 t6 t9 t10 t11 t12 t13 t29 t30 uX0 uX1 s0 s1 (set4 D S1 X1 V1 L1) a := by
  have w := X.w
  obtain ⟨k1, k2, k3, k4, k6, k29, l29, k30⟩ := STm_k w X.S
  obtain ⟨kv, h1, h2, h3, h4, h6, h29, h30⟩ := X.S
  obtain ⟨x, ex, k5, -⟩ := sh_f w.1 kv (j := 5) (k := 14) (m := 192) rfl
  cases X.h5.symm.trans ex
  obtain ⟨x, ex, k9, -⟩ := sh_f w.1 kv (j := 9) (k := 14) (m := 6) rfl
  cases X.h9.symm.trans ex
  obtain ⟨x, ex, k10, -⟩ := sh_f w.1 kv (j := 10) (k := 14) (m := 6) rfl
  cases X.h10.symm.trans ex
  obtain ⟨x, ex, k11, -⟩ := sh_f w.1 kv (j := 11) (k := 14) (m := 6) rfl
  cases X.h11.symm.trans ex
  obtain ⟨x, ex, k12, -⟩ := sh_f w.1 kv (j := 12) (k := 14) (m := 6) rfl
  cases X.h12.symm.trans ex
  obtain ⟨x, ex, k13, -⟩ := sh_f w.1 kv (j := 13) (k := 14) (m := 6) rfl
  cases X.h13.symm.trans ex
  obtain ⟨x, ex, kX0, -⟩ := w.1.2.2.2 t29 k29 0 (by rw [l29]; decide)
  cases X.hX0.symm.trans ex
  obtain ⟨x, ex, kX1, -⟩ := w.1.2.2.2 t29 k29 1 (by rw [l29]; decide)
  cases X.hX1.symm.trans ex
  have rf : ∀ (j b : Nat), jr Z v0 j = some b → j ≠ 23 → jr Z' v0 j = some b := fun j b e hj => (f.2.1 v0 12 j kv (fun q => absurd q.1 (by decide)) (fun q => hj q.2)).trans e
  have ar : ∀ (j b k : Nat), jr Z v0 j = some b → jk Z b k → jia k = true → j ≠ 23 → (12, j) ∈ Wk12s → I' b = I b := fun j b k e kb hk hj hn => f.2.2.2 v0 12 j b kv e (by rw [kb.2]; exact hk) (jsr12 hj) (hW _ hn)
  have fl : ∀ j, (12, j) ∈ Wk12s → I' v0 j = I v0 j := fun j hj => f.2.2.1 v0 12 j kv (by decide) (hW _ hj)
  have a1 := ar 1 t1 14 h1 k1 rfl (by decide) (by decide)
  have a4 := ar 4 t4 16 h4 k4 rfl (by decide) (by decide)
  have a5 := ar 5 t5 14 X.h5 k5 rfl (by decide) (by decide)
  have a9 := ar 9 t9 14 X.h9 k9 rfl (by decide) (by decide)
  have a10 := ar 10 t10 14 X.h10 k10 rfl (by decide) (by decide)
  have a11 := ar 11 t11 14 X.h11 k11 rfl (by decide) (by decide)
  have a30 := ar 30 t30 14 h30 k30 rfl (by decide) (by decide)
  have aX0 : I' uX0 = I uX0 := f.2.2.2 t29 19 0 uX0 k29 X.hX0 (by rw [kX0.2]; rfl) rfl (hW _ (by decide))
  have aX1 : I' uX1 = I uX1 := f.2.2.2 t29 19 1 uX1 k29 X.hX1 (by rw [kX1.2]; rfl) rfl (hW _ (by decide))
  refine ⟨w', ⟨(f.1 _ _ kv).1, rf 1 _ h1 (by decide), rf 2 _ h2 (by decide), rf 3 _ h3 (by decide), rf 4 _ h4 (by decide), rf 6 _ h6 (by decide), rf 29 _ h29 (by decide), rf 30 _ h30 (by decide)⟩, rf 5 _ X.h5 (by decide), rf 9 _ X.h9 (by decide), rf 10 _ X.h10 (by decide), rf 11 _ X.h11 (by decide), rf 12 _ X.h12 (by decide), rf 13 _ X.h13 (by decide), (f.2.1 t29 19 0 k29 (by decide) (by decide)).trans X.hX0, (f.2.1 t29 19 1 k29 (by decide) (by decide)).trans X.hX1, ?_, ?_, ?_, ?_, ?_, ?_, ?_, ?_, ?_, ?_, ?_, ?_, ?_, ?_⟩
  · rw [a30, aX0]; exact X.g0
  · rw [a30, aX1]; exact X.g1
  · rw [aX0]; exact X.d0
  · rw [aX1]; exact X.d1
  · rw [fl 0 (by decide)]; exact X.hn
  · rw [fl 8 (by decide)]; exact X.hp
  · exact h3'
  · rw [a1]; exact X.hr
  · exact hS
  · rw [a4]; exact X.hw
  · exact hX
  · rw [a5]; exact X.hm
  · rw [a9, a10, a11]; exact fun p hp => ⟨(X.pil p hp).1, (X.pil p hp).2.1, (X.pil p hp).2.2.1, hL p hp⟩
  · rw [fl 39 (by decide)]; exact X.sh

set_option maxHeartbeats 1000000 in
theorem r_X12_tellMore {Z : jZ} {I : jI} {L : jL} (w : WD Z I) (v0 : Nat) (kv : jk Z v0 12) (v1 v2 v3 : Int32) {x c e x' c' e' : Int} (g1 : v1.toInt = x) (g2 : v2.toInt = c) (g3 : v3.toInt = e) (hS : SMm I v0 x' c' e') {Q : Int32 → jI → jL → Prop}
    (hQ : ∀ (r : Int32) (I' : jI) (L' : jL), DFd x c e x' c' e' r.toInt → WD Z I' → FR [(12, 21)] Z I Z I' → Q r I' L') : f_X12_tellMore v0 v1 v2 v3 Z I L Q := by
  unfold f_X12_tellMore
  intro I1 e1
  have w1 : WD Z I1 := by rw [e1]; exact WD_putF w 12 21 kv (by decide) (by decide) (by first | exact trivial | (constructor <;> decide))
  have f1 : FR [(12, 21)] Z I Z I1 := by rw [e1]; exact FR_putF kv (by decide) List.mem_cons_self
  have e21 : (I1 v0 21).toInt = 0 := by rw [e1, jpI_at]; rfl
  refine s_X12_tell w1 v0 _ kv (by omega) (fun I2 L2 w2 f2 e2 => ?_)
  refine s_X12_tell w2 v0 _ kv (by omega) (fun I3 L3 w3 f3 e3 => ?_)
  refine s_X12_tell w3 v0 _ kv (by omega) (fun I4 L4 w4 f4 e4 => ?_)
  have f14 : FR [(12, 21)] Z I Z I4 := ((f1.trans w.1 w.2.1 (f2.mono (by decide))).trans w.1 w.2.1 (f3.mono (by decide))).trans w.1 w.2.1 (f4.mono (by decide))
  obtain ⟨s1, s2, s3⟩ := SMm_fr f14 kv (by decide) (by decide) (by decide) hS
  have no : ¬ (x' = x ∧ c' = c ∧ e' = e) → f_X12_tellMore_b62 Z Q I4 L4 := fun n => by
    unfold f_X12_tellMore_b62
    exact hQ 1 I4 L4 (Or.inr ⟨rfl, n⟩) w4 f14
  refine ⟨fun c1 => no (fun q => c1 ((i_eq s1 g1).mpr q.1)), fun c1 => ⟨fun c2 => no (fun q => c2 ((i_eq s2 g2).mpr q.2.1)), fun c2 => ⟨fun c3 => ?_, fun c3 => no (fun q => c3 ((i_eq s3 g3).mpr q.2.2))⟩⟩⟩
  exact hQ 0 I4 L4 (Or.inl ⟨rfl, (i_eq s1 g1).mp c1, (i_eq s2 g2).mp c2, (i_eq s3 g3).mp c3⟩) w4 f14
theorem RFM.putS {Z : jZ} {I : jI} {v0 t1 t2 t3 t4 t5 t6 t9 t10 t11 t12 t13 t29 t30 uX0 uX1 : Nat} {s0 s1 : Int} {D : DAT} {a : Nat → Int32} (X : RFM Z I v0 t1 t2 t3 t4 t5 t6 t9 t10 t11 t12 t13 t29 t30 uX0 uX1 s0 s1 D a) (s : Nat) (v : Int32) (rv : 0 ≤ v.toInt ∧ v.toInt ≤ 9) (S1 : Nat → Int32) (hS : ∀ k, k < dN D → S1 k = updA (I t2) s v k) : RFM Z (jpI I t2 s v) v0 t1 t2 t3 t4 t5 t6 t9 t10 t11 t12 t13 t29 t30 uX0 uX1 s0 s1 (set4 D S1 (dX D) (dVw D) (dLd D)) a ∧ FR [(12, 2)] Z I Z (jpI I t2 s v) := by
  obtain ⟨k1, k2, k3, k4, k6, k29, l29, k30⟩ := STm_k X.w X.S
  have kv := X.S.1
  have h2 := X.S.2.2.1
  have h3 := X.S.2.2.2.1
  have h6 := X.S.2.2.2.2.2.1
  have w' : WD Z (jpI I t2 s v) := WD_putA X.w 12 2 kv h2 k2 rfl rfl (by decide) (by constructor <;> omega)
  have f' : FR [(12, 2)] Z I Z (jpI I t2 s v) := FR_upA X.w.2.1 kv h2 k2 rfl rfl List.mem_cons_self
  have a3 : jpI I t2 s v t3 = I t3 := f'.2.2.2 v0 12 3 t3 kv h3 (by rw [k3.2]; rfl) rfl (by decide)
  have a6 : jpI I t2 s v t6 = I t6 := f'.2.2.2 v0 12 6 t6 kv h6 (by rw [k6.2]; rfl) rfl (by decide)
  obtain ⟨x, ex, k12, -⟩ := sh_f X.w.1 kv (j := 12) (k := 14) (m := 6) rfl
  cases X.h12.symm.trans ex
  obtain ⟨x, ex, k13, -⟩ := sh_f X.w.1 kv (j := 13) (k := 14) (m := 6) rfl
  cases X.h13.symm.trans ex
  have a12 : jpI I t2 s v t12 = I t12 := f'.2.2.2 v0 12 12 t12 kv X.h12 (by rw [k12.2]; rfl) rfl (by decide)
  have a13 : jpI I t2 s v t13 = I t13 := f'.2.2.2 v0 12 13 t13 kv X.h13 (by rw [k13.2]; rfl) rfl (by decide)
  refine ⟨X.fraS w' f' (by decide) (by rw [a3]; exact X.ha) (fun k hk => ?_) (by rw [a6]; exact X.hx) (by rw [a12, a13]; exact fun p hp => (X.pil p hp).2.2.2), f'⟩
  rw [hS k hk]
  unfold updA
  by_cases c : k = s
  · rw [if_pos c, c, jpI_at]
  · rw [if_neg c, jpI_off c]
set_option maxHeartbeats 4000000 in
theorem r_X12_whole {B : Nat × Nat} {T : Nat} {L : jL} {Z : jZ} {I : jI} {v0 t1 t2 t3 t4 t5 t6 t9 t10 t11 t12 t13 t29 t30 uX0 uX1 : Nat} {s0 s1 : Int} {D : DAT} {a : Nat → Int32} (X : RFM Z I v0 t1 t2 t3 t4 t5 t6 t9 t10 t11 t12 t13 t29 t30 uX0 uX1 s0 s1 D a) (ok : aOK a) (bd : BUD B Z T) (v1 : Int32) {Q : Int32 → jZ → jI → jL → Prop}
    (hQ : ∀ (r : Int32) (Z' : jZ) (I' : jI) (L' : jL), WHd D a v1 r.toInt → RFM Z' I' v0 t1 t2 t3 t4 t5 t6 t9 t10 t11 t12 t13 t29 t30 uX0 uX1 s0 s1 D a → BUD B Z' T → FR Ws_X12_whole Z I Z' I' → CP Z Z' → Q r Z' I' L') : f_X12_whole B v0 v1 Z I L Q := by
  have z0 : (0 : Int32).toInt = 0 := rfl
  have w := X.w
  have kv := X.S.1
  have n24 := X.dok.1
  unfold f_X12_whole
  intro I1 e1
  have w1 : WD Z I1 := by rw [e1]; exact WD_putF w 12 22 kv (by decide) (by decide) trivial
  have f1 : FR [(12, 22)] Z I Z I1 := by rw [e1]; exact FR_putF kv (by decide) List.mem_cons_self
  have X1 := X.fr w1 f1 (by decide) (by decide)
  have hn := X1.hn
  refine s_X12_isStep w1 v0 v1 kv (fun r hr => ⟨fun c => ?_, fun c => hQ _ Z I1 L (Or.inl ⟨?_, rfl⟩) X1 bd (f1.mono (by decide)) CP.rf⟩)
  · have c := (not_congr (i_eq rfl z0)).mp c
    have hin : 0 ≤ v1.toInt ∧ v1.toInt < (dN D : Int) := by omega
    obtain ⟨s, es⟩ : ∃ s : Nat, v1.toInt = (s : Int) := ⟨v1.toInt.toNat, by omega⟩
    have n1 : v1.toNatClampNeg = s := by have := i_nat es (by omega); omega
    have vi : vp_in v1 24 := vi_of es (by omega) (by omega)
    refine r_X12_findAll (RFM.fcy ok) X.dok ok X1 bd (fun Z2 I2 L2 x c e hA hS X2 bd2 f2 cp2 => ?_)
    intro x17 e17 x18 e18 x19 e19
    have kv2 := X2.S.1
    have h22 := X2.S.2.2.1
    intro b hb; cases h22.symm.trans hb
    refine ⟨vi, fun was ew => ?_⟩
    intro b hb; cases h22.symm.trans hb
    refine ⟨vi, fun I3 e3 => ?_⟩
    rw [n1] at e3 ew
    have rwas : 0 ≤ was.toInt ∧ was.toInt ≤ 9 := by rw [ew, X2.hs s (by omega)]; exact X2.dok.2.2.2.1 s (by omega)
    obtain ⟨X3, f3⟩ := X2.putS s 9 (by decide) (updA (dS D) s 9) (fun k hk => by
      unfold updA
      by_cases c9 : k = s
      · rw [if_pos c9, if_pos c9]
      · rw [if_neg c9, if_neg c9, X2.hs k hk])
    rw [← e3] at X3 f3
    refine r_X12_findAll (RFM.fcy ok) (DOK_S X.dok) ok X3 bd2 (fun Z4 I4 L4 x' c' e' hA' hS' X4 bd4 f4 cp4 => ?_)
    have h24 := X4.S.2.2.1
    intro b hb; cases h24.symm.trans hb
    refine ⟨vi, fun I5 e5 => ?_⟩
    rw [n1] at e5
    obtain ⟨X5, f5⟩ := X4.putS s was rwas (dS D) (fun k hk => by
      unfold updA
      by_cases c9 : k = s
      · rw [if_pos c9, c9, ew, X2.hs s (by omega)]
      · rw [if_neg c9, X4.hs k hk]
        show dS D k = updA (dS D) s 9 k
        unfold updA
        rw [if_neg c9])
    rw [← e5] at X5 f5
    have X6 : RFM Z4 I5 v0 t1 t2 t3 t4 t5 t6 t9 t10 t11 t12 t13 t29 t30 uX0 uX1 s0 s1 D a := X5
    have f15 : FR Ws_X12_whole Z I Z4 I5 := ((((f1.mono (by decide)).trans w.1 w.2.1 (f2.mono (by decide))).trans w.1 w.2.1 (f3.mono (by decide))).trans w.1 w.2.1 (f4.mono (by decide))).trans w.1 w.2.1 (f5.mono (by decide))
    refine r_X12_tellMore (x := x) (c := c) (e := e) X6.w v0 X6.S.1 x17 x18 x19 (by rw [e17]; exact hS.1) (by rw [e18]; exact hS.2.1) (by rw [e19]; exact hS.2.2) (SMm_fr f5 X4.S.1 (by decide) (by decide) (by decide) hS') (fun r7 I7 L7 hd w7 f7 => ?_)
    refine hQ r7 Z4 I7 L7 (Or.inr ⟨hin, x, c, e, x', c', e', hA, ?_, hd⟩) (X6.fr w7 f7 (by decide) (by decide)) bd4 (f15.trans w.1 w.2.1 (f7.mono (by decide))) (CP.trans f2.1 cp2 cp4)
    rw [show v1.toInt.toNat = s by omega]
    exact hA'
  · have c := (i_eq rfl z0).mp c
    omega
/-! ===== the class: toll ===== -/
theorem tl_L22 {B : Nat × Nat} {Z : jZ} {I : jI} (w : WD Z I) (v0 p14 : Nat) (kv : jk Z v0 11) (h14 : jr Z v0 14 = some p14) {Q : Int32 → jZ → jI → jL → Prop}
    (hQ : ∀ (r : Int32) (I' : jI) (L' : jL), r.toInt = (lstE (fun v => (I p14 v).toInt) 20 : Int) → WD Z I' → FR [(11, 16)] Z I Z I' → Q r Z I' L') :
    ∀ (k p : Nat) (v2 v3 : Int32) (L : jL), 22 ≤ k + p → 1 ≤ p → p ≤ 21 → v3.toInt = (p : Int) → v2.toInt = (lstE (fun v => (I p14 v).toInt) (p - 1) : Int) → f_X11_toll_L22 B Q k v0 v2 v3 Z I L := by
  have z1 : (1 : Int32).toInt = 1 := rfl
  have z20 : (20 : Int32).toInt = 20 := rfl
  have q0 : (0 : Int32).toNatClampNeg = 0 := rfl
  intro k
  induction k with
  | zero => intro p v2 v3 L hk h1 hi; omega
  | succ k ih =>
    intro p v2 v3 L hk h1 hi e3 e2
    have n3 : v3.toNatClampNeg = p := by have := i_nat e3 (by omega); omega
    have nx : ∀ y : Int32, y = v3 + 1 → y.toInt = ((p + 1 : Nat) : Int) := fun y ey => by rw [ey]; exact (i_add e3 z1 (by omega) (by omega)).trans (by omega)
    unfold f_X11_toll_L22
    refine ⟨fun c => ?_, fun c => ?_⟩
    · have c := (i_lt z20 e3).mp c
      have p21 : p = 21 := by omega
      subst p21
      intro b hb; cases h14.symm.trans hb
      exact s_X11_tellOne w v0 _ kv (fun I2 L2 w2 f2 => hQ v2 I2 L2 e2 w2 (f2.mono (by decide)))
    · have c := (not_congr (i_lt z20 e3)).mp c
      intro b hb; cases h14.symm.trans hb
      refine ⟨vi_of e3 (by omega) (by omega), fun b hb => ?_⟩
      cases h14.symm.trans hb
      rw [n3, q0]
      have st : lstE (fun v => (I p14 v).toInt) p = if (I p14 p).toInt = (I p14 0).toInt then p else lstE (fun v => (I p14 v).toInt) (p - 1) := by
        cases p with
        | zero => omega
        | succ p => rfl
      refine ⟨fun c2 => ?_, fun c2 => ?_⟩
      · unfold f_X11_toll_b48
        intro x1 e1
        refine ih (p + 1) v2 x1 L (by omega) (by omega) (by omega) (nx x1 e1) ?_
        rw [show p + 1 - 1 = p by omega, st, if_neg (fun q => c2 ((i_eq rfl rfl).mpr q))]
        exact e2
      · unfold f_X11_toll_b48
        intro x1 e1
        refine ih (p + 1) v3 x1 L (by omega) (by omega) (by omega) (nx x1 e1) ?_
        rw [show p + 1 - 1 = p by omega, st, if_pos (congrArg Int32.toInt c2)]
        exact e3
def Wtl : List (Nat × Nat) := (11, 16) :: Whg
theorem r_X11_toll {B : Nat × Nat} {T : Nat} {L : jL} {Z : jZ} {I : jI} {v0 v8 u0 u1 u2 u3 u4 u41 u5 u8 uL0 uC0 uL1 uC1 uP p13 p14 : Nat} {pc rc : Nat → Nat} {D : DAT} {a : Nat → Int32} (X : CWD Z I v0 v8 u0 u1 u2 u3 u4 u41 u5 u8 uL0 uC0 uL1 uC1 uP p13 p14 pc rc D a) (bd : BUD B Z T) (v1 : Int32) {Q : Int32 → jZ → jI → jL → Prop}
    (hQ : ∀ (r : Int32) (Z' : jZ) (I' : jI) (L' : jL), TLd D a v1 r.toInt → CWD Z' I' v0 v8 u0 u1 u2 u3 u4 u41 u5 u8 uL0 uC0 uL1 uC1 uP p13 p14 pc rc D a → BUD B Z' T → FR Wtl Z I Z' I' → CP Z Z' → Q r Z' I' L') : f_X11_toll B v0 v1 Z I L Q := by
  have z0 : (0 : Int32).toInt = 0 := rfl
  unfold f_X11_toll
  intro b hb; cases X.h2.symm.trans hb
  refine X.has v1 (fun r hr => ⟨fun c => ?_, fun c => hQ _ Z I L (Or.inl ⟨?_, rfl⟩) X bd FR.rf CP.rf⟩)
  · have c := (not_congr (i_eq rfl z0)).mp c
    obtain ⟨s, e1⟩ : ∃ s : Nat, v1.toInt = (s : Int) := ⟨v1.toInt.toNat, by omega⟩
    have hs : s < dN D := by omega
    refine r_X11_weighAlone X bd s hs v1 e1 (fun Z' I' L' X' bd' f' cp' hS => ?_)
    refine ⟨22, tl_L22 X'.w v0 p14 X'.kv X'.h14 (fun r2 I2 L2 er w2 f2 => ?_) 22 1 0 1 L' (by omega) (by omega) (by omega) rfl rfl⟩
    obtain ⟨l1, l2, l3⟩ := lstE_ok (fun v => (I' p14 v).toInt) 20
    have al : ∀ v : Nat, v < 21 → ∃ c e, ALd D (updA a s (Int32.ofNat v)) (-1) (I' p14 v).toInt c e := fun v hv => TOT_AL (by omega) (SUMo_tot hS v hv)
    refine hQ r2 Z' I2 L2 (Or.inr ⟨by omega, lstE (fun v => (I' p14 v).toInt) 20, l1, er, (I' p14 0).toInt, ?_, ?_, fun w h1 h2 => ?_⟩) (X'.fr w2 f2 (by decide) (by decide)) bd' ((f'.mono (fun q hq => List.mem_cons_of_mem _ hq)).trans X.w.1 X.w.2.1 (f2.mono (fun q hq => by rw [List.mem_singleton.mp hq]; exact List.mem_cons_self))) cp'
    · rw [show v1.toInt.toNat = s by omega]
      exact al 0 (by omega)
    · rw [show v1.toInt.toNat = s by omega]
      have h := al (lstE (fun v => (I' p14 v).toInt) 20) (by omega)
      rw [show (I' p14 (lstE (fun v => (I' p14 v).toInt) 20)).toInt = (I' p14 0).toInt from l2] at h
      exact h
    · rw [show v1.toInt.toNat = s by omega]
      obtain ⟨c, e, h⟩ := al w (by omega)
      exact ⟨_, c, e, h, l3 w h1 h2⟩
  · have c := (i_eq rfl z0).mp c
    omega
/-! ===== the reference: toll ===== -/
set_option maxHeartbeats 4000000 in
theorem tl_L54 {B : Nat × Nat} {T : Nat} {Z0 : jZ} {I0 : jI} (w0 : WD Z0 I0) {v0 t1 t2 t3 t4 t5 t6 t9 t10 t11 t12 t13 t29 t30 uX0 uX1 : Nat} {s0 s1 : Int} {D : DAT} {a : Nat → Int32} (ok : aOK a) (d : DOK D) (s : Nat) (hs : s < dN D) (v1 v2 v3 : Int32) (e1 : v1.toInt = (s : Int)) (e2 : v2 = a s) (x0 c0 e0 : Int) (e3 : v3.toInt = x0) (h0 : ALd D (updA a s (Int32.ofNat 0)) (-1) x0 c0 e0) {Q : Int32 → jZ → jI → jL → Prop}
    (hQ : ∀ (r : Int32) (Z' : jZ) (I' : jI) (L' : jL) (v : Nat), v ≤ 20 → r.toInt = (v : Int) → (∃ c e, ALd D (updA a s (Int32.ofNat v)) (-1) x0 c e) → (∀ w : Nat, v < w → w ≤ 20 → ∃ x c e, ALd D (updA a s (Int32.ofNat w)) (-1) x c e ∧ ¬ x = x0) → RFM Z' I' v0 t1 t2 t3 t4 t5 t6 t9 t10 t11 t12 t13 t29 t30 uX0 uX1 s0 s1 D a → BUD B Z' T → FR Ws_X12_toll Z0 I0 Z' I' → CP Z0 Z' → Q r Z' I' L') :
    ∀ (k v : Nat) (v4 : Int32) (Z : jZ) (I : jI) (L : jL) (x c e : Int), v + 1 ≤ k → v ≤ 20 → v4.toInt = (v : Int) → RFM Z I v0 t1 t2 t3 t4 t5 t6 t9 t10 t11 t12 t13 t29 t30 uX0 uX1 s0 s1 D (updA a s (Int32.ofNat v)) → BUD B Z T → FR Ws_X12_toll Z0 I0 Z I → CP Z0 Z → ALd D (updA a s (Int32.ofNat v)) (-1) x c e → SMm I v0 x c e → (∀ w : Nat, v < w → w ≤ 20 → ∃ x c e, ALd D (updA a s (Int32.ofNat w)) (-1) x c e ∧ ¬ x = x0) → f_X12_toll_L54 B Q k v0 v1 v2 v3 v4 Z I L := by
  have z1 : (-1 : Int32).toInt = -1 := by decide
  have n24 := d.1
  have n1 : v1.toNatClampNeg = s := by have := i_nat e1 (by omega); omega
  have vi : vp_in v1 24 := vi_of e1 (by omega) (by omega)
  intro k
  induction k with
  | zero => intro v v4 Z I L x c e hk; omega
  | succ k ih =>
    intro v v4 Z I L x c e hk hv ev X bd f0 cp0 hA hS hW
    have kv := X.S.1
    have h3 := X.S.2.2.2.1
    unfold f_X12_toll_L54
    refine ⟨fun c1 => ?_, fun c1 => ?_⟩
    · have ex : x = x0 := by
        have := congrArg Int32.toInt c1
        rw [hS.1, e3] at this
        exact this
      intro b hb; cases h3.symm.trans hb
      refine ⟨vi, fun I4 e4 I5 e5 => ?_⟩
      rw [n1] at e4
      obtain ⟨X4, f4⟩ := X.put s v2 (by rw [e2]; exact ok s)
      rw [← e4] at X4 f4
      have ea : updA (updA a s (Int32.ofNat v)) s v2 = a := by rw [e2]; exact updA_back
      rw [ea] at X4
      have w5 : WD Z I5 := by rw [e5]; exact WD_putF X4.w 12 21 kv (by decide) (by decide) (by first | exact trivial | (constructor <;> decide))
      have f5 : FR [(12, 21)] Z I4 Z I5 := by rw [e5]; exact FR_putF kv (by decide) List.mem_cons_self
      have e21 : (I5 v0 21).toInt = 0 := by rw [e5, jpI_at]; rfl
      have X5 := X4.fr w5 f5 (by decide) (by decide)
      refine s_X12_tell w5 v0 _ kv (by omega) (fun I6 L6 w6 f6 _ => ?_)
      exact hQ v4 Z I6 L6 v hv ev ⟨c, e, by rw [← ex]; exact hA⟩ hW (X5.fr w6 f6 (by decide) (by decide)) bd (((f0.trans w0.1 w0.2.1 (f4.mono (by decide))).trans w0.1 w0.2.1 (f5.mono (by decide))).trans w0.1 w0.2.1 (f6.mono (by decide))) cp0
    · have nx : ¬ x = x0 := fun q => c1 ((i_eq hS.1 e3).mpr q)
      have v1' : 1 ≤ v := by
        refine Nat.one_le_iff_ne_zero.mpr (fun q => ?_)
        subst q
        exact nx (ALd_fun d (aOK_upd ok (by omega)) hA h0).1
      intro x12 e12
      have ev' : x12.toInt = ((v - 1 : Nat) : Int) := by rw [e12]; exact (i_add ev z1 (by omega) (by omega)).trans (by omega)
      intro b hb; cases h3.symm.trans hb
      refine ⟨vi, fun I4 e4 => ?_⟩
      rw [n1] at e4
      obtain ⟨X4, f4⟩ := X.put s x12 (by omega)
      rw [← e4] at X4 f4
      have ea : updA (updA a s (Int32.ofNat v)) s x12 = updA a s (Int32.ofNat (v - 1)) := by
        rw [i_of (v := x12) (n := v - 1) ev' (by omega)]
        funext i
        unfold updA
        by_cases c9 : i = s
        · rw [if_pos c9, if_pos c9]
        · rw [if_neg c9, if_neg c9, if_neg c9]
      rw [ea] at X4
      refine r_X12_findAll (RFM.fcy (aOK_upd ok (by omega))) d (aOK_upd ok (by omega)) X4 bd (fun Z5 I5 L5 x5 c5 e5 hA5 hS5 X5 bd5 f5 cp5 => ?_)
      refine ih (v - 1) x12 Z5 I5 L5 x5 c5 e5 (by omega) (by omega) ev' X5 bd5 ((f0.trans w0.1 w0.2.1 (f4.mono (by decide))).trans w0.1 w0.2.1 (f5.mono (by decide))) (CP.trans f0.1 cp0 cp5) hA5 hS5 (fun w h1 h2 => ?_)
      by_cases c9 : w = v
      · exact ⟨x, c, e, by rw [c9]; exact hA, nx⟩
      · exact hW w (by omega) h2
set_option maxHeartbeats 4000000 in
theorem r_X12_toll {B : Nat × Nat} {T : Nat} {L : jL} {Z : jZ} {I : jI} {v0 t1 t2 t3 t4 t5 t6 t9 t10 t11 t12 t13 t29 t30 uX0 uX1 : Nat} {s0 s1 : Int} {D : DAT} {a : Nat → Int32} (X : RFM Z I v0 t1 t2 t3 t4 t5 t6 t9 t10 t11 t12 t13 t29 t30 uX0 uX1 s0 s1 D a) (ok : aOK a) (bd : BUD B Z T) (v1 : Int32) {Q : Int32 → jZ → jI → jL → Prop}
    (hQ : ∀ (r : Int32) (Z' : jZ) (I' : jI) (L' : jL), TLd D a v1 r.toInt → RFM Z' I' v0 t1 t2 t3 t4 t5 t6 t9 t10 t11 t12 t13 t29 t30 uX0 uX1 s0 s1 D a → BUD B Z' T → FR Ws_X12_toll Z I Z' I' → CP Z Z' → Q r Z' I' L') : f_X12_toll B v0 v1 Z I L Q := by
  have z0 : (0 : Int32).toInt = 0 := rfl
  have w := X.w
  have kv := X.S.1
  have d := X.dok
  have n24 := d.1
  unfold f_X12_toll
  intro I1 e1
  have w1 : WD Z I1 := by rw [e1]; exact WD_putF w 12 22 kv (by decide) (by decide) trivial
  have f1 : FR [(12, 22)] Z I Z I1 := by rw [e1]; exact FR_putF kv (by decide) List.mem_cons_self
  have X1 := X.fr w1 f1 (by decide) (by decide)
  have hn := X1.hn
  have h3 := X1.S.2.2.2.1
  refine s_X12_isStep w1 v0 v1 kv (fun r hr => ⟨fun c => ?_, fun c => hQ _ Z I1 L (Or.inl ⟨?_, rfl⟩) X1 bd (f1.mono (by decide)) CP.rf⟩)
  · have c := (not_congr (i_eq rfl z0)).mp c
    obtain ⟨s, es⟩ : ∃ s : Nat, v1.toInt = (s : Int) := ⟨v1.toInt.toNat, by omega⟩
    have hs : s < dN D := by omega
    have n1 : v1.toNatClampNeg = s := by have := i_nat es (by omega); omega
    have vi : vp_in v1 24 := vi_of es (by omega) (by omega)
    intro b hb; cases h3.symm.trans hb
    refine ⟨vi, fun was ew => ?_⟩
    intro b hb; cases h3.symm.trans hb
    refine ⟨vi, fun I2 e2 => ?_⟩
    rw [n1] at ew e2
    have ew' : was = a s := ew.trans (X1.ha s hs)
    obtain ⟨X2, f2⟩ := X1.put s 0 (by decide)
    rw [← e2] at X2 f2
    refine r_X12_findAll (RFM.fcy (aOK_upI ok (by decide))) d (aOK_upI ok (by decide)) X2 bd (fun Z3 I3 L3 x0 c0 e0 hA0 hS0 X3 bd3 f3 cp3 => ?_)
    intro x45 e45
    have h33 := X3.S.2.2.2.1
    intro b hb; cases h33.symm.trans hb
    refine ⟨vi, fun I4 e4 => ?_⟩
    rw [n1] at e4
    obtain ⟨X4, f4⟩ := X3.put s 20 (by decide)
    rw [← e4] at X4 f4
    have ea : updA (updA a s 0) s 20 = updA a s (Int32.ofNat 20) := by
      funext i
      unfold updA
      by_cases c9 : i = s
      · rw [if_pos c9, if_pos c9]
        rfl
      · rw [if_neg c9, if_neg c9, if_neg c9]
    rw [ea] at X4
    refine r_X12_findAll (RFM.fcy (aOK_upd ok (by omega))) d (aOK_upd ok (by omega)) X4 bd3 (fun Z5 I5 L5 x c e hA hS X5 bd5 f5 cp5 => ?_)
    have f15 : FR Ws_X12_toll Z I Z5 I5 := ((((f1.mono (by decide)).trans w.1 w.2.1 (f2.mono (by decide))).trans w.1 w.2.1 (f3.mono (by decide))).trans w.1 w.2.1 (f4.mono (by decide))).trans w.1 w.2.1 (f5.mono (by decide))
    refine ⟨21, tl_L54 w ok d s hs v1 was x45 es ew' x0 c0 e0 (by rw [e45]; exact hS0.1) hA0 (fun r7 Z7 I7 L7 v hv er a1 a2 X7 bd7 f7 cp7 => ?_) 21 20 20 Z5 I5 L5 x c e (by omega) (by omega) rfl X5 bd5 f15 (CP.trans f3.1 cp3 cp5) hA hS (fun w h1 h2 => by omega)⟩
    refine hQ r7 Z7 I7 L7 (Or.inr ⟨by omega, v, hv, er, x0, ?_, ?_, ?_⟩) X7 bd7 f7 cp7
    · rw [show v1.toInt.toNat = s by omega]
      exact ⟨c0, e0, hA0⟩
    · rw [show v1.toInt.toNat = s by omega]
      exact a1
    · rw [show v1.toInt.toNat = s by omega]
      exact a2
  · have c := (i_eq rfl z0).mp c
    omega
/-! ===== all, whole, toll: the class and the reference ===== -/
/-- all: the class's call, and what it promises of the reference's -/
theorem SAM_all1 {B : Nat × Nat} {T : Nat} {L : jL} {Z : jZ} {I : jI} {v1 v2 uF uR uX uA uW uP x0 x1 u5c uFe uT uL0 uC0 uL1 uC1 uV p13 p14 : Nat} {vR vX vA vW v5 t6 t9 t10 t11 t12 t13 t29 t30 q0 q1 : Nat} (X : SAM Z I v1 v2 uF uR uX uA uW uP x0 x1 u5c uFe uT uL0 uC0 uL1 uC1 uV p13 p14 vR vX vA vW v5 t6 t9 t10 t11 t12 t13 t29 t30 q0 q1) (bd : BUD B Z T) {Q : Int32 → jZ → jI → jL → Prop}
    (hQ : ∀ (r1 : Int32) (Z1 : jZ) (I1 : jI) (L1 : jL), WD Z1 I1 → BUD B Z1 T → FR Wal Z I Z1 I1 → CP Z Z1 → (∀ (L : jL) (Q2 : Int32 → jZ → jI → jL → Prop), (∀ (r2 : Int32) (Z2 : jZ) (I2 : jI) (L2 : jL), r1.toInt = r2.toInt → WD Z2 I2 → BUD B Z2 T → FR Ws_X12_all Z1 I1 Z2 I2 → CP Z1 Z2 → Q2 r2 Z2 I2 L2) → f_X12_all B v2 Z1 I1 L Q2) → Q r1 Z1 I1 L1) : f_X11_all B v1 Z I L Q := by
  have d := X.rfm.dok
  have ok := X.ok
  refine r_X11_all X.cwd bd (fun r1 Z1 I1 L1 x1 e1 hm w1 bd1 f1 cp1 => hQ r1 Z1 I1 L1 w1 bd1 f1 cp1 (fun L Q2 h2 => ?_))
  have Y1 := X.rfm.fr w1 f1 (by decide) (by decide)
  refine r_X12_all Y1 ok bd1 (fun r2 Z2 I2 L2 x2 e2 hm2 w2 bd2 f2 cp2 => h2 r2 Z2 I2 L2 (ALd_fun d ok hm hm2).2.1 w2 bd2 f2 cp2)
/-- whole: the class's call, and what it promises of the reference's -/
theorem SAM_whole1 {B : Nat × Nat} {T : Nat} {L : jL} {Z : jZ} {I : jI} {v1 v2 uF uR uX uA uW uP x0 x1 u5c uFe uT uL0 uC0 uL1 uC1 uV p13 p14 : Nat} {vR vX vA vW v5 t6 t9 t10 t11 t12 t13 t29 t30 q0 q1 : Nat} (X : SAM Z I v1 v2 uF uR uX uA uW uP x0 x1 u5c uFe uT uL0 uC0 uL1 uC1 uV p13 p14 vR vX vA vW v5 t6 t9 t10 t11 t12 t13 t29 t30 q0 q1) (bd : BUD B Z T) (a : Int32) {Q : Int32 → jZ → jI → jL → Prop}
    (hQ : ∀ (r1 : Int32) (Z1 : jZ) (I1 : jI) (L1 : jL), WD Z1 I1 → BUD B Z1 T → FR ((8, 1) :: Wwh) Z I Z1 I1 → CP Z Z1 → (I1 uX = I uX) → (∀ (L : jL) (Q2 : Int32 → jZ → jI → jL → Prop), (∀ (r2 : Int32) (Z2 : jZ) (I2 : jI) (L2 : jL), r1.toInt = r2.toInt → WD Z2 I2 → BUD B Z2 T → FR Ws_X12_whole Z1 I1 Z2 I2 → CP Z1 Z2 → (ARr (I2 v2 0).toInt (I2 uX) (I2 vX)) → Q2 r2 Z2 I2 L2) → f_X12_whole B v2 a Z1 I1 L Q2) → Q r1 Z1 I1 L1) : f_X11_whole B v1 a Z I L Q := by
  have d := X.rfm.dok
  have ok := X.ok
  refine r_X11_whole X.cwd bd a (fun r1 Z1 I1 L1 hm X1 bd1 f1 cp1 => hQ r1 Z1 I1 L1 X1.w bd1 f1 cp1 (X1.iS) (fun L Q2 h2 => ?_))
  have Y1 := X.rfm.fr X1.w f1 (by decide) (by decide)
  refine r_X12_whole Y1 ok bd1 a (fun r2 Z2 I2 L2 hm2 Y2 bd2 f2 cp2 => h2 r2 Z2 I2 L2 (WHd_fun d ok hm hm2) Y2.w bd2 f2 cp2 (fun s hs => by
    rw [Y2.hn] at hs
    have kX1 := (f1.1 _ _ (STc_k X.w X.S).2.1).1
    rw [f2.2.2.2 uF 8 1 uX X1.S.1 X1.S.2.2.1 (by rw [kX1.2]; rfl) rfl (by decide), Y2.hs s (by omega)]
    exact congrFun X1.iS s))
/-- toll: the class's call, and what it promises of the reference's -/
theorem SAM_toll1 {B : Nat × Nat} {T : Nat} {L : jL} {Z : jZ} {I : jI} {v1 v2 uF uR uX uA uW uP x0 x1 u5c uFe uT uL0 uC0 uL1 uC1 uV p13 p14 : Nat} {vR vX vA vW v5 t6 t9 t10 t11 t12 t13 t29 t30 q0 q1 : Nat} (X : SAM Z I v1 v2 uF uR uX uA uW uP x0 x1 u5c uFe uT uL0 uC0 uL1 uC1 uV p13 p14 vR vX vA vW v5 t6 t9 t10 t11 t12 t13 t29 t30 q0 q1) (bd : BUD B Z T) (a : Int32) {Q : Int32 → jZ → jI → jL → Prop}
    (hQ : ∀ (r1 : Int32) (Z1 : jZ) (I1 : jI) (L1 : jL), WD Z1 I1 → BUD B Z1 T → FR Wtl Z I Z1 I1 → CP Z Z1 → (∀ (L : jL) (Q2 : Int32 → jZ → jI → jL → Prop), (∀ (r2 : Int32) (Z2 : jZ) (I2 : jI) (L2 : jL), r1.toInt = r2.toInt → WD Z2 I2 → BUD B Z2 T → FR Ws_X12_toll Z1 I1 Z2 I2 → CP Z1 Z2 → ARr (I2 v2 0).toInt (I2 uA) (I2 vA) → Q2 r2 Z2 I2 L2) → f_X12_toll B v2 a Z1 I1 L Q2) → Q r1 Z1 I1 L1) : f_X11_toll B v1 a Z I L Q := by
  have d := X.rfm.dok
  have ok := X.ok
  have kA : jk Z uA 14 := (STc_k X.w X.S).2.2.1
  refine r_X11_toll X.cwd bd a (fun r1 Z1 I1 L1 hm X1 bd1 f1 cp1 => hQ r1 Z1 I1 L1 X1.w bd1 f1 cp1 (fun L Q2 h2 => ?_))
  have Y1 := X.rfm.fr X1.w f1 (by decide) (by decide)
  refine r_X12_toll Y1 ok bd1 a (fun r2 Z2 I2 L2 hm2 Y2 bd2 f2 cp2 => ?_)
  have e2 : I2 uA = I uA := by
    have kA1 := (f1.1 _ _ kA).1
    rw [f2.2.2.2 uF 8 2 uA X1.S.1 X1.S.2.2.2.1 (by rw [kA1.2]; rfl) rfl (by decide)]
    exact X1.iA
  refine h2 r2 Z2 I2 L2 (TLd_fun d ok hm hm2) Y2.w bd2 f2 cp2 (fun s hs => ?_)
  rw [Y2.hn] at hs
  rw [e2]
  exact (Y2.ha s (by omega)).symm
/-! ===== climb, bears, breaks: what they answer ===== -/
def inP (D : DAT) (v1 : Int32) : Prop := (0 ≤ v1.toInt ∧ v1.toInt < (dP D : Int)) ∧ 1 ≤ dN D
theorem LN_abs {D : DAT} {a : Nat → Int32} {cl : Int} {vw : Int32} {ld : Int} {p m : Nat} {c e b : Int} (h : LCd D a cl vw ld p m c e b) (n : NCd D a cl vw ld p) : False := n _ _ _ _ h.1
theorem LC_one {D : DAT} {a : Nat → Int32} {cl : Int} {vw : Int32} {ld : Int} {p m m' : Nat} {c e b c' e' b' : Int} (d : DOK D) (ok : aOK a) (hp : p < dP D) (hl : 0 ≤ ld ∧ ld ≤ 50) (h : LCd D a cl vw ld p m c e b) (h' : LCd D a cl vw ld p m' c' e' b') : c = c' ∧ e = e' ∧ m = m' := by
  have hk := (d.2.2.2.2 p hp).2.2.1
  obtain ⟨s1, s2, s3, -⟩ := LST_one d.1 (dCl_rng ok) (dEl_rng d hl) (by omega) h h'
  exact ⟨s2, s3, s1⟩
theorem LC_rng {D : DAT} {a : Nat → Int32} {cl : Int} {vw : Int32} {ld : Int} {p m : Nat} {c e b : Int} (d : DOK D) (ok : aOK a) (hp : p < dP D) (hl : 0 ≤ ld ∧ ld ≤ 50) (h : LCd D a cl vw ld p m c e b) : (0 ≤ c ∧ c ≤ 999) ∧ (0 ≤ e ∧ e ≤ 120) ∧ m ≤ 24 := by
  have hk := (d.2.2.2.2 p hp).2.2
  obtain ⟨⟨l1, l2, l3⟩, -⟩ := h
  have := PX_rng d.1 (dCl_rng ok) (dEl_rng d hl) l1
  omega
def CMd (D : DAT) (a : Nat → Int32) (v1 : Int32) (r : Int) : Prop := (¬ inP D v1 ∧ r = -1) ∨ (inP D v1 ∧ ((NCd D a (-1) (dVw D v1.toInt.toNat) (dLd D v1.toInt.toNat) v1.toInt.toNat ∧ r = -2) ∨ ∃ m e b, LCd D a (-1) (dVw D v1.toInt.toNat) (dLd D v1.toInt.toNat) v1.toInt.toNat m r e b))
theorem CMd_fun {D : DAT} {a : Nat → Int32} {v1 : Int32} {r r' : Int} (d : DOK D) (ok : aOK a) (h : CMd D a v1 r) (h' : CMd D a v1 r') : r = r' := by
  rcases h with ⟨n, e⟩ | ⟨y, h⟩
  · rcases h' with ⟨-, e'⟩ | ⟨y', -⟩
    · exact e.trans e'.symm
    · exact absurd y' n
  · rcases h' with ⟨n, -⟩ | ⟨-, h'⟩
    · exact absurd y n
    · have hp : v1.toInt.toNat < dP D := by have := y.1; omega
      rcases h with ⟨n, e⟩ | ⟨m, e, b, l⟩
      · rcases h' with ⟨n', e'⟩ | ⟨m', e', b', l'⟩
        · exact e.trans e'.symm
        · exact (LN_abs l' n).elim
      · rcases h' with ⟨n', e'⟩ | ⟨m', e', b', l'⟩
        · exact (LN_abs l n').elim
        · exact (LC_one d ok hp (d.2.2.2.2 _ hp).2.1 l l').1
def BRs (D : DAT) (a : Nat → Int32) (p : Nat) (r : Int) : Prop := (r = -2 ∧ ∀ w : Nat, w ≤ 50 → NCd D a (-1) (dVw D p) (w : Int) p) ∨ ∃ v : Nat, v ≤ 50 ∧ r = (v : Int) ∧ (∃ m c e b, LCd D a (-1) (dVw D p) (v : Int) p m c e b) ∧ ∀ w : Nat, v < w → w ≤ 50 → NCd D a (-1) (dVw D p) (w : Int) p
def BRd (D : DAT) (a : Nat → Int32) (v1 : Int32) (r : Int) : Prop := (¬ inP D v1 ∧ r = -1) ∨ (inP D v1 ∧ BRs D a v1.toInt.toNat r)
theorem BRd_fun {D : DAT} {a : Nat → Int32} {v1 : Int32} {r r' : Int} (h : BRd D a v1 r) (h' : BRd D a v1 r') : r = r' := by
  rcases h with ⟨n, e⟩ | ⟨y, h⟩
  · rcases h' with ⟨-, e'⟩ | ⟨y', -⟩
    · exact e.trans e'.symm
    · exact absurd y' n
  · rcases h' with ⟨n, -⟩ | ⟨-, h'⟩
    · exact absurd y n
    · rcases h with ⟨e, n⟩ | ⟨v, hv, e, ⟨m, c, f, b, l⟩, n⟩
      · rcases h' with ⟨e', -⟩ | ⟨v', hv', e', ⟨m', c', f', b', l'⟩, n'⟩
        · exact e.trans e'.symm
        · exact (LN_abs l' (n v' hv')).elim
      · rcases h' with ⟨e', n'⟩ | ⟨v', hv', e', ⟨m', c', f', b', l'⟩, n'⟩
        · exact (LN_abs l (n' v hv)).elim
        · rcases Nat.lt_trichotomy v v' with q | q | q
          · exact (LN_abs l' (n v' q hv')).elim
          · rw [e, e', q]
          · exact (LN_abs l (n' v q hv)).elim
/-- a VOW without family f -/
def vwo (vw : Int32) (f : Nat) : Int32 := vw &&& (((1 : Int32) <<< (Int32.ofNat f &&& 31)) ^^^ (-1 : Int32))
def vwb (vw : Int32) (f : Nat) : Prop := ¬ ((vw >>> (Int32.ofNat f &&& 31)) &&& (1 : Int32)) = 0
/-- of the first k families: the one without which it costs least -/
def BKs (D : DAT) (a : Nat → Int32) (p k : Nat) (r lst : Int) : Prop := (r = -2 ∧ ∀ f, f < k → vwb (dVw D p) f → NCd D a (-1) (vwo (dVw D p) f) (dLd D p) p) ∨ ∃ g : Nat, g < k ∧ r = (g : Int) ∧ vwb (dVw D p) g ∧ (∃ m e b, LCd D a (-1) (vwo (dVw D p) g) (dLd D p) p m lst e b) ∧ ∀ f, f < k → vwb (dVw D p) f → NCd D a (-1) (vwo (dVw D p) f) (dLd D p) p ∨ ∃ m c e b, LCd D a (-1) (vwo (dVw D p) f) (dLd D p) p m c e b ∧ lst ≤ c ∧ (f < g → lst < c)
theorem BKs_fun {D : DAT} {a : Nat → Int32} {p k : Nat} {r l r' l' : Int} (d : DOK D) (ok : aOK a) (hp : p < dP D) (h : BKs D a p k r l) (h' : BKs D a p k r' l') : r = r' := by
  have hl := (d.2.2.2.2 p hp).2.1
  rcases h with ⟨e, n⟩ | ⟨g, g1, e, g2, ⟨m, f, b, g3⟩, g4⟩
  · rcases h' with ⟨e', n'⟩ | ⟨g', g1', e', g2', ⟨m', f', b', g3'⟩, g4'⟩
    · exact e.trans e'.symm
    · exact (LN_abs g3' (n g' g1' g2')).elim
  · rcases h' with ⟨e', n'⟩ | ⟨g', g1', e', g2', ⟨m', f', b', g3'⟩, g4'⟩
    · exact (LN_abs g3 (n' g g1 g2)).elim
    · have x := g4 g' g1' g2'
      have y := g4' g g1 g2
      rcases x with x | ⟨mx, cx, ex, bx, x, x1, x2⟩
      · exact (LN_abs g3' x).elim
      · rcases y with y | ⟨my, cy, ey, by', y, y1, y2⟩
        · exact (LN_abs g3 y).elim
        · have q1 := (LC_one d ok hp hl g3' x).1
          have q2 := (LC_one d ok hp hl g3 y).1
          rcases Nat.lt_trichotomy g g' with q | q | q
          · have := y2 q
            omega
          · rw [e, e', q]
          · have := x2 q
            omega
theorem BKs_no {D : DAT} {a : Nat → Int32} {p k : Nat} {r l : Int} (h : BKs D a p k r l) (n : vwb (dVw D p) k → NCd D a (-1) (vwo (dVw D p) k) (dLd D p) p) : BKs D a p (k + 1) r l := by
  rcases h with ⟨e, h⟩ | ⟨g, g1, e, g2, g3, g4⟩
  · refine Or.inl ⟨e, fun f hf hb => ?_⟩
    by_cases c : f = k
    · rw [c] at hb ⊢; exact n hb
    · exact h f (by omega) hb
  · refine Or.inr ⟨g, by omega, e, g2, g3, fun f hf hb => ?_⟩
    by_cases c : f = k
    · rw [c] at hb ⊢; exact Or.inl (n hb)
    · exact g4 f (by omega) hb
theorem BKs_keep {D : DAT} {a : Nat → Int32} {p k m : Nat} {r l c e b : Int} (h : BKs D a p k r l) (hr : ¬ r = -2) (hl : LCd D a (-1) (vwo (dVw D p) k) (dLd D p) p m c e b) (hc : l ≤ c) : BKs D a p (k + 1) r l := by
  rcases h with ⟨e', h⟩ | ⟨g, g1, e', g2, g3, g4⟩
  · exact absurd e' hr
  · refine Or.inr ⟨g, by omega, e', g2, g3, fun f hf hb => ?_⟩
    by_cases c9 : f = k
    · rw [c9]; exact Or.inr ⟨m, c, e, b, hl, hc, fun q => by omega⟩
    · exact g4 f (by omega) hb
theorem BKs_new {D : DAT} {a : Nat → Int32} {p k m : Nat} {r l c e b : Int} (h : BKs D a p k r l) (hb : vwb (dVw D p) k) (hl : LCd D a (-1) (vwo (dVw D p) k) (dLd D p) p m c e b) (hc : r = -2 ∨ c < l) : BKs D a p (k + 1) (k : Int) c := by
  refine Or.inr ⟨k, by omega, rfl, hb, ⟨m, e, b, hl⟩, fun f hf hb' => ?_⟩
  by_cases c9 : f = k
  · rw [c9]; exact Or.inr ⟨m, c, e, b, hl, Int.le_refl _, fun q => by omega⟩
  · rcases h with ⟨e', h⟩ | ⟨g, g1, e', g2, g3, g4⟩
    · exact Or.inl (h f (by omega) hb')
    · rcases g4 f (by omega) hb' with x | ⟨mx, cx, ex, bx, x, x1, x2⟩
      · exact Or.inl x
      · exact Or.inr ⟨mx, cx, ex, bx, x, by omega, fun q => by omega⟩
def BKd (D : DAT) (a : Nat → Int32) (v1 : Int32) (r : Int) : Prop := (¬ inP D v1 ∧ r = -1) ∨ (inP D v1 ∧ ∃ l, BKs D a v1.toInt.toNat 8 r l)
theorem BKd_fun {D : DAT} {a : Nat → Int32} {v1 : Int32} {r r' : Int} (d : DOK D) (ok : aOK a) (h : BKd D a v1 r) (h' : BKd D a v1 r') : r = r' := by
  rcases h with ⟨n, e⟩ | ⟨y, l, h⟩
  · rcases h' with ⟨-, e'⟩ | ⟨y', -⟩
    · exact e.trans e'.symm
    · exact absurd y' n
  · rcases h' with ⟨n, -⟩ | ⟨-, l', h'⟩
    · exact absurd y n
    · exact BKs_fun d ok (by have := y.1; omega) h h'
/-! ===== the class: climb, bears, breaks ===== -/
theorem CWD.find2 {Z : jZ} {I : jI} {v0 v8 u0 u1 u2 u3 u4 u41 u5 u8 uL0 uC0 uL1 uC1 uP p13 p14 : Nat} {pc rc : Nat → Nat} {D : DAT} {a : Nat → Int32} {L : jL} (X : CWD Z I v0 v8 u0 u1 u2 u3 u4 u41 u5 u8 uL0 uC0 uL1 uC1 uP p13 p14 pc rc D a) (v1 : Int32) {Q : Option Nat → jI → jL → Prop} (h0 : ¬ (0 ≤ v1.toInt ∧ v1.toInt < (dP D : Int)) → Q none I L) (h1 : ∀ p : Nat, p < dP D → v1.toInt = (p : Int) → Q (some (pc p)) I L) : f_X11_find v0 v1 Z I L Q := by
  have z0 : (0 : Int32).toInt = 0 := rfl
  have z6 : (6 : Int32).toInt = 6 := rfl
  have p6 := X.dok.2.1
  by_cases c : 0 ≤ v1.toInt ∧ v1.toInt < (dP D : Int)
  · obtain ⟨p, e⟩ : ∃ p : Nat, v1.toInt = (p : Int) := ⟨v1.toInt.toNat, by omega⟩
    exact X.find p (by omega) v1 e (h1 p (by omega) e)
  · have q := h0 c
    unfold f_X11_find
    refine ⟨fun _ => q, fun c1 => ⟨fun _ => q, fun c2 => ?_⟩⟩
    have c1 := (not_congr (i_lt rfl z0)).mp c1
    have c2 := (not_congr (i_le X.hp rfl)).mp c2
    exact absurd ⟨by omega, by omega⟩ c
def Wcm : List (Nat × Nat) := (11, 16) :: Wlc
set_option maxHeartbeats 1000000 in
theorem cm_L74 {B : Nat × Nat} {Z : jZ} {I0 : jI} {v0 v8 u0 u1 u2 u3 u4 u41 u5 u8 uL0 uC0 uL1 uC1 uP p13 p14 : Nat} {pc rc : Nat → Nat} {D : DAT} {a : Nat → Int32} (X : CWD Z I0 v0 v8 u0 u1 u2 u3 u4 u41 u5 u8 uL0 uC0 uL1 uC1 uP p13 p14 pc rc D a) (r : Int64) (c : Int) (hr : r.toInt = c) (r0 : 0 ≤ c) {Q : Int32 → jZ → jI → jL → Prop}
    (hQ : ∀ (x : Int32) (I' : jI) (L' : jL), x.toInt = cK c → WD Z I' → FR [(11, 16)] Z I0 Z I' → Q x Z I' L') :
    ∀ (k s : Nat) (v5 : Int32) (I : jI) (L : jL), 25 ≤ k + s → s ≤ 24 → v5.toInt = (s : Int) → WD Z I → FR [(11, 16)] Z I0 Z I → f_X11_climb_L74 B Q k v0 r v5 Z I L := by
  have z1 : (1 : Int32).toInt = 1 := rfl
  intro k
  induction k with
  | zero => intro s v5 I L hk hi; omega
  | succ k ih =>
    intro s v5 I L hk hi e5 w f
    have X1 := X.fr w f (by decide) (by decide)
    have n24 := X.dok.1
    unfold f_X11_climb_L74
    intro b hb; cases X1.h2.symm.trans hb
    refine ⟨fun c1 => c_costIn hr r0 (fun x hx => hQ x I L hx w f), fun c1 => ?_⟩
    have c1 := (not_congr (i_le X1.hn e5)).mp c1
    have nx : ∀ y : Int32, y = v5 + 1 → y.toInt = ((s + 1 : Nat) : Int) := fun y ey => by rw [ey]; exact (i_add e5 z1 (by omega) (by omega)).trans (by omega)
    refine s_X11_treads w r v5 (fun r2 => ⟨fun _ => ?_, fun _ => ?_⟩)
    · unfold f_X11_climb_b102
      intro x ex
      exact ih (s + 1) x I L (by omega) (by omega) (nx x ex) w f
    · refine s_X11_tellMore w v0 _ X1.kv (fun I2 L2 w2 f2 => ?_)
      unfold f_X11_climb_b102
      intro x ex
      exact ih (s + 1) x I2 L2 (by omega) (by omega) (nx x ex) w2 (f.trans X.w.1 X.w.2.1 (f2.mono (by decide)))
set_option maxHeartbeats 1000000 in
theorem r_X11_climb {B : Nat × Nat} {T : Nat} {L : jL} {Z : jZ} {I : jI} {v0 v8 u0 u1 u2 u3 u4 u41 u5 u8 uL0 uC0 uL1 uC1 uP p13 p14 : Nat} {pc rc : Nat → Nat} {D : DAT} {a : Nat → Int32} (X : CWD Z I v0 v8 u0 u1 u2 u3 u4 u41 u5 u8 uL0 uC0 uL1 uC1 uP p13 p14 pc rc D a) (bd : BUD B Z T) (v1 : Int32) {Q : Int32 → jZ → jI → jL → Prop}
    (hQ : ∀ (r : Int32) (Z' : jZ) (I' : jI) (L' : jL), CMd D a v1 r.toInt → WD Z' I' → BUD B Z' T → FR Wcm Z I Z' I' → CP Z Z' → Q r Z' I' L') : f_X11_climb B v0 v1 Z I L Q := by
  have z0 : (0 : Int32).toInt = 0 := rfl
  have w := X.w
  have d := X.dok
  have ok := X.ok
  have bad : ¬ inP D v1 → Q (-1 : Int32) Z I L := fun n => hQ _ Z I L (Or.inl ⟨n, rfl⟩) w bd FR.rf CP.rf
  unfold f_X11_climb
  refine X.find2 v1 (fun n => ⟨fun _ => bad (fun q => n q.1), fun b hb => by cases hb⟩) (fun p hp e1 => ⟨(fun q => by cases q), fun b hb' => ?_⟩)
  cases hb'
  have ep : v1.toInt.toNat = p := by omega
  intro b hb; cases X.h2.symm.trans hb
  refine ⟨fun c1 => ?_, fun c1 => bad (fun q => ?_)⟩
  · have n1 : 1 ≤ dN D := by
      have c1 := (not_congr (i_eq X.hn z0)).mp c1
      omega
    have inp : inP D v1 := ⟨by omega, n1⟩
    intro b h8; cases (X.pil p hp).2.2.1.symm.trans h8
    obtain ⟨e3p, e4p, -, -, -⟩ := X.piv p hp
    have rl := (d.2.2.2.2 p hp).2.1
    rw [e4p]
    refine lc_one X bd p hp (I (pc p) 3) (dVw D p) (-1) (dLd D p) (-1) e3p rl rfl (fun r Z1 I1 L1 w1 bd1 f1 cp1 X1 hr => ⟨fun c2 => ?_, fun c2 => ?_⟩)
    · obtain ⟨m, c', e', b', hl, er, r0, rc1, re1, bc, be⟩ := OCc_some hr d ok rl hp c2
      refine c_effortIn rfl r0 (fun r2 _ => ?_)
      refine s_X11_movesIn w1 r (fun r3 => ?_)
      refine s_X11_tellTwo w1 v0 _ _ X1.kv (fun I2 L2 w2 f2 => ?_)
      have X2 := X1.fr w2 f2 (by decide) (by decide)
      refine ⟨26, cm_L74 X2 r r.toInt rfl r0 (fun x I3 L3 hx w3 f3 => ?_) 26 0 0 I2 L2 (by omega) (by omega) rfl w2 FR.rf⟩
      refine hQ x Z1 I3 L3 (Or.inr ⟨inp, Or.inr ⟨m, e', b', ?_⟩⟩) w3 bd1 (((f1.mono (fun q hq => List.mem_cons_of_mem _ hq)).trans w.1 w.2.1 (f2.mono (by decide))).trans w.1 w.2.1 (f3.mono (by decide))) cp1
      rw [ep, hx, rc1]
      exact hl
    · have n := OCc_none hr d ok rl hp c2
      exact hQ _ Z1 I1 L1 (Or.inr ⟨inp, Or.inl ⟨by rw [ep]; exact n, rfl⟩⟩) w1 bd1 (f1.mono (fun q hq => List.mem_cons_of_mem _ hq)) cp1
  · have c1 := (i_eq X.hn z0).mp c1
    have := q.2
    omega
set_option maxHeartbeats 1000000 in
theorem br_L25 {B : Nat × Nat} {T : Nat} {Z0 : jZ} {I0 : jI} (w0 : WD Z0 I0) {v0 v8 u0 u1 u2 u3 u4 u41 u5 u8 uL0 uC0 uL1 uC1 uP p13 p14 : Nat} {pc rc : Nat → Nat} {D : DAT} {a : Nat → Int32} (p : Nat) (hp : p < dP D) {Q : Int32 → jZ → jI → jL → Prop}
    (hQ : ∀ (r : Int32) (Z' : jZ) (I' : jI) (L' : jL), BRs D a p r.toInt → WD Z' I' → BUD B Z' T → FR Wcm Z0 I0 Z' I' → CP Z0 Z' → Q r Z' I' L') :
    ∀ (k v : Nat) (v3 : Int32) (Z : jZ) (I : jI) (L : jL), v + 1 ≤ k → v ≤ 51 → v3.toInt = (v : Int) - 1 → CWD Z I v0 v8 u0 u1 u2 u3 u4 u41 u5 u8 uL0 uC0 uL1 uC1 uP p13 p14 pc rc D a → BUD B Z T → FR Wcm Z0 I0 Z I → CP Z0 Z → (∀ w : Nat, v ≤ w → w ≤ 50 → NCd D a (-1) (dVw D p) (w : Int) p) → f_X11_bears_L25 B Q k v0 (pc p) v3 Z I L := by
  have z0 : (0 : Int32).toInt = 0 := rfl
  have zm : (-1 : Int32).toInt = -1 := by decide
  intro k
  induction k with
  | zero => intro v v3 Z I L hk; omega
  | succ k ih =>
    intro v v3 Z I L hk hv e3 X bd f0 cp0 hn
    have d := X.dok
    have ok := X.ok
    unfold f_X11_bears_L25
    refine ⟨fun c => ?_, fun c => ?_⟩
    · have c := (i_lt e3 z0).mp c
      exact hQ _ Z I L (Or.inl ⟨rfl, fun w hw => hn w (by omega) hw⟩) X.w bd f0 cp0
    · have c := (not_congr (i_lt e3 z0)).mp c
      have rl : 0 ≤ v3.toInt ∧ v3.toInt ≤ 50 := by omega
      intro b h8; cases (X.pil p hp).2.2.1.symm.trans h8
      obtain ⟨-, e4p, -, -, -⟩ := X.piv p hp
      rw [e4p]
      refine lc_one X bd p hp v3 (dVw D p) (-1) v3.toInt (-1) rfl rl rfl (fun r Z1 I1 L1 w1 bd1 f1 cp1 X1 hr => ⟨fun c2 => ?_, fun c2 => ?_⟩)
      · have n := OCc_none hr d ok rl hp c2
        intro x ex
        have e3' : x.toInt = ((v - 1 : Nat) : Int) - 1 := by rw [ex]; exact (i_add rfl zm (by omega) (by omega)).trans (by omega)
        refine ih (v - 1) x Z1 I1 L1 (by omega) (by omega) e3' X1 bd1 (f0.trans w0.1 w0.2.1 (f1.mono (fun q hq => List.mem_cons_of_mem _ hq))) (CP.trans f0.1 cp0 cp1) (fun w h1 h2 => ?_)
        by_cases c9 : w = v - 1
        · rw [show ((w : Nat) : Int) = v3.toInt by omega]; exact n
        · exact hn w (by omega) h2
      · obtain ⟨m, c', e', b', hl, er, r0, rc1, re1, bc, be⟩ := OCc_some hr d ok rl hp c2
        refine c_costIn rfl r0 (fun r2 _ => ?_)
        refine s_X11_tellOne w1 v0 _ X1.kv (fun I2 L2 w2 f2 => ?_)
        refine hQ v3 Z1 I2 L2 (Or.inr ⟨v - 1, by omega, by omega, ⟨m, c', e', b', ?_⟩, fun w h1 h2 => hn w (by omega) h2⟩) w2 bd1 ((f0.trans w0.1 w0.2.1 (f1.mono (fun q hq => List.mem_cons_of_mem _ hq))).trans w0.1 w0.2.1 (f2.mono (by decide))) (CP.trans f0.1 cp0 cp1)
        rw [show ((v - 1 : Nat) : Int) = v3.toInt by omega]
        exact hl
theorem r_X11_bears {B : Nat × Nat} {T : Nat} {L : jL} {Z : jZ} {I : jI} {v0 v8 u0 u1 u2 u3 u4 u41 u5 u8 uL0 uC0 uL1 uC1 uP p13 p14 : Nat} {pc rc : Nat → Nat} {D : DAT} {a : Nat → Int32} (X : CWD Z I v0 v8 u0 u1 u2 u3 u4 u41 u5 u8 uL0 uC0 uL1 uC1 uP p13 p14 pc rc D a) (bd : BUD B Z T) (v1 : Int32) {Q : Int32 → jZ → jI → jL → Prop}
    (hQ : ∀ (r : Int32) (Z' : jZ) (I' : jI) (L' : jL), BRd D a v1 r.toInt → WD Z' I' → BUD B Z' T → FR Wcm Z I Z' I' → CP Z Z' → Q r Z' I' L') : f_X11_bears B v0 v1 Z I L Q := by
  have z0 : (0 : Int32).toInt = 0 := rfl
  have w := X.w
  have bad : ¬ inP D v1 → Q (-1 : Int32) Z I L := fun n => hQ _ Z I L (Or.inl ⟨n, rfl⟩) w bd FR.rf CP.rf
  unfold f_X11_bears
  refine X.find2 v1 (fun n => ⟨fun _ => bad (fun q => n q.1), fun b hb => by cases hb⟩) (fun p hp e1 => ⟨(fun q => by cases q), fun b hb' => ?_⟩)
  cases hb'
  have ep : v1.toInt.toNat = p := by omega
  intro b hb; cases X.h2.symm.trans hb
  refine ⟨fun c1 => ?_, fun c1 => bad (fun q => ?_)⟩
  · have n1 : 1 ≤ dN D := by
      have c1 := (not_congr (i_eq X.hn z0)).mp c1
      omega
    exact ⟨52, br_L25 w p hp (fun r Z' I' L' hb w' bd' f' cp' => hQ r Z' I' L' (Or.inr ⟨⟨by omega, n1⟩, by rw [ep]; exact hb⟩) w' bd' f' cp') 52 51 50 Z I L (by omega) (by omega) rfl X bd FR.rf CP.rf (fun w h1 h2 => by omega)⟩
  · have c1 := (i_eq X.hn z0).mp c1
    have := q.2
    omega
set_option maxHeartbeats 4000000 in
theorem bk_L31 {B : Nat × Nat} {T : Nat} {Z0 : jZ} {I0 : jI} (w0 : WD Z0 I0) {v0 v8 u0 u1 u2 u3 u4 u41 u5 u8 uL0 uC0 uL1 uC1 uP p13 p14 : Nat} {pc rc : Nat → Nat} {D : DAT} {a : Nat → Int32} (p : Nat) (hp : p < dP D) {Q : Int32 → jZ → jI → jL → Prop}
    (hQ : ∀ (r : Int32) (Z' : jZ) (I' : jI) (L' : jL) (l : Int), BKs D a p 8 r.toInt l → WD Z' I' → BUD B Z' T → FR Wcm Z0 I0 Z' I' → CP Z0 Z' → Q r Z' I' L') :
    ∀ (k g : Nat) (v3 v4 v5 : Int32) (Z : jZ) (I : jI) (L : jL), 9 ≤ k + g → g ≤ 8 → v5.toInt = (g : Int) → BKs D a p g v3.toInt v4.toInt → CWD Z I v0 v8 u0 u1 u2 u3 u4 u41 u5 u8 uL0 uC0 uL1 uC1 uP p13 p14 pc rc D a → BUD B Z T → FR Wcm Z0 I0 Z I → CP Z0 Z → f_X11_breaks_L31 B Q k v0 (pc p) v3 v4 v5 Z I L := by
  have z1 : (1 : Int32).toInt = 1 := rfl
  have z8 : (8 : Int32).toInt = 8 := rfl
  have zm : (-2 : Int32).toInt = -2 := by decide
  intro k
  induction k with
  | zero => intro g v3 v4 v5 Z I L hk hi; omega
  | succ k ih =>
    intro g v3 v4 v5 Z I L hk hi e5 hB X bd f0 cp0
    have d := X.dok
    have ok := X.ok
    have rl := (d.2.2.2.2 p hp).2.1
    obtain ⟨e3p, e4p, -, -, -⟩ := X.piv p hp
    have g8 := (X.pil p hp).2.2.1
    have nx : ∀ y : Int32, y = v5 + 1 → y.toInt = ((g + 1 : Nat) : Int) := fun y ey => by rw [ey]; exact (i_add e5 z1 (by omega) (by omega)).trans (by omega)
    unfold f_X11_breaks_L31
    refine ⟨fun c => ?_, fun c => ?_⟩
    · have c := (i_le z8 e5).mp c
      have g9 : g = 8 := by omega
      subst g9
      refine ⟨fun _ => hQ v3 Z I L _ hB X.w bd f0 cp0, fun _ => ?_⟩
      intro b h8; cases g8.symm.trans h8
      rw [e4p]
      refine lc_one X bd p hp (I (pc p) 3) (dVw D p) (-1) (dLd D p) (-1) e3p rl rfl (fun r Z1 I1 L1 w1 bd1 f1 cp1 X1 hr => ?_)
      have f01 : FR Wcm Z0 I0 Z1 I1 := f0.trans w0.1 w0.2.1 (f1.mono (fun q hq => List.mem_cons_of_mem _ hq))
      have cp01 := CP.trans f0.1 cp0 cp1
      have fin : ∀ s1 s2 : Int64, f_X11_breaks_b179 B Q v3 v0 s1 s2 Z1 I1 L1 := fun s1 s2 => by
        unfold f_X11_breaks_b179
        exact s_X11_tellTwo w1 v0 _ _ X1.kv (fun I2 L2 w2 f2 => hQ v3 Z1 I2 L2 _ hB w2 bd1 (f01.trans w0.1 w0.2.1 (f2.mono (by decide))) cp01)
      refine ⟨fun c2 => ?_, fun c2 => fin _ _⟩
      obtain ⟨m, c', e', b', hl, er, r0, rc1, re1, bc, be⟩ := OCc_some hr d ok rl hp c2
      exact c_costIn rfl r0 (fun r2 _ => fin _ _)
    · have c := (not_congr (i_le z8 e5)).mp c
      have ev : v5 = Int32.ofNat g := i_of e5 (by omega)
      unfold f_X5_vowsAgainst
      rw [e4p]
      refine ⟨fun cb => ⟨fun q => absurd rfl q, fun _ => ?_⟩, fun cb => ⟨fun _ => ?_, fun q => absurd q (by decide)⟩⟩
      · unfold f_X11_breaks_b117
        intro x ex
        refine ih (g + 1) v3 v4 x Z I L (by omega) (by omega) (nx x ex) (BKs_no hB (fun hb => absurd ?_ hb)) X bd f0 cp0
        rw [← ev]; exact cb
      · have hb : vwb (dVw D p) g := by
          unfold vwb
          rw [← ev]; exact cb
        intro b h8; cases g8.symm.trans h8
        rw [e4p, show (dVw D p &&& (((1 : Int32) <<< (v5 &&& 31)) ^^^ (-1 : Int32))) = vwo (dVw D p) g by rw [ev]; rfl]
        refine lc_one X bd p hp (I (pc p) 3) (vwo (dVw D p) g) (-1) (dLd D p) (-1) e3p rl rfl (fun r Z1 I1 L1 w1 bd1 f1 cp1 X1 hr => ?_)
        have f01 : FR Wcm Z0 I0 Z1 I1 := f0.trans w0.1 w0.2.1 (f1.mono (fun q hq => List.mem_cons_of_mem _ hq))
        have cp01 := CP.trans f0.1 cp0 cp1
        refine ⟨fun c2 => ?_, fun c2 => ?_⟩
        · have n := OCc_none hr d ok rl hp c2
          unfold f_X11_breaks_b117
          intro x ex
          exact ih (g + 1) v3 v4 x Z1 I1 L1 (by omega) (by omega) (nx x ex) (BKs_no hB (fun _ => n)) X1 bd1 f01 cp01
        · obtain ⟨m, c', e', b', hl, er, r0, rc1, re1, bc, be⟩ := OCc_some hr d ok rl hp c2
          have new : (v3.toInt = -2 ∨ c' < v4.toInt) → f_X11_breaks_b107 B (f_X11_breaks_L31 B Q k) Q v0 (pc p) v5 r Z1 I1 L1 := fun hc => by
            unfold f_X11_breaks_b107
            refine c_costIn rfl r0 (fun r2 hr2 => ?_)
            unfold f_X11_breaks_b117
            intro x ex
            refine ih (g + 1) v5 r2 x Z1 I1 L1 (by omega) (by omega) (nx x ex) ?_ X1 bd1 f01 cp01
            rw [e5, hr2, rc1]
            exact BKs_new hB hb hl hc
          refine ⟨fun c3 => new (Or.inl ((i_eq rfl zm).mp c3)), fun c3 => ?_⟩
          have c3 := (not_congr (i_eq rfl zm)).mp c3
          refine c_costIn rfl r0 (fun r2 hr2 => ?_)
          have hr2 := hr2.trans rc1
          refine ⟨fun c4 => ?_, fun c4 => new (Or.inr ?_)⟩
          · have c4 := (i_le rfl hr2).mp c4
            unfold f_X11_breaks_b117
            intro x ex
            exact ih (g + 1) v3 v4 x Z1 I1 L1 (by omega) (by omega) (nx x ex) (BKs_keep hB c3 hl c4) X1 bd1 f01 cp01
          · have c4 := (not_congr (i_le rfl hr2)).mp c4
            omega
theorem r_X11_breaks {B : Nat × Nat} {T : Nat} {L : jL} {Z : jZ} {I : jI} {v0 v8 u0 u1 u2 u3 u4 u41 u5 u8 uL0 uC0 uL1 uC1 uP p13 p14 : Nat} {pc rc : Nat → Nat} {D : DAT} {a : Nat → Int32} (X : CWD Z I v0 v8 u0 u1 u2 u3 u4 u41 u5 u8 uL0 uC0 uL1 uC1 uP p13 p14 pc rc D a) (bd : BUD B Z T) (v1 : Int32) {Q : Int32 → jZ → jI → jL → Prop}
    (hQ : ∀ (r : Int32) (Z' : jZ) (I' : jI) (L' : jL), BKd D a v1 r.toInt → WD Z' I' → BUD B Z' T → FR Wcm Z I Z' I' → CP Z Z' → Q r Z' I' L') : f_X11_breaks B v0 v1 Z I L Q := by
  have z0 : (0 : Int32).toInt = 0 := rfl
  have w := X.w
  have bad : ¬ inP D v1 → Q (-1 : Int32) Z I L := fun n => hQ _ Z I L (Or.inl ⟨n, rfl⟩) w bd FR.rf CP.rf
  unfold f_X11_breaks
  refine X.find2 v1 (fun n => ⟨fun _ => bad (fun q => n q.1), fun b hb => by cases hb⟩) (fun p hp e1 => ⟨(fun q => by cases q), fun b hb' => ?_⟩)
  cases hb'
  have ep : v1.toInt.toNat = p := by omega
  intro b hb; cases X.h2.symm.trans hb
  refine ⟨fun c1 => ?_, fun c1 => bad (fun q => ?_)⟩
  · have n1 : 1 ≤ dN D := by
      have c1 := (not_congr (i_eq X.hn z0)).mp c1
      omega
    exact ⟨9, bk_L31 w p hp (fun r Z' I' L' l hb w' bd' f' cp' => hQ r Z' I' L' (Or.inr ⟨⟨by omega, n1⟩, l, by rw [ep]; exact hb⟩) w' bd' f' cp') 9 0 (-2) 0 0 Z I L (by omega) (by omega) rfl (Or.inl ⟨by decide, fun f hf => absurd hf (Nat.not_lt_zero f)⟩) X bd FR.rf CP.rf⟩
  · have c1 := (i_eq X.hn z0).mp c1
    have := q.2
    omega
/-! ===== the reference: climb, bears, breaks, shut ===== -/
theorem RFM.putL {Z : jZ} {I : jI} {v0 t1 t2 t3 t4 t5 t6 t9 t10 t11 t12 t13 t29 t30 uX0 uX1 : Nat} {s0 s1 : Int} {D : DAT} {a : Nat → Int32} (X : RFM Z I v0 t1 t2 t3 t4 t5 t6 t9 t10 t11 t12 t13 t29 t30 uX0 uX1 s0 s1 D a) (p : Nat) (v : Int32) (rv : 0 ≤ v.toInt ∧ v.toInt ≤ 50) (L1 : Nat → Int) (hL : ∀ q, q < dP D → L1 q = if q = p then v.toInt else dLd D q) : RFM Z (jpI I t12 p v) v0 t1 t2 t3 t4 t5 t6 t9 t10 t11 t12 t13 t29 t30 uX0 uX1 s0 s1 (set4 D (dS D) (dX D) (dVw D) L1) a ∧ FR [(12, 12)] Z I Z (jpI I t12 p v) := by
  obtain ⟨k1, k2, k3, k4, k6, k29, l29, k30⟩ := STm_k X.w X.S
  have kv := X.S.1
  obtain ⟨x, ex, k12, -⟩ := sh_f X.w.1 kv (j := 12) (k := 14) (m := 6) rfl
  cases X.h12.symm.trans ex
  obtain ⟨x, ex, k13, -⟩ := sh_f X.w.1 kv (j := 13) (k := 14) (m := 6) rfl
  cases X.h13.symm.trans ex
  have w' : WD Z (jpI I t12 p v) := WD_putA X.w 12 12 kv X.h12 k12 rfl rfl (by decide) (by constructor <;> omega)
  have f' : FR [(12, 12)] Z I Z (jpI I t12 p v) := FR_upA X.w.2.1 kv X.h12 k12 rfl rfl List.mem_cons_self
  have a2 : jpI I t12 p v t2 = I t2 := f'.2.2.2 v0 12 2 t2 kv X.S.2.2.1 (by rw [k2.2]; rfl) rfl (by decide)
  have a3 : jpI I t12 p v t3 = I t3 := f'.2.2.2 v0 12 3 t3 kv X.S.2.2.2.1 (by rw [k3.2]; rfl) rfl (by decide)
  have a6 : jpI I t12 p v t6 = I t6 := f'.2.2.2 v0 12 6 t6 kv X.S.2.2.2.2.2.1 (by rw [k6.2]; rfl) rfl (by decide)
  have a13 : jpI I t12 p v t13 = I t13 := f'.2.2.2 v0 12 13 t13 kv X.h13 (by rw [k13.2]; rfl) rfl (by decide)
  refine ⟨X.fraS w' f' (by decide) (by rw [a3]; exact X.ha) (by rw [a2]; exact X.hs) (by rw [a6]; exact X.hx) (fun q hq => ⟨?_, by rw [a13]; exact (X.pil q hq).2.2.2.2⟩), f'⟩
  rw [hL q hq]
  by_cases c : q = p
  · rw [if_pos c, c, jpI_at]
  · rw [if_neg c, jpI_off c]
    exact (X.pil q hq).2.2.2.1
theorem RFM.putV {Z : jZ} {I : jI} {v0 t1 t2 t3 t4 t5 t6 t9 t10 t11 t12 t13 t29 t30 uX0 uX1 : Nat} {s0 s1 : Int} {D : DAT} {a : Nat → Int32} (X : RFM Z I v0 t1 t2 t3 t4 t5 t6 t9 t10 t11 t12 t13 t29 t30 uX0 uX1 s0 s1 D a) (p : Nat) (v : Int32) (V1 : Nat → Int32) (hV : ∀ q, q < dP D → V1 q = if q = p then v else dVw D q) : RFM Z (jpI I t13 p v) v0 t1 t2 t3 t4 t5 t6 t9 t10 t11 t12 t13 t29 t30 uX0 uX1 s0 s1 (set4 D (dS D) (dX D) V1 (dLd D)) a ∧ FR [(12, 13)] Z I Z (jpI I t13 p v) := by
  obtain ⟨k1, k2, k3, k4, k6, k29, l29, k30⟩ := STm_k X.w X.S
  have kv := X.S.1
  obtain ⟨x, ex, k12, -⟩ := sh_f X.w.1 kv (j := 12) (k := 14) (m := 6) rfl
  cases X.h12.symm.trans ex
  obtain ⟨x, ex, k13, -⟩ := sh_f X.w.1 kv (j := 13) (k := 14) (m := 6) rfl
  cases X.h13.symm.trans ex
  have w' : WD Z (jpI I t13 p v) := WD_putA X.w 12 13 kv X.h13 k13 rfl rfl (by decide) trivial
  have f' : FR [(12, 13)] Z I Z (jpI I t13 p v) := FR_upA X.w.2.1 kv X.h13 k13 rfl rfl List.mem_cons_self
  have a2 : jpI I t13 p v t2 = I t2 := f'.2.2.2 v0 12 2 t2 kv X.S.2.2.1 (by rw [k2.2]; rfl) rfl (by decide)
  have a3 : jpI I t13 p v t3 = I t3 := f'.2.2.2 v0 12 3 t3 kv X.S.2.2.2.1 (by rw [k3.2]; rfl) rfl (by decide)
  have a6 : jpI I t13 p v t6 = I t6 := f'.2.2.2 v0 12 6 t6 kv X.S.2.2.2.2.2.1 (by rw [k6.2]; rfl) rfl (by decide)
  have a12 : jpI I t13 p v t12 = I t12 := f'.2.2.2 v0 12 12 t12 kv X.h12 (by rw [k12.2]; rfl) rfl (by decide)
  refine ⟨X.fraS w' f' (by decide) (by rw [a3]; exact X.ha) (by rw [a2]; exact X.hs) (by rw [a6]; exact X.hx) (fun q hq => ⟨by rw [a12]; exact (X.pil q hq).2.2.2.1, ?_⟩), f'⟩
  rw [hV q hq]
  by_cases c : q = p
  · rw [if_pos c, c, jpI_at]
  · rw [if_neg c, jpI_off c]
    exact (X.pil q hq).2.2.2.2
set_option maxHeartbeats 1000000 in
theorem cm_L58 {B : Nat × Nat} {Z : jZ} {I0 : jI} (w0 : WD Z I0) (v0 : Nat) (kv : jk Z v0 12) (m : Nat) (hm : (I0 v0 43).toInt = (m : Int)) (m24 : m ≤ 24) (h21 : (I0 v0 21).toInt ≤ 2) {Q : Int32 → jZ → jI → jL → Prop}
    (hQ : ∀ (I' : jI) (L' : jL), WD Z I' → FR [(12, 21)] Z I0 Z I' → Q (I0 v0 41) Z I' L') :
    ∀ (k s : Nat) (v2 : Int32) (I : jI) (L : jL), m + 1 ≤ k + s → s ≤ m → v2.toInt = (s : Int) → WD Z I → FR [(12, 21)] Z I0 Z I → (I v0 21).toInt ≤ 2 + (s : Int) → f_X12_climb_L58 B Q k v0 v2 Z I L := by
  have z1 : (1 : Int32).toInt = 1 := rfl
  intro k
  induction k with
  | zero => intro s v2 I L hk hi; omega
  | succ k ih =>
    intro s v2 I L hk hi e2 w f h
    have e43 : (I v0 43).toInt = (m : Int) := by rw [f.2.2.1 v0 12 43 kv (by decide) (by decide)]; exact hm
    unfold f_X12_climb_L58
    refine ⟨fun c => ?_, fun c => ?_⟩
    · rw [f.2.2.1 v0 12 41 kv (by decide) (by decide)]
      exact hQ I L w f
    · have c := (not_congr (i_le e43 e2)).mp c
      intro b hb
      refine ⟨vi_of e2 (by omega) (by omega), s_X12_tell w v0 _ kv (by omega) (fun I2 L2 w2 f2 e21 => ?_)⟩
      intro x ex
      exact ih (s + 1) x I2 L2 (by omega) (by omega) (by rw [ex]; exact (i_add e2 z1 (by omega) (by omega)).trans (by omega)) w2 (f.trans w0.1 w0.2.1 (f2.mono (by decide))) (by omega)
set_option maxHeartbeats 1000000 in
theorem r_X12_climb {B : Nat × Nat} {T : Nat} {L : jL} {Z : jZ} {I : jI} {v0 t1 t2 t3 t4 t5 t6 t9 t10 t11 t12 t13 t29 t30 uX0 uX1 : Nat} {s0 s1 : Int} {D : DAT} {a : Nat → Int32} (X : RFM Z I v0 t1 t2 t3 t4 t5 t6 t9 t10 t11 t12 t13 t29 t30 uX0 uX1 s0 s1 D a) (ok : aOK a) (bd : BUD B Z T) (v1 : Int32) {Q : Int32 → jZ → jI → jL → Prop}
    (hQ : ∀ (r : Int32) (Z' : jZ) (I' : jI) (L' : jL), CMd D a v1 r.toInt → WD Z' I' → BUD B Z' T → FR Ws_X12_climb Z I Z' I' → CP Z Z' → Q r Z' I' L') : f_X12_climb B v0 v1 Z I L Q := by
  have z0 : (0 : Int32).toInt = 0 := rfl
  have w := X.w
  have kv := X.S.1
  have d := X.dok
  unfold f_X12_climb
  intro I1 e1
  have w1 : WD Z I1 := by rw [e1]; exact WD_putF w 12 22 kv (by decide) (by decide) trivial
  have f1 : FR [(12, 22)] Z I Z I1 := by rw [e1]; exact FR_putF kv (by decide) List.mem_cons_self
  have X1 := X.fr w1 f1 (by decide) (by decide)
  have hp8 := X1.hp
  have p6 := d.2.1
  have bad : ¬ inP D v1 → Q (-1 : Int32) Z I1 L := fun n => hQ _ Z I1 L (Or.inl ⟨n, rfl⟩) w1 bd (f1.mono (by decide)) CP.rf
  refine s_X12_isOne w1 v0 v1 kv (fun r hr => ⟨fun c => bad (fun q => ?_), fun c => ⟨fun c1 => ?_, fun c1 => bad (fun q => ?_)⟩⟩)
  · have c := (i_eq rfl z0).mp c
    have := q.1
    omega
  · have c := (not_congr (i_eq rfl z0)).mp c
    have c1 := (not_congr (i_eq X1.hn z0)).mp c1
    obtain ⟨p, ev⟩ : ∃ p : Nat, v1.toInt = (p : Int) := ⟨v1.toInt.toNat, by omega⟩
    have hp : p < dP D := by omega
    have ep : v1.toInt.toNat = p := by omega
    have inp : inP D v1 := ⟨by omega, by omega⟩
    refine X1.fc ok bd (by omega) v1 p hp ev (fun r2 Z2 I2 L2 t44 w2 bd2 f2 cp2 h44 hr2 => ?_)
    have kv2 := (f2.1 _ _ kv).1
    have f12 : FR Ws_X12_climb Z I Z2 I2 := (f1.mono (by decide)).trans w.1 w.2.1 (f2.mono (by decide))
    rcases hr2 with ⟨er, n⟩ | ⟨er, m, c', e', b', hl, h1, h2, h3, -⟩
    · refine ⟨fun q => absurd ((i_eq rfl z0).mpr er) q, fun _ => ?_⟩
      exact hQ _ Z2 I2 L2 (Or.inr ⟨inp, Or.inl ⟨by rw [ep]; exact n, rfl⟩⟩) w2 bd2 f12 cp2
    · refine ⟨fun _ => ?_, fun q => by have := (i_eq rfl z0).mp q; omega⟩
      have hl : LCd D a (-1) (dVw D p) (dLd D p) p m c' e' b' := hl
      have R := LC_rng d ok hp (d.2.2.2.2 p hp).2.1 hl
      intro I3 e3
      have w3 : WD Z2 I3 := by rw [e3]; exact WD_putF w2 12 21 kv2 (by decide) (by decide) (by first | exact trivial | (constructor <;> decide))
      have f3 : FR [(12, 21)] Z2 I2 Z2 I3 := by rw [e3]; exact FR_putF kv2 (by decide) List.mem_cons_self
      have e21 : (I3 v0 21).toInt = 0 := by rw [e3, jpI_at]; rfl
      refine s_X12_tell w3 v0 _ kv2 (by omega) (fun I4 L4 w4 f4 e4 => ?_)
      refine s_X12_tell w4 v0 _ kv2 (by omega) (fun I5 L5 w5 f5 e5 => ?_)
      have f25 : FR [(12, 21)] Z2 I2 Z2 I5 := (f3.trans w2.1 w2.2.1 (f4.mono (by decide))).trans w2.1 w2.2.1 (f5.mono (by decide))
      have h43 : (I5 v0 43).toInt = (m : Int) := by rw [f25.2.2.1 v0 12 43 kv2 (by decide) (by decide)]; exact h3
      refine ⟨m + 1, cm_L58 w5 v0 kv2 m h43 R.2.2 (by omega) (fun I6 L6 w6 f6 => ?_) (m + 1) 0 0 I5 L5 (by omega) (by omega) rfl w5 FR.rf (by omega)⟩
      refine hQ _ Z2 I6 L6 (Or.inr ⟨inp, Or.inr ⟨m, e', b', ?_⟩⟩) w6 bd2 ((f12.trans w.1 w.2.1 (f25.mono (by decide))).trans w.1 w.2.1 (f6.mono (by decide))) cp2
      rw [ep, f25.2.2.1 v0 12 41 kv2 (by decide) (by decide), h1]
      exact hl
  · have c1 := (i_eq X1.hn z0).mp c1
    have := q.2
    omega
set_option maxHeartbeats 4000000 in
theorem brr_L36 {B : Nat × Nat} {T : Nat} {Z0 : jZ} {I0 : jI} (w0 : WD Z0 I0) {v0 t1 t2 t3 t4 t5 t6 t9 t10 t11 t12 t13 t29 t30 uX0 uX1 : Nat} {s0 s1 : Int} {D : DAT} {a : Nat → Int32} (ok : aOK a) (d : DOK D) (hn1 : 1 ≤ dN D) (p : Nat) (hp : p < dP D) (v1 v2 : Int32) (e1 : v1.toInt = (p : Int)) (e2 : v2.toInt = dLd D p) {Q : Int32 → jZ → jI → jL → Prop}
    (hQ : ∀ (r : Int32) (Z' : jZ) (I' : jI) (L' : jL), BRs D a p r.toInt → RFM Z' I' v0 t1 t2 t3 t4 t5 t6 t9 t10 t11 t12 t13 t29 t30 uX0 uX1 s0 s1 D a → BUD B Z' T → FR Ws_X12_bears Z0 I0 Z' I' → CP Z0 Z' → Q r Z' I' L') :
    ∀ (k v : Nat) (v3 v4 : Int32) (Z : jZ) (I : jI) (L : jL) (La : Nat → Int), v + 1 ≤ k → v ≤ 51 → v4.toInt = (v : Int) - 1 → (∀ q, q ≠ p → La q = dLd D q) → RFM Z I v0 t1 t2 t3 t4 t5 t6 t9 t10 t11 t12 t13 t29 t30 uX0 uX1 s0 s1 (set4 D (dS D) (dX D) (dVw D) La) a → BUD B Z T → FR Ws_X12_bears Z0 I0 Z I → CP Z0 Z → ((v3.toInt = -2 ∧ ∀ w : Nat, v ≤ w → w ≤ 50 → NCd D a (-1) (dVw D p) (w : Int) p) ∨ (0 ≤ v3.toInt ∧ BRs D a p v3.toInt)) → f_X12_bears_L36 B Q k v0 v1 v2 v3 v4 Z I L := by
  have z0 : (0 : Int32).toInt = 0 := rfl
  have zm : (-1 : Int32).toInt = -1 := by decide
  have z2 : (-2 : Int32).toInt = -2 := by decide
  have p6 := d.2.1
  have n1 : v1.toNatClampNeg = p := by have := i_nat e1 (by omega); omega
  have vi : vp_in v1 6 := vi_of e1 (by omega) (by omega)
  intro k
  induction k with
  | zero => intro v v3 v4 Z I L La hk; omega
  | succ k ih =>
    intro v v3 v4 Z I L La hk hv e4 hLa X bd f0 cp0 hB
    have kv := X.S.1
    have d' := X.dok
    have rl0 := (d.2.2.2.2 p hp).2.1
    have fin : BRs D a p v3.toInt → (0 ≤ v3.toInt ∨ v3.toInt = -2) → f_X12_bears_b70 B Q v0 v1 v2 v3 Z I L := fun hb hs => by
      unfold f_X12_bears_b70
      intro b hb'; cases X.h12.symm.trans hb'
      refine ⟨vi, fun I3 e3 => ?_⟩
      rw [n1] at e3
      obtain ⟨X3, f3⟩ := X.putL p v2 (by omega) (dLd D) (fun q _ => by
        by_cases c : q = p
        · rw [if_pos c, c, e2]
        · rw [if_neg c]
          exact (hLa q c).symm)
      rw [← e3] at X3 f3
      have X4 : RFM Z I3 v0 t1 t2 t3 t4 t5 t6 t9 t10 t11 t12 t13 t29 t30 uX0 uX1 s0 s1 D a := X3
      have f03 : FR Ws_X12_bears Z0 I0 Z I3 := f0.trans w0.1 w0.2.1 (f3.mono (by decide))
      refine ⟨fun c => ?_, fun c => ?_⟩
      · intro I5 e5
        have w5 : WD Z I5 := by rw [e5]; exact WD_putF X4.w 12 21 kv (by decide) (by decide) (by first | exact trivial | (constructor <;> decide))
        have f5 : FR [(12, 21)] Z I3 Z I5 := by rw [e5]; exact FR_putF kv (by decide) List.mem_cons_self
        have e21 : (I5 v0 21).toInt = 0 := by rw [e5, jpI_at]; rfl
        refine s_X12_tell w5 v0 _ kv (by omega) (fun I6 L6 w6 f6 _ => ?_)
        exact hQ v3 Z I6 L6 hb ((X4.fr w5 f5 (by decide) (by decide)).fr w6 f6 (by decide) (by decide)) bd ((f03.trans w0.1 w0.2.1 (f5.mono (by decide))).trans w0.1 w0.2.1 (f6.mono (by decide))) cp0
      · have c := (not_congr (i_le z0 rfl)).mp c
        rcases hs with h | h
        · omega
        · exact hQ (-2) Z I3 L (by rw [z2, ← h]; exact hb) X4 bd f03 cp0
    unfold f_X12_bears_L36
    refine ⟨fun c => ?_, fun c => ⟨fun c2 => ?_, fun c2 => ?_⟩⟩
    · have c := (i_lt e4 z0).mp c
      rcases hB with ⟨h, n⟩ | ⟨h, hb⟩
      · exact fin (Or.inl ⟨h, fun w hw => n w (by omega) hw⟩) (Or.inr h)
      · exact fin hb (Or.inl h)
    · have c2 := (i_le z0 rfl).mp c2
      rcases hB with ⟨h, n⟩ | ⟨h, hb⟩
      · omega
      · exact fin hb (Or.inl h)
    · have c := (not_congr (i_lt e4 z0)).mp c
      have c2 := (not_congr (i_le z0 rfl)).mp c2
      rcases hB with ⟨h, n⟩ | ⟨h, hb⟩
      · intro b hb'; cases X.h12.symm.trans hb'
        refine ⟨vi, fun I3 e3 => ?_⟩
        rw [n1] at e3
        obtain ⟨X3, f3⟩ := X.putL p v4 (by omega) (fun q => if q = p then v4.toInt else dLd D q) (fun q _ => by
          by_cases c : q = p
          · rw [if_pos c, if_pos c]
          · rw [if_neg c, if_neg c]
            exact (hLa q c).symm)
        rw [← e3] at X3 f3
        have X4 : RFM Z I3 v0 t1 t2 t3 t4 t5 t6 t9 t10 t11 t12 t13 t29 t30 uX0 uX1 s0 s1 (set4 D (dS D) (dX D) (dVw D) (fun q => if q = p then v4.toInt else dLd D q)) a := X3
        refine X4.fc ok bd hn1 v1 p hp e1 (fun r Z5 I5 L5 t44 w5 bd5 f5 cp5 h44 hr => ?_)
        have hr' : CLR (dLp D p) (dN D) (opF (dVw D p) (dMn D) (-1)) (dCl D a v4.toInt) (dEl D v4.toInt) (dKn D p) (dPu D p) I5 v0 t44 r := by
          have g : (fun q => if q = p then v4.toInt else dLd D q) p = v4.toInt := if_pos rfl
          have hr2 : CLR (dLp D p) (dN D) (opF (dVw D p) (dMn D) (-1)) (dCl D a ((fun q => if q = p then v4.toInt else dLd D q) p)) (dEl D ((fun q => if q = p then v4.toInt else dLd D q) p)) (dKn D p) (dPu D p) I5 v0 t44 r := hr
          rw [g] at hr2
          exact hr2
        obtain ⟨y0, y1⟩ := CLR_OC hr'
        have X5 := X4.fr w5 f5 (by decide) (by decide)
        have f05 : FR Ws_X12_bears Z0 I0 Z5 I5 := (f0.trans w0.1 w0.2.1 (f3.mono (by decide))).trans w0.1 w0.2.1 (f5.mono (by decide))
        have nx : ∀ y : Int32, y = v4 + (-1) → y.toInt = ((v - 1 : Nat) : Int) - 1 := fun y ey => by rw [ey]; exact (i_add e4 zm (by omega) (by omega)).trans (by omega)
        have ho : ∀ q, q ≠ p → (fun q => if q = p then v4.toInt else dLd D q) q = dLd D q := fun q hq => if_neg hq
        refine ⟨fun c3 => ?_, fun c3 => ?_⟩
        · unfold f_X12_bears_b64
          intro x ex
          refine ih (v - 1) v3 x Z5 I5 L5 _ (by omega) (by omega) (nx x ex) ho X5 bd5 f05 (CP.trans f0.1 cp0 cp5) (Or.inl ⟨h, fun w h1 h2 => ?_⟩)
          by_cases c9 : w = v - 1
          · rw [show ((w : Nat) : Int) = v4.toInt by omega]; exact y0 c3
          · exact n w (by omega) h2
        · obtain ⟨m, b', hl⟩ := y1 c3
          unfold f_X12_bears_b64
          intro x ex
          refine ih (v - 1) v4 x Z5 I5 L5 _ (by omega) (by omega) (nx x ex) ho X5 bd5 f05 (CP.trans f0.1 cp0 cp5) (Or.inr ⟨by omega, Or.inr ⟨v - 1, by omega, by omega, ⟨m, (I5 v0 41).toInt, (I5 v0 42).toInt, b', ?_⟩, fun w h1 h2 => n w (by omega) h2⟩⟩)
          rw [show ((v - 1 : Nat) : Int) = v4.toInt by omega]
          exact hl
      · omega
set_option maxHeartbeats 1000000 in
theorem r_X12_bears {B : Nat × Nat} {T : Nat} {L : jL} {Z : jZ} {I : jI} {v0 t1 t2 t3 t4 t5 t6 t9 t10 t11 t12 t13 t29 t30 uX0 uX1 : Nat} {s0 s1 : Int} {D : DAT} {a : Nat → Int32} (X : RFM Z I v0 t1 t2 t3 t4 t5 t6 t9 t10 t11 t12 t13 t29 t30 uX0 uX1 s0 s1 D a) (ok : aOK a) (bd : BUD B Z T) (v1 : Int32) {Q : Int32 → jZ → jI → jL → Prop}
    (hQ : ∀ (r : Int32) (Z' : jZ) (I' : jI) (L' : jL), BRd D a v1 r.toInt → RFM Z' I' v0 t1 t2 t3 t4 t5 t6 t9 t10 t11 t12 t13 t29 t30 uX0 uX1 s0 s1 D a → BUD B Z' T → FR Ws_X12_bears Z I Z' I' → CP Z Z' → Q r Z' I' L') : f_X12_bears B v0 v1 Z I L Q := by
  have z0 : (0 : Int32).toInt = 0 := rfl
  have w := X.w
  have kv := X.S.1
  have d := X.dok
  unfold f_X12_bears
  intro I1 e1
  have w1 : WD Z I1 := by rw [e1]; exact WD_putF w 12 22 kv (by decide) (by decide) trivial
  have f1 : FR [(12, 22)] Z I Z I1 := by rw [e1]; exact FR_putF kv (by decide) List.mem_cons_self
  have X1 := X.fr w1 f1 (by decide) (by decide)
  have hp8 := X1.hp
  have p6 := d.2.1
  have bad : ¬ inP D v1 → Q (-1 : Int32) Z I1 L := fun n => hQ _ Z I1 L (Or.inl ⟨n, rfl⟩) X1 bd (f1.mono (by decide)) CP.rf
  refine s_X12_isOne w1 v0 v1 kv (fun r hr => ⟨fun c => bad (fun q => ?_), fun c => ⟨fun c1 => ?_, fun c1 => bad (fun q => ?_)⟩⟩)
  · have c := (i_eq rfl z0).mp c
    have := q.1
    omega
  · have c := (not_congr (i_eq rfl z0)).mp c
    have c1 := (not_congr (i_eq X1.hn z0)).mp c1
    obtain ⟨p, ev⟩ : ∃ p : Nat, v1.toInt = (p : Int) := ⟨v1.toInt.toNat, by omega⟩
    have hp : p < dP D := by omega
    have ep : v1.toInt.toNat = p := by omega
    have inp : inP D v1 := ⟨by omega, by omega⟩
    have n1 : v1.toNatClampNeg = p := by have := i_nat ev (by omega); omega
    intro b hb; cases X1.h12.symm.trans hb
    refine ⟨vi_of ev (by omega) (by omega), fun x39 e39 => ?_⟩
    rw [n1] at e39
    have X2 : RFM Z I1 v0 t1 t2 t3 t4 t5 t6 t9 t10 t11 t12 t13 t29 t30 uX0 uX1 s0 s1 (set4 D (dS D) (dX D) (dVw D) (dLd D)) a := X1
    exact ⟨52, brr_L36 w ok d (by omega) p hp v1 x39 ev (by rw [e39]; exact (X1.pil p hp).2.2.2.1) (fun r Z' I' L' hb X' bd' f' cp' => hQ r Z' I' L' (Or.inr ⟨inp, by rw [ep]; exact hb⟩) X' bd' f' cp') 52 51 (-2) 50 Z I1 L (dLd D) (by omega) (by omega) rfl (fun _ _ => rfl) X2 bd (f1.mono (by decide)) CP.rf (Or.inl ⟨by decide, fun w h1 h2 => by omega⟩)⟩
  · have c1 := (i_eq X1.hn z0).mp c1
    have := q.2
    omega
/-! ===== the reference: breaks, shut ===== -/
theorem i_has {x : Int32} : ((x &&& (1 : Int32)) = 1) ↔ ¬ ((x &&& (1 : Int32)) = 0) := by
  rcases i_and1 (x := x) with h | h
  · rw [h]; decide
  · rw [h]; decide
set_option maxHeartbeats 4000000 in
theorem bkk_L56 {B : Nat × Nat} {T : Nat} {Z0 : jZ} {I0 : jI} (w0 : WD Z0 I0) {v0 t1 t2 t3 t4 t5 t6 t9 t10 t11 t12 t13 t29 t30 uX0 uX1 : Nat} {s0 s1 : Int} {D : DAT} {a : Nat → Int32} (ok : aOK a) (d : DOK D) (hn1 : 1 ≤ dN D) (p : Nat) (hp : p < dP D) (v1 v2 v3 : Int32) (e1 : v1.toInt = (p : Int)) (e3 : v3 = dVw D p) {Q : Int32 → jZ → jI → jL → Prop}
    (hQ : ∀ (r : Int32) (Z' : jZ) (I' : jI) (L' : jL) (l : Int), BKs D a p 8 r.toInt l → RFM Z' I' v0 t1 t2 t3 t4 t5 t6 t9 t10 t11 t12 t13 t29 t30 uX0 uX1 s0 s1 D a → BUD B Z' T → FR Ws_X12_breaks Z0 I0 Z' I' → CP Z0 Z' → Q r Z' I' L') :
    ∀ (k g : Nat) (v4 v5 v6 : Int32) (Z : jZ) (I : jI) (L : jL) (Va : Nat → Int32), 9 ≤ k + g → g ≤ 8 → v6.toInt = (g : Int) → (∀ q, q ≠ p → Va q = dVw D q) → RFM Z I v0 t1 t2 t3 t4 t5 t6 t9 t10 t11 t12 t13 t29 t30 uX0 uX1 s0 s1 (set4 D (dS D) (dX D) Va (dLd D)) a → BUD B Z T → FR Ws_X12_breaks Z0 I0 Z I → CP Z0 Z → BKs D a p g v4.toInt v5.toInt → f_X12_breaks_L56 B Q k v0 v1 v2 v3 v4 v5 v6 Z I L := by
  have z0 : (0 : Int32).toInt = 0 := rfl
  have z1 : (1 : Int32).toInt = 1 := rfl
  have z8 : (8 : Int32).toInt = 8 := rfl
  have z2 : (-2 : Int32).toInt = -2 := by decide
  have p6 := d.2.1
  have n1 : v1.toNatClampNeg = p := by have := i_nat e1 (by omega); omega
  have vi : vp_in v1 6 := vi_of e1 (by omega) (by omega)
  intro k
  induction k with
  | zero => intro g v4 v5 v6 Z I L Va hk hi; omega
  | succ k ih =>
    intro g v4 v5 v6 Z I L Va hk hi e6 hVa X bd f0 cp0 hB
    have kv := X.S.1
    have hv4 : v4.toInt = -2 ∨ 0 ≤ v4.toInt := by
      rcases hB with ⟨h, -⟩ | ⟨q, q1, q2, -⟩
      · exact Or.inl h
      · exact Or.inr (by omega)
    have nx : ∀ y : Int32, y = v6 + 1 → y.toInt = ((g + 1 : Nat) : Int) := fun y ey => by rw [ey]; exact (i_add e6 z1 (by omega) (by omega)).trans (by omega)
    unfold f_X12_breaks_L56
    refine ⟨fun c => ?_, fun c => ?_⟩
    · have c := (i_le z8 e6).mp c
      have g9 : g = 8 := by omega
      subst g9
      intro b hb'; cases X.h13.symm.trans hb'
      refine ⟨vi, fun I3 e3' => ?_⟩
      rw [n1] at e3'
      obtain ⟨X3, f3⟩ := X.putV p v3 (dVw D) (fun q _ => by
        by_cases c : q = p
        · rw [if_pos c, c, e3]
        · rw [if_neg c]
          exact (hVa q c).symm)
      rw [← e3'] at X3 f3
      have X4 : RFM Z I3 v0 t1 t2 t3 t4 t5 t6 t9 t10 t11 t12 t13 t29 t30 uX0 uX1 s0 s1 D a := X3
      have f03 : FR Ws_X12_breaks Z0 I0 Z I3 := f0.trans w0.1 w0.2.1 (f3.mono (by decide))
      refine ⟨fun c => ?_, fun c => ?_⟩
      · intro I5 e5
        have w5 : WD Z I5 := by rw [e5]; exact WD_putF X4.w 12 21 kv (by decide) (by decide) (by first | exact trivial | (constructor <;> decide))
        have f5 : FR [(12, 21)] Z I3 Z I5 := by rw [e5]; exact FR_putF kv (by decide) List.mem_cons_self
        have e21 : (I5 v0 21).toInt = 0 := by rw [e5, jpI_at]; rfl
        refine s_X12_tell w5 v0 _ kv (by omega) (fun I6 L6 w6 f6 e66 => ?_)
        refine s_X12_tell w6 v0 _ kv (by omega) (fun I7 L7 w7 f7 _ => ?_)
        exact hQ v4 Z I7 L7 _ hB (((X4.fr w5 f5 (by decide) (by decide)).fr w6 f6 (by decide) (by decide)).fr w7 f7 (by decide) (by decide)) bd (((f03.trans w0.1 w0.2.1 (f5.mono (by decide))).trans w0.1 w0.2.1 (f6.mono (by decide))).trans w0.1 w0.2.1 (f7.mono (by decide))) cp0
      · have c := (not_congr (i_le z0 rfl)).mp c
        rcases hv4 with h | h
        · exact hQ (-2) Z I3 L _ (by rw [z2, ← h]; exact hB) X4 bd f03 cp0
        · omega
    · have c := (not_congr (i_le z8 e6)).mp c
      have ev : v6 = Int32.ofNat g := i_of e6 (by omega)
      unfold f_X12_has
      refine ⟨fun cb => ⟨fun q => absurd rfl q, fun _ => ?_⟩, fun cb => ⟨fun _ => ?_, fun q => absurd q (by decide)⟩⟩
      · unfold f_X12_breaks_b124
        intro x ex
        refine ih (g + 1) v4 v5 x Z I L Va (by omega) (by omega) (nx x ex) hVa X bd f0 cp0 (BKs_no hB (fun hb => absurd ?_ hb))
        rw [ev, e3] at cb
        exact Classical.byContradiction (fun q => cb (i_has.mpr q))
      · have hb : vwb (dVw D p) g := by
          unfold vwb
          rw [ev, e3] at cb
          exact i_has.mp cb
        intro b hb'; cases X.h13.symm.trans hb'
        refine ⟨vi, fun I3 e3' => ?_⟩
        rw [n1, show (v3 &&& (((1 : Int32) <<< (v6 &&& 31)) ^^^ (-1 : Int32))) = vwo (dVw D p) g by rw [ev, e3]; rfl] at e3'
        obtain ⟨X3, f3⟩ := X.putV p (vwo (dVw D p) g) (fun q => if q = p then vwo (dVw D p) g else dVw D q) (fun q _ => by
          by_cases c : q = p
          · rw [if_pos c, if_pos c]
          · rw [if_neg c, if_neg c]
            exact (hVa q c).symm)
        rw [← e3'] at X3 f3
        have X4 : RFM Z I3 v0 t1 t2 t3 t4 t5 t6 t9 t10 t11 t12 t13 t29 t30 uX0 uX1 s0 s1 (set4 D (dS D) (dX D) (fun q => if q = p then vwo (dVw D p) g else dVw D q) (dLd D)) a := X3
        refine X4.fc ok bd hn1 v1 p hp e1 (fun r Z5 I5 L5 t44 w5 bd5 f5 cp5 h44 hr => ?_)
        have hr' : CLR (dLp D p) (dN D) (opF (vwo (dVw D p) g) (dMn D) (-1)) (dCl D a (dLd D p)) (dEl D (dLd D p)) (dKn D p) (dPu D p) I5 v0 t44 r := by
          have g9 : (fun q => if q = p then vwo (dVw D p) g else dVw D q) p = vwo (dVw D p) g := if_pos rfl
          have hr2 : CLR (dLp D p) (dN D) (opF ((fun q => if q = p then vwo (dVw D p) g else dVw D q) p) (dMn D) (-1)) (dCl D a (dLd D p)) (dEl D (dLd D p)) (dKn D p) (dPu D p) I5 v0 t44 r := hr
          rw [g9] at hr2
          exact hr2
        obtain ⟨y0, y1⟩ := CLR_OC hr'
        have X5 := X4.fr w5 f5 (by decide) (by decide)
        have f05 : FR Ws_X12_breaks Z0 I0 Z5 I5 := (f0.trans w0.1 w0.2.1 (f3.mono (by decide))).trans w0.1 w0.2.1 (f5.mono (by decide))
        have cp05 := CP.trans f0.1 cp0 cp5
        have ho : ∀ q, q ≠ p → (fun q => if q = p then vwo (dVw D p) g else dVw D q) q = dVw D q := fun q hq => if_neg hq
        have keep : BKs D a p (g + 1) v4.toInt v5.toInt → f_X12_breaks_b124 B (f_X12_breaks_L56 B Q k) Q v0 v1 v2 v3 v4 v5 v6 Z5 I5 L5 := fun hb9 => by
          unfold f_X12_breaks_b124
          intro x ex
          exact ih (g + 1) v4 v5 x Z5 I5 L5 _ (by omega) (by omega) (nx x ex) ho X5 bd5 f05 cp05 hb9
        refine ⟨fun c3 => keep (BKs_no hB (fun _ => y0 c3)), fun c3 => ?_⟩
        obtain ⟨m, b', hl⟩ := y1 c3
        have new : (v4.toInt = -2 ∨ (I5 v0 41).toInt < v5.toInt) → f_X12_breaks_b114 B (f_X12_breaks_L56 B Q k) Q v0 v1 v2 v3 v6 Z5 I5 L5 := fun hc => by
          unfold f_X12_breaks_b114
          intro x2 e2
          unfold f_X12_breaks_b124
          intro x ex
          refine ih (g + 1) v6 x2 x Z5 I5 L5 _ (by omega) (by omega) (nx x ex) ho X5 bd5 f05 cp05 ?_
          rw [e6, e2]
          exact BKs_new hB hb hl hc
        refine ⟨fun c4 => new (Or.inl ?_), fun c4 => ⟨fun c5 => new (Or.inr ((i_lt rfl rfl).mp c5)), fun c5 => ?_⟩⟩
        · have c4 := (i_lt rfl z0).mp c4
          omega
        · have c4 := (not_congr (i_lt rfl z0)).mp c4
          have c5 := (not_congr (i_lt rfl rfl)).mp c5
          exact keep (BKs_keep hB (by omega) hl (by omega))
set_option maxHeartbeats 1000000 in
theorem r_X12_breaks {B : Nat × Nat} {T : Nat} {L : jL} {Z : jZ} {I : jI} {v0 t1 t2 t3 t4 t5 t6 t9 t10 t11 t12 t13 t29 t30 uX0 uX1 : Nat} {s0 s1 : Int} {D : DAT} {a : Nat → Int32} (X : RFM Z I v0 t1 t2 t3 t4 t5 t6 t9 t10 t11 t12 t13 t29 t30 uX0 uX1 s0 s1 D a) (ok : aOK a) (bd : BUD B Z T) (v1 : Int32) {Q : Int32 → jZ → jI → jL → Prop}
    (hQ : ∀ (r : Int32) (Z' : jZ) (I' : jI) (L' : jL), BKd D a v1 r.toInt → RFM Z' I' v0 t1 t2 t3 t4 t5 t6 t9 t10 t11 t12 t13 t29 t30 uX0 uX1 s0 s1 D a → BUD B Z' T → FR Ws_X12_breaks Z I Z' I' → CP Z Z' → Q r Z' I' L') : f_X12_breaks B v0 v1 Z I L Q := by
  have z0 : (0 : Int32).toInt = 0 := rfl
  have w := X.w
  have kv := X.S.1
  have d := X.dok
  unfold f_X12_breaks
  intro I1 e1
  have w1 : WD Z I1 := by rw [e1]; exact WD_putF w 12 22 kv (by decide) (by decide) trivial
  have f1 : FR [(12, 22)] Z I Z I1 := by rw [e1]; exact FR_putF kv (by decide) List.mem_cons_self
  have X1 := X.fr w1 f1 (by decide) (by decide)
  have hp8 := X1.hp
  have p6 := d.2.1
  have bad : ¬ inP D v1 → Q (-1 : Int32) Z I1 L := fun n => hQ _ Z I1 L (Or.inl ⟨n, rfl⟩) X1 bd (f1.mono (by decide)) CP.rf
  refine s_X12_isOne w1 v0 v1 kv (fun r hr => ⟨fun c => bad (fun q => ?_), fun c => ⟨fun c1 => ?_, fun c1 => bad (fun q => ?_)⟩⟩)
  · have c := (i_eq rfl z0).mp c
    have := q.1
    omega
  · have c := (not_congr (i_eq rfl z0)).mp c
    have c1 := (not_congr (i_eq X1.hn z0)).mp c1
    obtain ⟨p, ev⟩ : ∃ p : Nat, v1.toInt = (p : Int) := ⟨v1.toInt.toNat, by omega⟩
    have hp : p < dP D := by omega
    have ep : v1.toInt.toNat = p := by omega
    have inp : inP D v1 := ⟨by omega, by omega⟩
    have n1 : v1.toNatClampNeg = p := by have := i_nat ev (by omega); omega
    refine X1.fc ok bd (by omega) v1 p hp ev (fun r2 Z2 I2 L2 t44 w2 bd2 f2 cp2 h44 hr2 => ?_)
    have X2 := X1.fr w2 f2 (by decide) (by decide)
    have f12 : FR Ws_X12_breaks Z I Z2 I2 := (f1.mono (by decide)).trans w.1 w.2.1 (f2.mono (by decide))
    have go : ∀ s9 : Int32, f_X12_breaks_b38 B Q v0 v1 s9 Z2 I2 L2 := fun s9 => by
      unfold f_X12_breaks_b38
      intro b hb; cases X2.h13.symm.trans hb
      refine ⟨vi_of ev (by omega) (by omega), fun x45 e45 => ?_⟩
      rw [n1] at e45
      have ev3 : x45 = dVw D p := e45.trans (X2.pil p hp).2.2.2.2
      have X3 : RFM Z2 I2 v0 t1 t2 t3 t4 t5 t6 t9 t10 t11 t12 t13 t29 t30 uX0 uX1 s0 s1 (set4 D (dS D) (dX D) (dVw D) (dLd D)) a := X2
      exact ⟨9, bkk_L56 w ok d (by omega) p hp v1 s9 x45 ev ev3 (fun r Z' I' L' l hb X' bd' f' cp' => hQ r Z' I' L' (Or.inr ⟨inp, l, by rw [ep]; exact hb⟩) X' bd' f' cp') 9 0 (-2) 0 0 Z2 I2 L2 (dVw D) (by omega) (by omega) rfl (fun _ _ => rfl) X3 bd2 f12 cp2 (Or.inl ⟨by decide, fun f hf => absurd hf (Nat.not_lt_zero f)⟩)⟩
    exact ⟨fun _ => go _, fun _ => go _⟩
  · have c1 := (i_eq X1.hn z0).mp c1
    have := q.2
    omega
/-! step s shut: what the reference finds then -/
def RFs (v0 t1 t2 t3 t4 t5 t6 t9 t10 t11 t12 t13 t29 t30 uX0 uX1 : Nat) (s0 s1 : Int) (D : DAT) (a : Nat → Int32) (cl : Int) (Z : jZ) (I : jI) : Prop := ∃ I0 : jI, RFM Z I0 v0 t1 t2 t3 t4 t5 t6 t9 t10 t11 t12 t13 t29 t30 uX0 uX1 s0 s1 D a ∧ WD Z I ∧ FR [(12, 39)] Z I0 Z I ∧ (I v0 39).toInt = cl
def Wk12z : List (Nat × Nat) := [(12, 0), (12, 1), (12, 2), (12, 4), (12, 5), (12, 6), (12, 8), (12, 9), (12, 10), (12, 11), (12, 12), (12, 13), (12, 30), (19, 0), (19, 1)]
theorem RFM.fraZ {W : List (Nat × Nat)} {Z' : jZ} {I' : jI} {Z : jZ} {I : jI} {v0 t1 t2 t3 t4 t5 t6 t9 t10 t11 t12 t13 t29 t30 uX0 uX1 : Nat} {s0 s1 : Int} {D : DAT} {a : Nat → Int32} (X : RFM Z I v0 t1 t2 t3 t4 t5 t6 t9 t10 t11 t12 t13 t29 t30 uX0 uX1 s0 s1 D a) (w' : WD Z' I') (f : FR W Z I Z' I') (hW : ∀ p ∈ Wk12z, p ∉ W) (h3' : ∀ k, k < dN D → I' t3 k = a k) (hZ : (I' v0 39).toInt = -1) : RFM Z' I' v0 t1 t2 t3 t4 t5 t6 t9 t10 t11 t12 t13 t29 t30 uX0 uX1 s0 s1 D a := by
  have w := X.w
  obtain ⟨k1, k2, k3, k4, k6, k29, l29, k30⟩ := STm_k w X.S
  obtain ⟨kv, h1, h2, h3, h4, h6, h29, h30⟩ := X.S
  obtain ⟨x, ex, k5, -⟩ := sh_f w.1 kv (j := 5) (k := 14) (m := 192) rfl
  cases X.h5.symm.trans ex
  obtain ⟨x, ex, k9, -⟩ := sh_f w.1 kv (j := 9) (k := 14) (m := 6) rfl
  cases X.h9.symm.trans ex
  obtain ⟨x, ex, k10, -⟩ := sh_f w.1 kv (j := 10) (k := 14) (m := 6) rfl
  cases X.h10.symm.trans ex
  obtain ⟨x, ex, k11, -⟩ := sh_f w.1 kv (j := 11) (k := 14) (m := 6) rfl
  cases X.h11.symm.trans ex
  obtain ⟨x, ex, k12, -⟩ := sh_f w.1 kv (j := 12) (k := 14) (m := 6) rfl
  cases X.h12.symm.trans ex
  obtain ⟨x, ex, k13, -⟩ := sh_f w.1 kv (j := 13) (k := 14) (m := 6) rfl
  cases X.h13.symm.trans ex
  obtain ⟨x, ex, kX0, -⟩ := w.1.2.2.2 t29 k29 0 (by rw [l29]; decide)
  cases X.hX0.symm.trans ex
  obtain ⟨x, ex, kX1, -⟩ := w.1.2.2.2 t29 k29 1 (by rw [l29]; decide)
  cases X.hX1.symm.trans ex
  have rf : ∀ (j b : Nat), jr Z v0 j = some b → j ≠ 23 → jr Z' v0 j = some b := fun j b e hj => (f.2.1 v0 12 j kv (fun q => absurd q.1 (by decide)) (fun q => hj q.2)).trans e
  have ar : ∀ (j b k : Nat), jr Z v0 j = some b → jk Z b k → jia k = true → j ≠ 23 → (12, j) ∈ Wk12z → I' b = I b := fun j b k e kb hk hj hn => f.2.2.2 v0 12 j b kv e (by rw [kb.2]; exact hk) (jsr12 hj) (hW _ hn)
  have fl : ∀ j, (12, j) ∈ Wk12z → I' v0 j = I v0 j := fun j hj => f.2.2.1 v0 12 j kv (by decide) (hW _ hj)
  have a1 := ar 1 t1 14 h1 k1 rfl (by decide) (by decide)
  have a2 := ar 2 t2 14 h2 k2 rfl (by decide) (by decide)
  have a4 := ar 4 t4 16 h4 k4 rfl (by decide) (by decide)
  have a5 := ar 5 t5 14 X.h5 k5 rfl (by decide) (by decide)
  have a6 := ar 6 t6 16 h6 k6 rfl (by decide) (by decide)
  have a9 := ar 9 t9 14 X.h9 k9 rfl (by decide) (by decide)
  have a10 := ar 10 t10 14 X.h10 k10 rfl (by decide) (by decide)
  have a11 := ar 11 t11 14 X.h11 k11 rfl (by decide) (by decide)
  have a12 := ar 12 t12 14 X.h12 k12 rfl (by decide) (by decide)
  have a13 := ar 13 t13 14 X.h13 k13 rfl (by decide) (by decide)
  have a30 := ar 30 t30 14 h30 k30 rfl (by decide) (by decide)
  have aX0 : I' uX0 = I uX0 := f.2.2.2 t29 19 0 uX0 k29 X.hX0 (by rw [kX0.2]; rfl) rfl (hW _ (by decide))
  have aX1 : I' uX1 = I uX1 := f.2.2.2 t29 19 1 uX1 k29 X.hX1 (by rw [kX1.2]; rfl) rfl (hW _ (by decide))
  refine ⟨w', ⟨(f.1 _ _ kv).1, rf 1 _ h1 (by decide), rf 2 _ h2 (by decide), rf 3 _ h3 (by decide), rf 4 _ h4 (by decide), rf 6 _ h6 (by decide), rf 29 _ h29 (by decide), rf 30 _ h30 (by decide)⟩, rf 5 _ X.h5 (by decide), rf 9 _ X.h9 (by decide), rf 10 _ X.h10 (by decide), rf 11 _ X.h11 (by decide), rf 12 _ X.h12 (by decide), rf 13 _ X.h13 (by decide), (f.2.1 t29 19 0 k29 (by decide) (by decide)).trans X.hX0, (f.2.1 t29 19 1 k29 (by decide) (by decide)).trans X.hX1, ?_, ?_, ?_, ?_, ?_, ?_, ?_, ?_, ?_, ?_, ?_, ?_, ?_, ?_⟩
  · rw [a30, aX0]; exact X.g0
  · rw [a30, aX1]; exact X.g1
  · rw [aX0]; exact X.d0
  · rw [aX1]; exact X.d1
  · rw [fl 0 (by decide)]; exact X.hn
  · rw [fl 8 (by decide)]; exact X.hp
  · exact h3'
  · rw [a1]; exact X.hr
  · rw [a2]; exact X.hs
  · rw [a4]; exact X.hw
  · rw [a6]; exact X.hx
  · rw [a5]; exact X.hm
  · rw [a9, a10, a11, a12, a13]; exact X.pil
  · exact hZ

theorem jpI_back {I : jI} {v j : Nat} {x y : Int32} (h : y = I v j) : jpI (jpI I v j x) v j y = I := by
  funext a k
  by_cases c : a = v
  · subst c
    by_cases c2 : k = j
    · subst c2
      rw [jpI_at]; exact h
    · rw [jpI_off c2, jpI_off c2]
  · rw [jpI_ne c, jpI_ne c]
set_option maxHeartbeats 1000000 in
theorem RFs.smd {B : Nat × Nat} {T : Nat} {cl : Int} {Z : jZ} {I : jI} {v0 t1 t2 t3 t4 t5 t6 t9 t10 t11 t12 t13 t29 t30 uX0 uX1 : Nat} {s0 s1 : Int} {D : DAT} {a : Nat → Int32} (h : RFs v0 t1 t2 t3 t4 t5 t6 t9 t10 t11 t12 t13 t29 t30 uX0 uX1 s0 s1 D a cl Z I) (ok : aOK a) (p : Nat) (hp : p < dP D) (t37 t38 : Nat) (h37 : jr Z v0 37 = some t37) (h38 : jr Z v0 38 = some t38) : SMd B T Z I v0 t1 t2 t11 t12 t13 t37 t38 p (dLp D p) (dN D) (dLd D p) cl (dVw D p) (dMn D) (PRa D a) (Hn (dR D) (dN D)) (Hn (dS D) (dN D)) ∧ (I t9 p).toInt = dKn D p ∧ (I t10 p).toInt = dPu D p := by
  obtain ⟨I0, X, w, f, e39⟩ := h
  have d := X.dok
  obtain ⟨k1, k2, k3, k4, k6, k29, l29, k30⟩ := STm_k X.w X.S
  obtain ⟨kv, h1, h2, h3, h4, h6, h29, h30⟩ := X.S
  obtain ⟨x, ex, k5, -⟩ := sh_f w.1 kv (j := 5) (k := 14) (m := 192) rfl
  cases X.h5.symm.trans ex
  obtain ⟨x, ex, k9, -⟩ := sh_f w.1 kv (j := 9) (k := 14) (m := 6) rfl
  cases X.h9.symm.trans ex
  obtain ⟨x, ex, k10, -⟩ := sh_f w.1 kv (j := 10) (k := 14) (m := 6) rfl
  cases X.h10.symm.trans ex
  obtain ⟨x, ex, k11, -⟩ := sh_f w.1 kv (j := 11) (k := 14) (m := 6) rfl
  cases X.h11.symm.trans ex
  obtain ⟨x, ex, k12, -⟩ := sh_f w.1 kv (j := 12) (k := 14) (m := 6) rfl
  cases X.h12.symm.trans ex
  obtain ⟨x, ex, k13, -⟩ := sh_f w.1 kv (j := 13) (k := 14) (m := 6) rfl
  cases X.h13.symm.trans ex
  obtain ⟨x, ex, kX0, -⟩ := w.1.2.2.2 t29 k29 0 (by rw [l29]; decide)
  cases X.hX0.symm.trans ex
  obtain ⟨x, ex, kX1, -⟩ := w.1.2.2.2 t29 k29 1 (by rw [l29]; decide)
  cases X.hX1.symm.trans ex
  have ar : ∀ (j b k : Nat), jr Z v0 j = some b → jk Z b k → jia k = true → j ≠ 23 → (12, j) ∈ Wk12 → (12, j) ∉ [(12, 39)] → I b = I0 b := fun j b k e kb hk hj _ hn => f.2.2.2 v0 12 j b kv e (by rw [kb.2]; exact hk) (jsr12 hj) hn
  have a1 := ar 1 t1 14 h1 k1 rfl (by decide) (by decide) (by decide)
  have a2 := ar 2 t2 14 h2 k2 rfl (by decide) (by decide) (by decide)
  have a3 : I t3 = I0 t3 := f.2.2.2 v0 12 3 t3 kv h3 (by rw [k3.2]; rfl) rfl (by decide)
  have a4 := ar 4 t4 16 h4 k4 rfl (by decide) (by decide) (by decide)
  have a5 := ar 5 t5 14 X.h5 k5 rfl (by decide) (by decide) (by decide)
  have a6 := ar 6 t6 16 h6 k6 rfl (by decide) (by decide) (by decide)
  have a9 := ar 9 t9 14 X.h9 k9 rfl (by decide) (by decide) (by decide)
  have a10 := ar 10 t10 14 X.h10 k10 rfl (by decide) (by decide) (by decide)
  have a11 := ar 11 t11 14 X.h11 k11 rfl (by decide) (by decide) (by decide)
  have a12 := ar 12 t12 14 X.h12 k12 rfl (by decide) (by decide) (by decide)
  have a13 := ar 13 t13 14 X.h13 k13 rfl (by decide) (by decide) (by decide)
  have a30 := ar 30 t30 14 h30 k30 rfl (by decide) (by decide) (by decide)
  have aX0 : I uX0 = I0 uX0 := f.2.2.2 t29 19 0 uX0 k29 X.hX0 (by rw [kX0.2]; rfl) rfl (by decide)
  have aX1 : I uX1 = I0 uX1 := f.2.2.2 t29 19 1 uX1 k29 X.hX1 (by rw [kX1.2]; rfl) rfl (by decide)
  have mnm : MNM Z I v0 (dN D) (dMn D) := by
    intro v1 s Z' I' L Q w' f' e1 hs hQ
    have n24 := d.1
    have a5' : I' t5 = I t5 := f'.2.2.2 v0 12 5 t5 kv X.h5 (by rw [k5.2]; rfl) rfl (by decide)
    refine s17_X12_mainOf v0 v1 t5 ((f'.2.1 v0 12 5 kv (by decide) (by decide)).trans X.h5) s e1 (by omega) (fun r er => ?_)
    rw [a5', a5, X.hm s hs] at er
    rw [(i_eq (x := r) (y := dMn D s) rfl rfl).mpr er]
    exact hQ
  have prm : PRM B T Z I v0 (dN D : Int) (PRa D a) := by
    unfold PRa
    rw [X.d0, X.d1]
    have h := PRM_of (B := B) (T := T) w v0 t1 t2 t3 t4 t6 t29 t30 X.S (dN D) d.1 (dMn D) X.bm mnm uX0 uX1 X.hX0 X.hX1 s0 s1 (by rw [a30, aX0]; exact X.g0) (by rw [a30, aX1]; exact X.g1) a (dR D) (dS D) (dW D) (dX D) (by rw [a3]; exact X.ha) (by rw [a1]; exact X.hr) (by rw [a2]; exact X.hs) (by rw [a4]; exact X.hw) (by rw [a6]; exact X.hx)
    rw [aX0, aX1] at h
    exact h
  obtain ⟨e9, e10, e11, e12, e13⟩ := X.pil p hp
  obtain ⟨q1, q2, q3, q4⟩ := d.2.2.2.2 p hp
  refine ⟨⟨w, kv, h1, h2, X.h11, X.h12, X.h13, h37, h38, prm, mnm, PRa_rng ok, Hn_rng (by omega) d.2.2.1, Hn_rng (by omega) d.2.2.2.1, fun s hs => ?_, fun s hs => ?_, ?_, ⟨by rw [a11]; exact e11, q1⟩, ⟨by rw [a12]; exact e12, q2⟩, by rw [a13]; exact e13, e39, d.1, by have := d.2.1; omega⟩, by rw [a9]; exact e9, by rw [a10]; exact e10⟩
  · rw [Hn_at hs, a1, X.hr s (by omega)]
  · rw [Hn_at hs, a2, X.hs s (by omega)]
  · rw [f.2.2.1 v0 12 0 kv (by decide) (by decide)]; exact X.hn
set_option maxHeartbeats 1000000 in
theorem RFs.fcy {B : Nat × Nat} {T : Nat} {cl : Int} {v0 t1 t2 t3 t4 t5 t6 t9 t10 t11 t12 t13 t29 t30 uX0 uX1 : Nat} {s0 s1 : Int} {D : DAT} {a : Nat → Int32} (ok : aOK a) : FCY B T v0 D a cl (fun Z I => RFs v0 t1 t2 t3 t4 t5 t6 t9 t10 t11 t12 t13 t29 t30 uX0 uX1 s0 s1 D a cl Z I) := fun Z I h => by
  have h9 := h
  obtain ⟨I0, X, w, f, e39⟩ := h
  have kv := X.S.1
  have d := X.dok
  have hn : (I v0 0).toInt = (dN D : Int) := by rw [f.2.2.1 v0 12 0 kv (by decide) (by decide)]; exact X.hn
  have hp8 : (I v0 8).toInt = (dP D : Int) := by rw [f.2.2.1 v0 12 8 kv (by decide) (by decide)]; exact X.hp
  refine ⟨⟨w, kv, hp8, hn⟩, fun Z' I' w' f' => ?_, fun L v1 p Q bd h1 hp e1 hQ => ?_⟩
  · have kv' := (f'.1 _ _ kv).1
    have w0 : WD Z' (jpI I' v0 39 (-1)) := WD_putF w' 12 39 kv' (by decide) (by decide) (by constructor <;> decide)
    have f0 : FR [(12, 39)] Z' I' Z' (jpI I' v0 39 (-1)) := FR_putF kv' (by decide) List.mem_cons_self
    have k3 := (STm_k X.w X.S).2.2.1
    have F : FR ((12, 39) :: Ws_X12_findAll) Z I0 Z' (jpI I' v0 39 (-1)) := ((f.mono (by decide)).trans X.w.1 X.w.2.1 (f'.mono (by decide))).trans X.w.1 X.w.2.1 (f0.mono (by decide))
    have a3 : jpI I' v0 39 (-1) t3 = I0 t3 := F.2.2.2 v0 12 3 t3 kv X.S.2.2.2.1 (by rw [k3.2]; rfl) rfl (by decide)
    refine ⟨jpI I' v0 39 (-1), X.fraZ w0 F (by decide) (by rw [a3]; exact X.ha) (by rw [jpI_at]; decide), w', ?_, ?_⟩
    · have g : FR [(12, 39)] Z' (jpI I' v0 39 (-1)) Z' (jpI (jpI I' v0 39 (-1)) v0 39 (I' v0 39)) := FR_putF kv' (by decide) List.mem_cons_self
      rw [jpI_back rfl] at g
      exact g
    · rw [f'.2.2.1 v0 12 39 kv (by decide) (by decide)]; exact e39
  · obtain ⟨t37, h37, -⟩ := sh_f w.1 kv (j := 37) (k := 14) (m := 75) rfl
    obtain ⟨t38, h38, -⟩ := sh_f w.1 kv (j := 38) (k := 14) (m := 75) rfl
    obtain ⟨t40, h40, -⟩ := sh_f w.1 kv (j := 40) (k := 14) (m := 25000) rfl
    obtain ⟨t44, h44, -⟩ := sh_f w.1 kv (j := 44) (k := 14) (m := 24) rfl
    obtain ⟨S, e9, e10⟩ := RFs.smd h9 ok p hp t37 t38 h37 h38
    obtain ⟨q1, q2, q3, q4⟩ := d.2.2.2.2 p hp
    have p6 := d.2.1
    refine and_X12_findClimb (s_X12_findClimb w bd v0 v1 kv t37 h37 t38 h38 t40 h40 t9 X.h9 t44 h44 (by omega) (by omega) (Q := fun r Z' I' L' => WD Z' I' ∧ BUD B Z' T ∧ FR Ws_X12_findClimb Z I Z' I' ∧ CP Z Z') (fun r Z' I' L' a b c e _ => ⟨a, b, c, e⟩)) (r_X12_findClimb S bd v1 e1 t9 t10 X.h9 X.h10 (dKn D p).toNat (by omega) (by omega) (dPu D p) e10 (Q := fun r Z' I' L' => ∃ t44, jr Z' v0 44 = some t44 ∧ CLR (dLp D p) (dN D) (opF (dVw D p) (dMn D) cl) (dCl D a (dLd D p)) (dEl D (dLd D p)) (((dKn D p).toNat : Nat) : Int) (dPu D p) I' v0 t44 r) (fun r Z' I' L' t44 a b => ⟨t44, a, b⟩)) (fun r Z' I' L' h1 h2 => ?_)
    obtain ⟨a1, a2, a3, a4⟩ := h1
    obtain ⟨t, b1, b2⟩ := h2
    rw [show (((dKn D p).toNat : Nat) : Int) = dKn D p by omega] at b2
    exact hQ r Z' I' L' t a1 a2 a3 a4 b2
set_option maxHeartbeats 4000000 in
theorem r_X12_shut {B : Nat × Nat} {T : Nat} {L : jL} {Z : jZ} {I : jI} {v0 t1 t2 t3 t4 t5 t6 t9 t10 t11 t12 t13 t29 t30 uX0 uX1 : Nat} {s0 s1 : Int} {D : DAT} {a : Nat → Int32} (X : RFM Z I v0 t1 t2 t3 t4 t5 t6 t9 t10 t11 t12 t13 t29 t30 uX0 uX1 s0 s1 D a) (ok : aOK a) (bd : BUD B Z T) (v1 : Int32) {Q : Int32 → jZ → jI → jL → Prop}
    (hQ : ∀ (r : Int32) (Z' : jZ) (I' : jI) (L' : jL), SHd D a v1 r.toInt → RFM Z' I' v0 t1 t2 t3 t4 t5 t6 t9 t10 t11 t12 t13 t29 t30 uX0 uX1 s0 s1 D a → BUD B Z' T → FR Ws_X12_shut Z I Z' I' → CP Z Z' → Q r Z' I' L') : f_X12_shut B v0 v1 Z I L Q := by
  have z0 : (0 : Int32).toInt = 0 := rfl
  have w := X.w
  have kv := X.S.1
  have n24 := X.dok.1
  unfold f_X12_shut
  intro I1 e1
  have w1 : WD Z I1 := by rw [e1]; exact WD_putF w 12 22 kv (by decide) (by decide) trivial
  have f1 : FR [(12, 22)] Z I Z I1 := by rw [e1]; exact FR_putF kv (by decide) List.mem_cons_self
  have X1 := X.fr w1 f1 (by decide) (by decide)
  have hn := X1.hn
  refine s_X12_isStep w1 v0 v1 kv (fun r hr => ⟨fun c => ?_, fun c => hQ _ Z I1 L (Or.inl ⟨?_, rfl⟩) X1 bd (f1.mono (by decide)) CP.rf⟩)
  · have c := (not_congr (i_eq rfl z0)).mp c
    have hin : 0 ≤ v1.toInt ∧ v1.toInt < (dN D : Int) := by omega
    refine r_X12_findAll (RFM.fcy ok) X.dok ok X1 bd (fun Z2 I2 L2 x c e hA hS X2 bd2 f2 cp2 => ?_)
    have X2 : RFM Z2 I2 v0 t1 t2 t3 t4 t5 t6 t9 t10 t11 t12 t13 t29 t30 uX0 uX1 s0 s1 D a := X2
    intro x17 e17 x18 e18 x19 e19 I3 e3
    have kv2 := X2.S.1
    have w3 : WD Z2 I3 := by rw [e3]; exact WD_putF X2.w 12 39 kv2 (by decide) (by decide) (by constructor <;> omega)
    have f3 : FR [(12, 39)] Z2 I2 Z2 I3 := by rw [e3]; exact FR_putF kv2 (by decide) List.mem_cons_self
    have Y3 : RFs v0 t1 t2 t3 t4 t5 t6 t9 t10 t11 t12 t13 t29 t30 uX0 uX1 s0 s1 D a v1.toInt Z2 I3 := ⟨I2, X2, w3, f3, by rw [e3, jpI_at]⟩
    refine r_X12_findAll (RFs.fcy ok) X.dok ok Y3 bd2 (fun Z4 I4 L4 x' c' e' hA' hS' Y4 bd4 f4 cp4 => ?_)
    have kv4 := (f4.1 _ _ kv2).1
    intro I5 e5
    have Y4w : WD Z4 I4 := by
      obtain ⟨_, _, h, _⟩ := Y4
      exact h
    have w5 : WD Z4 I5 := by rw [e5]; exact WD_putF Y4w 12 39 kv4 (by decide) (by decide) (by constructor <;> decide)
    have f5 : FR [(12, 39)] Z4 I4 Z4 I5 := by rw [e5]; exact FR_putF kv4 (by decide) List.mem_cons_self
    have F : FR ((12, 39) :: Ws_X12_findAll) Z2 I2 Z4 I5 := ((f3.mono (by decide)).trans X2.w.1 X2.w.2.1 (f4.mono (by decide))).trans X2.w.1 X2.w.2.1 (f5.mono (by decide))
    have k3 := (STm_k X2.w X2.S).2.2.1
    have a3 : I5 t3 = I2 t3 := F.2.2.2 v0 12 3 t3 kv2 X2.S.2.2.2.1 (by rw [k3.2]; rfl) rfl (by decide)
    have X5 := X2.fraZ w5 F (by decide) (by rw [a3]; exact X2.ha) (by rw [e5, jpI_at]; decide)
    have f15 : FR Ws_X12_shut Z I Z4 I5 := ((f1.mono (by decide)).trans w.1 w.2.1 (f2.mono (by decide))).trans w.1 w.2.1 (F.mono (by decide))
    refine r_X12_tellMore (x := x) (c := c) (e := e) w5 v0 kv4 x17 x18 x19 (by rw [e17]; exact hS.1) (by rw [e18]; exact hS.2.1) (by rw [e19]; exact hS.2.2) (SMm_fr f5 kv4 (by decide) (by decide) (by decide) hS') (fun r7 I7 L7 hd w7 f7 => ?_)
    exact hQ r7 Z4 I7 L7 (Or.inr ⟨hin, x, c, e, x', c', e', hA, hA', hd⟩) (X5.fr w7 f7 (by decide) (by decide)) bd4 (f15.trans w.1 w.2.1 (f7.mono (by decide))) (CP.trans f2.1 cp2 cp4)
  · have c := (i_eq rfl z0).mp c
    omega
/-! ===== rows fed and kept; the easiest climb ===== -/
set_option maxHeartbeats 4000000 in
theorem r_fk {B : Nat × Nat} {T : Nat} {Z : jZ} {I : jI} {L : jL} (w_I : WD Z I) (bd : BUD B Z T) (v0 : Nat) (v1 : Int32) (kv0 : jk Z v0 6) (u9 : Nat) (ku9 : jk Z u9 7) (bb : Nat) (h9 : jr Z bb 0 = some u9) (b0 b1 b2 b4 b5 b6 b7 : Nat) (hc : RCs Z u9 b0 b1 b2 b4 b5 b6 b7) (u4 u5 u6 u7 lp n : Nat) (op : Nat → Prop) (C E : Nat → Nat → Int) (lu : Nat → Int) (hM : MVs Z I v0 u4 u5 u6 u7 lp n op C E lu) (hlp : lp ≤ 3) (hn : n ≤ 24) (hC : ∀ p f, 0 ≤ C p f ∧ C p f ≤ 297) (hE : ∀ p f, 0 ≤ E p f ∧ E p f ≤ 600) (h0 : op 0) (hu : LUs lp n op E lu) (hu9 : ∀ q, lu q ≤ 2000000) (K P : Int) (KK : Int32) (eKK : KK.toInt = K) (eP : (I v0 2).toInt = P) (hK : 0 ≤ K ∧ K ≤ 999) (hP : 0 ≤ P ∧ P ≤ 999) (p : Nat) (hp : 1 ≤ p) (hpn : p ≤ n) (e1v : v1.toInt = (p : Int)) (R : Nat → List Int) (hR : RRb I L b0 b1 b2 R) (hW : ∀ q, q < p → ROW lp op C E P K lu q (R q)) (hfl : (I u9 3).toInt ≤ 90000) {Q : jZ → jI → jL → Prop}
    (hQ : ∀ (Z' : jZ) (I' : jI) (L' : jL) (c0 : Nat) (X : List Int), WD Z' I' → BUD B Z' T → FR W7 Z I Z' I' → CP Z Z' → RO u9 Z I I' → (I' u9 3).toInt ≤ (I u9 3).toInt + 1000 → RCs Z' u9 c0 b1 b2 b4 b5 b6 b7 → RRb I' L' c0 b1 b2 (fun q => if q = p then X else R q) → ROW lp op C E P K lu p X → (c0 = b0 ∨ c0 ∉ Z.1) → (∀ x, x ∈ Z.1 → x ≠ b0 → x ≠ b6 → x ≠ b7 → L' x = L x) → Q Z' I' L') : f_X6_feed v0 u9 v1 (-1 : Int64) (-1 : Int32) Z I L (fun I6 L7 => ∀ b10 : Nat, jr Z bb 0 = some b10 → ∀ b11 : Nat, jr Z v0 7 = some b11 → (vp_in v1 25 ∧ f_X7_keepCheapest B b10 v1 (KK - (I6 b11 v1.toNatClampNeg)) (I6 v0 2) Z I6 L7 Q)) := by
  have z0 : (0 : Int32).toInt = 0 := rfl
  have hMM := hM
  obtain ⟨⟨g4, g5, g6, g7⟩, m3, m15, mo, mm, mu⟩ := hM
  refine r_X6_feed w_I v0 u9 v1 kv0 ku9 b0 b1 b2 b4 b5 b6 b7 hc u4 u5 u6 u7 lp n op C E lu hMM hlp hn hC hE p hp hpn e1v R hR (fun q hq => ROW_srt (hW q hq)) (fun f y ha hy => ROW_rng (by omega) ha.1 ha.2.2.1 hC hE hK.2 hu.2.2 (hW (p - f) (by have := ha.1; omega)) y hy) (fun I6 L7 S m w6 f6 ro6 a3 hR6 hMG6 hcu6 hsr hcn hs hB hL6 => ?_)
  intro b h; cases h9.symm.trans h
  intro b h; cases g7.symm.trans h
  have qn : v1.toNatClampNeg = p := by have := i_nat e1v (by omega); omega
  have e7 : (I6 u7 p).toInt = lu p := (MVs_fr w_I kv0 f6 hMM).2.2.2.2.2 p hpn
  rw [qn]
  refine ⟨vi_of e1v (by omega) (by omega), ?_⟩
  have ep : (I6 v0 2).toInt = P := by rw [f6.2.2.1 v0 6 2 kv0 (by decide) (by decide)]; exact eP
  have u0 := hu.2.2 p
  have u1 := hu9 p
  have tl := i_sub eKK e7 (by omega) (by omega)
  refine r_X7_keepCheapest w6 bd u9 v1 _ _ ku9 b0 b1 b2 b4 b5 b6 b7 hc p (by omega) e1v (K - lu p) tl P ep R hR6 S m hMG6 hcu6 (by rw [a3]; omega) hs hB (fun Z' I' L' c0 w' bd' f' cp' ro' a3' hc' hR' hcu' hc0 hL' => ?_)
  have hlen := kc_len (P := P) (j := m - 1) (cnS S m) S (K - lu p)
  have hrow : ROW lp op C E P K lu p (kc P (m - 1) (cnS S m) S (K - lu p)) := by
    have hlow : ∀ q, q < p → RWs lp op C E P (K - lu q) q ((fun q => if q = p then ([] : List Int) else R q) q) := fun q hq => by
      show RWs lp op C E P (K - lu q) q (if q = p then ([] : List Int) else R q)
      rw [if_neg (by omega)]
      exact (hW q hq).1
    have g := RW_step h0 hC hE hu hK.2 hP.2 hpn hn (by omega) hlow hsr hs (fun i x hx => (hB i x hx).2)
    rw [hcn] at g
    have g2 := kc_srt (P := P) (j := m - 1) (cnS S m) S (K - lu p) (by omega) hs (fun i x hx => (hB i x hx).2)
    exact ⟨g, g2⟩
  exact hQ Z' I' L' c0 _ w' bd' (FR.trans w_I.1 w_I.2.1 f6 f') cp' (RO.trans jext_rfl ro6 ro') (by rw [a3'] ; rw [a3]; omega) hc' hR' hrow hc0 (fun x hx h0' h6 h7 => (hL' x hx h0' h7).trans (hL6 x h6 h7))

/-- the easiest of all climbs that cost P at most (efforts to 999) -/
def KNs (lp n : Nat) (op : Nat → Prop) (C E : Nat → Nat → Int) (P r : Int) : Prop := (r = -2 ∧ ∀ m c e b, ¬ FEA lp n op C E 999 P m c e b) ∨ ∃ m c b, FEA lp n op C E 999 P m c r b ∧ ∀ m' c' e' b', FEA lp n op C E 999 P m' c' e' b' → r ≤ e'
theorem KNs_fun {lp n : Nat} {op : Nat → Prop} {C E : Nat → Nat → Int} {P r r' : Int} (h : KNs lp n op C E P r) (h' : KNs lp n op C E P r') : r = r' := by
  rcases h with ⟨e, n⟩ | ⟨m, c, b, h, l⟩
  · rcases h' with ⟨e', n'⟩ | ⟨m', c', b', h', l'⟩
    · exact e.trans e'.symm
    · exact absurd h' (n _ _ _ _)
  · rcases h' with ⟨e', n'⟩ | ⟨m', c', b', h', l'⟩
    · exact absurd h (n' _ _ _ _)
    · have := l _ _ _ _ h'
      have := l' _ _ _ _ h
      omega
/-- what the class answers of it -/
def KNc (lp n : Nat) (op : Nat → Prop) (C E : Nat → Nat → Int) (P : Int) (r : Int64) : Prop := (r = (9223372036854775807 : Int64) ∧ KNs lp n op C E P (-2)) ∨ (∃ m c e b, PX lp op C E m 0 n c e b ∧ e ≤ 999 ∧ c ≤ P ∧ r.toInt = kf m c e b ∧ KNs lp n op C E P e)
theorem RW_last {lp n : Nat} {op : Nat → Prop} {C E : Nat → Nat → Int} {lu : Nat → Int} {P : Int} {R : List Int} (hn : n ≤ 24) (hC : ∀ p f, 0 ≤ C p f ∧ C p f ≤ 297) (hE : ∀ p f, 0 ≤ E p f ∧ E p f ≤ 600) (h0 : op 0) (hu : LUs lp n op E lu) (h : RWs lp op C E P (999 - lu n) n R) (hs : R.Pairwise (fun a b => a < b ∧ eK b < eK a)) : (R = [] → KNs lp n op C E P (-2)) ∧ (∀ k, R[R.length - 1]? = some k → ∃ m c e b, PX lp op C E m 0 n c e b ∧ e ≤ 999 ∧ c ≤ P ∧ k = kf m c e b ∧ KNs lp n op C E P e) := by
  have up : ∀ m c e b, FEA lp n op C E 999 P m c e b → ∃ k, k ∈ R ∧ eK k ≤ e := by
    intro m c e b hf
    have on := PX_op h0 hf.1
    obtain ⟨k, hk, -, g⟩ := h.2 m c e b hf.1 (by rw [hu.2.1 on]; have := hf.2.1; omega) hf.2.2
    exact ⟨k, hk, g⟩
  refine ⟨fun hR => Or.inl ⟨rfl, fun m c e b hf => ?_⟩, fun k hk => ?_⟩
  · obtain ⟨k, hk, -⟩ := up m c e b hf
    rw [hR] at hk
    exact absurd hk List.not_mem_nil
  · have hm : k ∈ R := List.mem_of_getElem? hk
    obtain ⟨m, c, e, b, hx, ek, he, hc⟩ := h.1 k hm
    have on := PX_op h0 hx
    have r := PX_rng hn hC hE hx
    have e9 : e ≤ 999 := by rw [hu.2.1 on] at he; omega
    refine ⟨m, c, e, b, hx, e9, hc, ek, Or.inr ⟨m, c, b, ⟨hx, e9, hc⟩, fun m' c' e' b' hf => ?_⟩⟩
    obtain ⟨k', hk', g⟩ := up m' c' e' b' hf
    have ee : eK k = e := by rw [ek]; exact kf_eff r.1 (by omega) (by omega)
    obtain ⟨i, hi, ei⟩ := List.mem_iff_getElem.mp hk'
    have hl : R.length - 1 < R.length := by omega
    have ek9 : R[R.length - 1] = k := by
      rw [List.getElem?_eq_getElem hl] at hk
      exact Option.some.inj hk
    by_cases c9 : i = R.length - 1
    · subst c9
      rw [← ei, ek9] at g
      omega
    · have := (List.pairwise_iff_getElem.mp hs) i (R.length - 1) hi hl (by omega)
      rw [ei, ek9] at this
      omega
set_option maxHeartbeats 4000000 in
theorem ez_L13 {B : Nat × Nat} {T : Nat} {Z : jZ} {I : jI} {L : jL} (w_I : WD Z I) (bb v0 : Nat) (kv0 : jk Z v0 6) (kbb : jk Z bb 0) (u9 : Nat) (h9 : jr Z bb 0 = some u9) (ku9 : jk Z u9 7) (b1 b2 b4 b5 b6 b7 : Nat) (u4 u5 u6 u7 lp n : Nat) (op : Nat → Prop) (C E : Nat → Nat → Int) (lu : Nat → Int) (hM : MVs Z I v0 u4 u5 u6 u7 lp n op C E lu) (hlp : lp ≤ 3) (hn : n ≤ 24) (hC : ∀ p f, 0 ≤ C p f ∧ C p f ≤ 297) (hE : ∀ p f, 0 ≤ E p f ∧ E p f ≤ 600) (h0 : op 0) (hu : LUs lp n op E lu) (hu9 : ∀ q, lu q ≤ 2000000) (P : Int) (eP : (I v0 2).toInt = P) (hP : 0 ≤ P ∧ P ≤ 999) {Q : Int64 → jZ → jI → jL → Prop}
    (hQ : ∀ (r : Int64) (Z' : jZ) (I' : jI) (L' : jL), WD Z' I' → BUD B Z' T → FR W7 Z I Z' I' → CP Z Z' → KNc lp n op C E P r → Q r Z' I' L') :
    ∀ (k p : Nat) (v2 : Int32) (Z1 : jZ) (I1 : jI) (L1 : jL) (c0 : Nat) (R : Nat → List Int), n + 2 ≤ k + p → 1 ≤ p → p ≤ n + 1 → v2.toInt = (p : Int) → WD Z1 I1 → BUD B Z1 T → FR W7 Z I Z1 I1 → CP Z Z1 → (I1 u9 3).toInt ≤ 1000 * (p : Int) → RCs Z1 u9 c0 b1 b2 b4 b5 b6 b7 → RRb I1 L1 c0 b1 b2 R → (∀ q, q < p → ROW lp op C E P 999 lu q (R q)) → f_X0_easiest_L13 B Q k bb v0 v2 Z1 I1 L1 := by
  have z0 : (0 : Int32).toInt = 0 := rfl
  have z1 : (1 : Int32).toInt = 1 := rfl
  intro k
  induction k with
  | zero => intro p v2 Z1 I1 L1 c0 R hk h1 h2; omega
  | succ k ih =>
    intro p v2 Z1 I1 L1 c0 R hk h1 h2 e2v w bd fr cp a3 hc hR hW
    have kv1 : jk Z1 v0 6 := (fr.1 v0 6 kv0).1
    have k9 : jk Z1 u9 7 := (fr.1 u9 7 ku9).1
    have hM1 := MVs_fr w_I kv0 fr hM
    have h91 : jr Z1 bb 0 = some u9 := (fr.2.1 bb 0 0 kbb (by decide) (by decide)).trans h9
    have g71 : jr Z1 v0 7 = some u7 := hM1.1.2.2.2
    unfold f_X0_easiest_L13
    refine ⟨fun c => ?_, fun c => ?_⟩
    · have c := (i_lt hM1.2.2.1 e2v).mp c
      have pn : p = n + 1 := by omega
      have hWn := hW n (by omega)
      have last := RW_last hn hC hE h0 hu hWn.1 hWn.2
      intro b hb; cases h91.symm.trans hb
      intro b hb; cases h91.symm.trans hb
      refine r_X7_sizeAt u9 (I1 v0 15) c0 b1 b2 b4 b5 b6 b7 hc n hM1.2.2.1 (by omega) R hR (fun r er => ?_)
      by_cases c9 : (R n).length = 0
      · unfold f_X7_keyAt
        have em : (r - (1 : Int32)).toInt = -1 := (i_sub er z1 (by omega) (by omega)).trans (by omega)
        refine ⟨fun _ => ?_, fun q => absurd ((i_lt em z0).mpr (by omega)) q⟩
        unfold f_X7_keyAt_b29
        exact hQ _ Z1 I1 L1 w bd fr cp (Or.inl ⟨rfl, last.1 (List.eq_nil_of_length_eq_zero c9)⟩)
      · obtain ⟨key, ek⟩ : ∃ key, (R n)[(R n).length - 1]? = some key := ⟨_, List.getElem?_eq_getElem (show (R n).length - 1 < (R n).length by omega)⟩
        have len : (R n).length ≤ 2000000 := RR_len w k9 hc hR (by omega)
        refine r_X7_keyAt w u9 (I1 v0 15) (r - (1 : Int32)) k9 c0 b1 b2 b4 b5 b6 b7 hc n ((R n).length - 1) (by omega) hM1.2.2.1 ((i_sub er z1 (by omega) (by omega)).trans (by omega)) R hR key ek (fun r34 e34 => ?_)
        obtain ⟨m, c', e, b, hx, he, hcP, ekf, hk9⟩ := last.2 key ek
        exact hQ r34 Z1 I1 L1 w bd fr cp (Or.inr ⟨m, c', e, b, hx, he, hcP, by rw [e34, ekf], hk9⟩)
    · have c := (not_congr (i_lt hM1.2.2.1 e2v)).mp c
      intro b hb; cases h91.symm.trans hb
      refine r_fk w bd v0 v2 kv1 u9 k9 bb h91 c0 b1 b2 b4 b5 b6 b7 hc u4 u5 u6 u7 lp n op C E lu hM1 hlp hn hC hE h0 hu hu9 999 P 999 rfl (by rw [fr.2.2.1 v0 6 2 kv0 (by decide) (by decide)]; exact eP) (by omega) hP p h1 (by omega) e2v R hR hW (by omega) (fun Z' I' L' c9 X w' bd' f' cp' ro' a3' hc' hR' hX hc0' hL' x ex => ?_)
      refine ih (p + 1) x Z' I' L' c9 _ (by omega) (by omega) (by omega) (by rw [ex]; exact (i_add e2v z1 (by omega) (by omega)).trans (by omega)) w' bd' (FR.trans w_I.1 w_I.2.1 fr f') (CP.trans fr.1 cp cp') (by omega) hc' hR' (fun q hq => ?_)
      show ROW lp op C E P 999 lu q (if q = p then X else R q)
      by_cases h : q = p
      · rw [if_pos h, h]
        exact hX
      · rw [if_neg h]
        exact hW q (by omega)
set_option maxHeartbeats 1000000 in
theorem r_X0_easiest {B : Nat × Nat} {T : Nat} {Z : jZ} {I : jI} {L : jL} (w_I : WD Z I) (bd : BUD B Z T) (bb v0 : Nat) (kv0 : jk Z v0 6) (kbb : jk Z bb 0) (u4 u5 u6 u7 lp n : Nat) (op : Nat → Prop) (C E : Nat → Nat → Int) (lu : Nat → Int) (hM : MVs Z I v0 u4 u5 u6 u7 lp n op C E lu) (hlp : lp ≤ 3) (hn : n ≤ 24) (hC : ∀ p f, 0 ≤ C p f ∧ C p f ≤ 297) (hE : ∀ p f, 0 ≤ E p f ∧ E p f ≤ 600) (h0 : op 0) (hu : LUs lp n op E lu) (hu9 : ∀ q, lu q ≤ 2000000) (P : Int) (eP : (I v0 2).toInt = P) (hP : 0 ≤ P ∧ P ≤ 999) {Q : Int64 → jZ → jI → jL → Prop}
    (hQ : ∀ (r : Int64) (Z' : jZ) (I' : jI) (L' : jL), WD Z' I' → BUD B Z' T → FR W7 Z I Z' I' → CP Z Z' → KNc lp n op C E P r → Q r Z' I' L') : f_X0_easiest B bb v0 Z I L Q := by
  obtain ⟨u9, h9, ku9⟩ := sh_o w_I.1 kbb (j := 0) (k := 7) rfl
  obtain ⟨b0, b1, b2, b4, b5, b6, b7, hc⟩ := rcs_at w_I ku9
  unfold f_X0_easiest
  intro b hb; cases h9.symm.trans hb
  refine r_X7_begin w_I bd u9 (0 : Int32) (16777215 : Int64) ku9 b0 b1 b2 b4 b5 b6 b7 hc 0 (by omega) rfl 16777215 rfl (fun Z5 I6 L7 c0 w5 bd5 f5 cp5 ro5 a35 hc5 hR5 hc05 hL5 => ?_)
  refine ⟨n + 2, ez_L13 (L := L) w_I bb v0 kv0 kbb u9 h9 ku9 b1 b2 b4 b5 b6 b7 u4 u5 u6 u7 lp n op C E lu hM hlp hn hC hE h0 hu hu9 P eP hP hQ (n + 2) 1 1 Z5 I6 L7 c0 _ (by omega) (by omega) (by omega) rfl w5 bd5 f5 cp5 (by omega) hc5 hR5 (fun q hq => ?_)⟩
  have q0 : q = 0 := by omega
  rw [q0]
  show ROW lp op C E P 999 lu 0 (if 0 = 0 then [16777215] else [])
  rw [if_pos rfl]
  exact ⟨RW_0 hP.1, List.pairwise_singleton _ _⟩
/-! ===== the class: knees ===== -/
def KNd (D : DAT) (a : Nat → Int32) (v1 : Int32) (r : Int) : Prop := (¬ inP D v1 ∧ r = -1) ∨ (inP D v1 ∧ KNs (dLp D v1.toInt.toNat) (dN D) (opF (dVw D v1.toInt.toNat) (dMn D) (-1)) (dCl D a (dLd D v1.toInt.toNat)) (dEl D (dLd D v1.toInt.toNat)) (dPu D v1.toInt.toNat) r)
theorem KNd_fun {D : DAT} {a : Nat → Int32} {v1 : Int32} {r r' : Int} (h : KNd D a v1 r) (h' : KNd D a v1 r') : r = r' := by
  rcases h with ⟨n, e⟩ | ⟨y, h⟩
  · rcases h' with ⟨-, e'⟩ | ⟨y', -⟩
    · exact e.trans e'.symm
    · exact absurd y' n
  · rcases h' with ⟨n, -⟩ | ⟨-, h'⟩
    · exact absurd y n
    · exact KNs_fun h h'
set_option maxHeartbeats 1000000 in
theorem r_X11_knees {B : Nat × Nat} {T : Nat} {L : jL} {Z : jZ} {I : jI} {v0 v8 u0 u1 u2 u3 u4 u41 u5 u8 uL0 uC0 uL1 uC1 uP p13 p14 : Nat} {pc rc : Nat → Nat} {D : DAT} {a : Nat → Int32} (X : CWD Z I v0 v8 u0 u1 u2 u3 u4 u41 u5 u8 uL0 uC0 uL1 uC1 uP p13 p14 pc rc D a) (bd : BUD B Z T) (v1 : Int32) {Q : Int32 → jZ → jI → jL → Prop}
    (hQ : ∀ (r : Int32) (Z' : jZ) (I' : jI) (L' : jL), KNd D a v1 r.toInt → WD Z' I' → BUD B Z' T → FR Wcm Z I Z' I' → CP Z Z' → Q r Z' I' L') : f_X11_knees B v0 v1 Z I L Q := by
  have z0 : (0 : Int32).toInt = 0 := rfl
  have w := X.w
  have d := X.dok
  have ok := X.ok
  have bad : ¬ inP D v1 → Q (-1 : Int32) Z I L := fun n => hQ _ Z I L (Or.inl ⟨n, rfl⟩) w bd FR.rf CP.rf
  unfold f_X11_knees
  refine X.find2 v1 (fun n => ⟨fun _ => bad (fun q => n q.1), fun b hb => by cases hb⟩) (fun p hp e1 => ⟨(fun q => by cases q), fun b hb' => ?_⟩)
  cases hb'
  have ep : v1.toInt.toNat = p := by omega
  intro b hb; cases X.h2.symm.trans hb
  refine ⟨fun c1 => ?_, fun c1 => bad (fun q => ?_)⟩
  · have n1 : 1 ≤ dN D := by
      have c1 := (not_congr (i_eq X.hn z0)).mp c1
      omega
    have inp : inP D v1 := ⟨by omega, n1⟩
    obtain ⟨-, -, g8, k6, -⟩ := X.pil p hp
    intro b h8; cases g8.symm.trans h8
    obtain ⟨e3p, e4p, -, -, -⟩ := X.piv p hp
    obtain ⟨l3, rl, rK, rP⟩ := d.2.2.2.2 p hp
    rw [e4p]
    refine r_X6_lay (X.sqL p hp (dLd D p) rl) X.S.2.2.2.2.2.1 (dMn D) X.mnc (I (pc p) 3) (dVw D p) (-1) (-1) e3p rfl (fun I1 L1 t4 t5 t6 t7 w1 f1 hL => ?_)
    obtain ⟨lu, hM, hu1, hu2⟩ := hL
    have X1 := X.fr w1 f1 (by decide) (by decide)
    obtain ⟨-, -, eK', eP', -⟩ := X1.piv p hp
    obtain ⟨bb, hbb, kbb⟩ := sh_o w.1 X.kv (j := 9) (k := 0) rfl
    intro b hb; cases hbb.symm.trans hb
    intro b hb; cases g8.symm.trans hb
    refine r_X0_easiest w1 bd bb (rc p) k6 kbb t4 t5 t6 t7 (dLp D p) (dN D) _ _ _ lu hM l3 d.1 (CCp_rng (PRa_rng ok)) (EEp_rng (Hn_rng (by omega) d.2.2.1) (Hn_rng (by omega) d.2.2.2.1) rl) (Or.inl rfl) hu1 hu2 (dPu D p) eP' rP (fun r Z2 I2 L2 w2 bd2 f2 cp2 hr => ?_)
    have f12 : FR Wcm Z I Z2 I2 := (f1.mono (by decide)).trans w.1 w.2.1 (f2.mono (by decide))
    rcases hr with ⟨er, hk⟩ | ⟨m, c', e, b', hx, he, hc, er, hk⟩
    · refine ⟨fun q => absurd ((lg_cmp_eq _ _).mpr er) q, fun _ => ?_⟩
      exact hQ _ Z2 I2 L2 (Or.inr ⟨inp, by rw [ep]; exact hk⟩) w2 bd2 f12 cp2
    · have g := PX_rng d.1 (dCl_rng ok) (dEl_rng d rl) hx
      have r0 : 0 ≤ r.toInt := by rw [er]; unfold kf; omega
      refine ⟨fun _ => ?_, fun q => ?_⟩
      · refine c_costIn rfl r0 (fun r2 _ => ?_)
        refine s_X11_tellOne w2 v0 _ (X1.fr w2 f2 (by decide) (by decide)).kv (fun I3 L3 w3 f3 => ?_)
        refine c_effortIn rfl r0 (fun r3 hr3 => ?_)
        refine hQ r3 Z2 I3 L3 (Or.inr ⟨inp, ?_⟩) w3 bd2 (f12.trans w.1 w.2.1 (f3.mono (by decide))) cp2
        rw [ep, hr3, er, kf_eff g.1 (by omega) (by omega)]
        exact hk
      · have e9 := (lg_cmp_eq _ _).mp q
        rw [e9] at er
        have z : (9223372036854775807 : Int64).toInt = 9223372036854775807 := by decide
        unfold kf at er
        omega
  · have c1 := (i_eq X.hn z0).mp c1
    have := q.2
    omega
/-! ===== the reference: knees ===== -/
theorem div100 {c c' : Int} {m m' : Nat} (hm : m ≤ 24) (hm' : m' ≤ 24) (h : 100 * c + (m : Int) ≤ 100 * c' + (m' : Int)) : c ≤ c' := by omega
set_option maxHeartbeats 1000000 in
theorem kn_L36 {B : Nat × Nat} {T : Nat} {Z : jZ} {I : jI} (w : WD Z I) (bd : BUD B Z T) (v0 t40 t10 : Nat) (kv : jk Z v0 12) (h40 : jr Z v0 40 = some t40) (h10 : jr Z v0 10 = some t10) (v1 : Int32) (p : Nat) (e1 : v1.toInt = (p : Int)) (hp : p < 6) (lp n : Nat) (op : Nat → Prop) (C E : Nat → Nat → Int) (P : Int) (eP : (I t10 p).toInt = P) (hP : 0 ≤ P) (hn : n ≤ 24) (hC : ∀ p f, 0 ≤ C p f ∧ C p f ≤ 297) (hE : ∀ p f, 0 ≤ E p f ∧ E p f ≤ 600) (hT : ∀ e : Nat, e ≤ 999 → BSs lp n op C E 0 (e : Int) (I t40 e).toInt) {Q : Int32 → jZ → jI → jL → Prop}
    (hQ : ∀ (r : Int32) (I' : jI) (L' : jL), KNs lp n op C E P r.toInt → WD Z I' → FR [(12, 21)] Z I Z I' → Q r Z I' L') :
    ∀ (k e : Nat) (v2 : Int32) (L : jL), 1001 ≤ k + e → e ≤ 1000 → v2.toInt = (e : Int) → (∀ e' : Nat, e' < e → ∀ m c b, PX lp op C E m 0 n c (e' : Int) b → ¬ c ≤ P) → f_X12_knees_L36 B Q k v0 v1 v2 Z I L := by
  have z1 : (1 : Int32).toInt = 1 := rfl
  have zh : (100 : Int32).toInt = 100 := rfl
  have z9 : (999 : Int32).toInt = 999 := rfl
  have zF : (1000000000 : Int32).toInt = 1000000000 := rfl
  have q1 : v1.toNatClampNeg = p := by have := i_nat e1 (by omega); omega
  have vi1 : vp_in v1 6 := vi_of e1 (by omega) (by omega)
  intro k
  induction k with
  | zero => intro e v2 L hk hi; omega
  | succ k ih =>
    intro e v2 L hk hi e2 hN
    have nx : ∀ y : Int32, y = v2 + 1 → y.toInt = ((e + 1 : Nat) : Int) := fun y ey => by rw [ey]; exact (i_add e2 z1 (by omega) (by omega)).trans (by omega)
    unfold f_X12_knees_L36
    refine ⟨fun c => ?_, fun c => ?_⟩
    · have c := (i_lt z9 e2).mp c
      refine hQ (-2) I L (Or.inl ⟨by decide, fun m c' e' b hf => ?_⟩) w FR.rf
      have g := PX_rng hn hC hE hf.1
      have h9 := hf.2.1
      have hx := hf.1
      rw [show e' = ((e'.toNat : Nat) : Int) by omega] at hx
      exact hN e'.toNat (by omega) m c' b hx hf.2.2
    · have c := (not_congr (i_lt z9 e2)).mp c
      have n2 : v2.toNatClampNeg = e := by have := i_nat e2 (by omega); omega
      have vi : vp_in v2 25000 := vi_of e2 (by omega) (by omega)
      have hb := hT e (by omega)
      intro b h; cases h40.symm.trans h
      rw [n2]
      have next : (∀ m c b, PX lp op C E m 0 n c (e : Int) b → ¬ c ≤ P) → f_X12_knees_b97 B (f_X12_knees_L36 B Q k) Q v0 v1 v2 Z I L := fun hno => by
        unfold f_X12_knees_b97
        intro x ex
        refine ih (e + 1) x L (by omega) (by omega) (nx x ex) (fun e' he' => ?_)
        by_cases c9 : e' = e
        · rw [c9]; exact hno
        · exact hN e' (by omega)
      refine ⟨vi, fun c2 => next ?_, fun c2 => ?_⟩
      · have c2 := (i_eq rfl zF).mp c2
        rcases hb with ⟨-, h⟩ | ⟨h, -⟩
        · exact fun m c' b hx _ => h m c' b hx
        · exact absurd c2 h
      · have c2 := (not_congr (i_eq rfl zF)).mp c2
        rcases hb with ⟨h, -⟩ | ⟨-, ⟨m, c', b, hx, ev⟩, hmin⟩
        · exact absurd h c2
        have g := PX_rng hn hC hE hx
        have td : ((I t40 e) / (100 : Int32)).toInt = c' := (i_div rfl zh (by omega) (by omega)).trans (by omega)
        intro b2 h; cases h40.symm.trans h
        refine ⟨vi, ?_⟩
        intro b3 h; cases h10.symm.trans h
        rw [q1]
        refine ⟨vi1, fun c3 => ?_, fun c3 => next (fun m2 c2' b2' hx2 hle => ?_)⟩
        · have c3 := (i_le td eP).mp c3
          intro I3 e3
          have w3 : WD Z I3 := by rw [e3]; exact WD_putF w 12 21 kv (by decide) (by decide) (by first | exact trivial | (constructor <;> decide))
          have f3 : FR [(12, 21)] Z I Z I3 := by rw [e3]; exact FR_putF kv (by decide) List.mem_cons_self
          have e21 : (I3 v0 21).toInt = 0 := by rw [e3, jpI_at]; rfl
          intro b4 h; cases h40.symm.trans h
          refine ⟨vi, s_X12_tell w3 v0 _ kv (by omega) (fun I4 L4 w4 f4 _ => ?_)⟩
          refine hQ v2 I4 L4 (Or.inr ⟨m, c', b, ⟨by rw [e2]; exact hx, by omega, c3⟩, fun m' c'' e' b' hf => ?_⟩) w4 (f3.trans w.1 w.2.1 (f4.mono (by decide)))
          have g' := PX_rng hn hC hE hf.1
          refine Int.not_lt.mp (fun q => ?_)
          have hx' := hf.1
          rw [show e' = ((e'.toNat : Nat) : Int) by omega] at hx'
          exact hN e'.toNat (by omega) m' c'' b' hx' hf.2.2
        · have c3 := (not_congr (i_le td eP)).mp c3
          have g2 := PX_rng hn hC hE hx2
          have l := hmin m2 c2' b2' hx2
          have := div100 (c := c') (c' := c2') g.1 g2.1 (by omega)
          omega
set_option maxHeartbeats 4000000 in
theorem r_X12_knees {B : Nat × Nat} {T : Nat} {L : jL} {Z : jZ} {I : jI} {v0 t1 t2 t3 t4 t5 t6 t9 t10 t11 t12 t13 t29 t30 uX0 uX1 : Nat} {s0 s1 : Int} {D : DAT} {a : Nat → Int32} (X : RFM Z I v0 t1 t2 t3 t4 t5 t6 t9 t10 t11 t12 t13 t29 t30 uX0 uX1 s0 s1 D a) (ok : aOK a) (bd : BUD B Z T) (v1 : Int32) {Q : Int32 → jZ → jI → jL → Prop}
    (hQ : ∀ (r : Int32) (Z' : jZ) (I' : jI) (L' : jL), KNd D a v1 r.toInt → WD Z' I' → BUD B Z' T → FR Ws_X12_knees Z I Z' I' → CP Z Z' → Q r Z' I' L') : f_X12_knees B v0 v1 Z I L Q := by
  have z0 : (0 : Int32).toInt = 0 := rfl
  have w := X.w
  have kv := X.S.1
  have d := X.dok
  unfold f_X12_knees
  intro I1 e1
  have w1 : WD Z I1 := by rw [e1]; exact WD_putF w 12 22 kv (by decide) (by decide) trivial
  have f1 : FR [(12, 22)] Z I Z I1 := by rw [e1]; exact FR_putF kv (by decide) List.mem_cons_self
  have X1 := X.fr w1 f1 (by decide) (by decide)
  have hp8 := X1.hp
  have p6 := d.2.1
  have bad : ¬ inP D v1 → Q (-1 : Int32) Z I1 L := fun n => hQ _ Z I1 L (Or.inl ⟨n, rfl⟩) w1 bd (f1.mono (by decide)) CP.rf
  refine s_X12_isOne w1 v0 v1 kv (fun r hr => ⟨fun c => bad (fun q => ?_), fun c => ⟨fun c1 => ?_, fun c1 => bad (fun q => ?_)⟩⟩)
  · have c := (i_eq rfl z0).mp c
    have := q.1
    omega
  · have c := (not_congr (i_eq rfl z0)).mp c
    have c1 := (not_congr (i_eq X1.hn z0)).mp c1
    obtain ⟨p, ev⟩ : ∃ p : Nat, v1.toInt = (p : Int) := ⟨v1.toInt.toNat, by omega⟩
    have hp : p < dP D := by omega
    have ep : v1.toInt.toNat = p := by omega
    have inp : inP D v1 := ⟨by omega, by omega⟩
    obtain ⟨l3, rl, rK, rP⟩ := d.2.2.2.2 p hp
    obtain ⟨t37, h37, k37, -⟩ := sh_f w1.1 kv (j := 37) (k := 14) (m := 75) rfl
    obtain ⟨t38, h38, k38, -⟩ := sh_f w1.1 kv (j := 38) (k := 14) (m := 75) rfl
    have S := X1.smd (B := B) (T := T) ok p hp t37 t38 h37 h38
    refine and_X12_layMoves (s_X12_layMoves w1 bd v0 v1 kv t37 h37 t38 h38 (by omega) (Q := fun Z' I' L' => MVB (3 * ((I' v0 0).toInt + 1)) (I' v0 0).toInt (I' t37) (I' t38)) (fun Z' I' L' _ _ _ _ h => h)) (r_X12_layMoves S bd v1 ev (Q := fun Z' I' L' => WD Z' I' ∧ BUD B Z' T ∧ FR Wm Z I1 Z' I' ∧ CP Z Z' ∧ MVm Z' I' v0 t37 t38 (dLp D p) (dN D) (opF (dVw D p) (dMn D) (-1)) (dCl D a (dLd D p)) (dEl D (dLd D p))) (fun Z' I' L' a b c e h => ⟨a, b, c, e, h⟩)) (fun Z2 I2 L2 hmv h2 => ?_)
    obtain ⟨w2, bd2, f2, cp2, hM⟩ := h2
    have kv2 := (f2.1 _ _ kv).1
    obtain ⟨t40, h40, k40, -⟩ := sh_f w2.1 kv2 (j := 40) (k := 14) (m := 25000) rfl
    have h37' := hM.1.1
    have h38' := hM.1.2
    have n37 := m12_ne w2 kv2 h40 h37' (by decide) (by decide) (by decide)
    have n38 := m12_ne w2 kv2 h40 h38' (by decide) (by decide) (by decide)
    have nv : t40 ≠ v0 := (ks_ne kv2 k40 (by decide)).symm
    refine and_X12_findByEffort (s_X12_findByEffort w2 v0 999 kv2 t37 h37' t38 h38' t40 h40 hmv (by decide) (Q := fun I' L' => WD Z2 I' ∧ FR Ws_X12_findByEffort Z2 I2 Z2 I') (fun I' L' a b _ => ⟨a, b⟩)) (r_X12_findByEffort w2 v0 kv2 t37 t38 t40 (dLp D p) (dN D) (opF (dVw D p) (dMn D) (-1)) (dCl D a (dLd D p)) (dEl D (dLd D p)) hM h40 ⟨nv, n37, n38⟩ l3 d.1 (dCl_rng ok) (dEl_rng d rl) 999 (by omega) 999 rfl (Q := fun I' L' => ∀ q e : Nat, q ≤ dN D → e ≤ 999 → BSs (dLp D p) (dN D) (opF (dVw D p) (dMn D) (-1)) (dCl D a (dLd D p)) (dEl D (dLd D p)) q (e : Int) (I' t40 (1000 * q + e)).toInt) (fun I' _ h _ => h)) (fun I3 L3 h3 hT => ?_)
    obtain ⟨w3, f3⟩ := h3
    have f03 : FR Ws_X12_knees Z I Z2 I3 := ((f1.mono (by decide)).trans w.1 w.2.1 (f2.mono (by decide))).trans w.1 w.2.1 (f3.mono (by decide))
    obtain ⟨x, ex, k10, -⟩ := sh_f w1.1 kv (j := 10) (k := 14) (m := 6) rfl
    cases X1.h10.symm.trans ex
    have f13 : FR (Wm ++ Ws_X12_findByEffort) Z I1 Z2 I3 := (f2.mono (fun q hq => List.mem_append_left _ hq)).trans w1.1 w1.2.1 (f3.mono (fun q hq => List.mem_append_right _ hq))
    have a10 : I3 t10 = I1 t10 := f13.2.2.2 v0 12 10 t10 kv X1.h10 (by rw [k10.2]; rfl) rfl (by decide)
    refine ⟨1001, kn_L36 w3 bd2 v0 t40 t10 kv2 h40 ((f2.2.1 v0 12 10 kv (by decide) (by decide)).trans X1.h10) v1 p ev (by omega) (dLp D p) (dN D) (opF (dVw D p) (dMn D) (-1)) (dCl D a (dLd D p)) (dEl D (dLd D p)) (dPu D p) (by rw [a10]; exact (X1.pil p hp).2.1) rP.1 d.1 (dCl_rng ok) (dEl_rng d rl) (fun e he => ?_) (fun r5 I5 L5 hk w5 f5 => ?_) 1001 0 0 L3 (by omega) (by omega) rfl (fun e' he' => absurd he' (Nat.not_lt_zero e'))⟩
    · have h := hT 0 e (by omega) he
      rw [show 1000 * 0 + e = e by omega] at h
      exact h
    · exact hQ r5 Z2 I5 L5 (Or.inr ⟨inp, by rw [ep]; exact hk⟩) w5 bd2 (f03.trans w.1 w.2.1 (f5.mono (by decide))) cp2
  · have c1 := (i_eq X1.hn z0).mp c1
    have := q.2
    omega
/-! ===== a number of each pilgrim, compared one by one ===== -/
theorem PRr_pt {W : List (Nat × Nat)} {j : Nat} {Z Z' : jZ} {I I' : jI} {v1 uA uM : Nat} (f : FR W Z I Z' I') (k1 : jk Z v1 11) (kA : jk Z uA 18) (eM : ∀ i : Nat, (i : Int) < (I v1 4).toInt → I' uM i = I uM i) (n0 : (11, 4) ∉ W) (n1 : (5, j) ∉ W) (h : PRr j Z I v1 uA uM) : PRr j Z' I' v1 uA uM := by
  intro i hi
  rw [f.2.2.1 v1 11 4 k1 (by decide) n0] at hi
  obtain ⟨p, hp, kp, e⟩ := h i hi
  refine ⟨p, (f.2.1 uA 18 i kA (by omega) (by omega)).trans hp, (f.1 _ _ kp).1, ?_⟩
  rw [f.2.2.1 p 5 j kp (by decide) n1, eM i hi]
  exact e
theorem PB_load2 {W : List (Nat × Nat)} {Z Z' : jZ} {I I' : jI} {v1 uF v2 uA t9 t10 t11 t12 : Nat} (f : FR W Z I Z' I') (k1 : jk Z v1 11) (kA : jk Z uA 18) (k2 : jk Z v2 12) (hW : ∀ p ∈ ([(11, 4), (5, 0), (5, 1), (5, 2), (5, 3), (6, 1), (6, 2), (6, 3), (12, 9), (12, 10), (12, 11)] : List (Nat × Nat)), p ∉ W) (e12 : ∀ i : Nat, (i : Int) < (I v1 4).toInt → I' t12 i = I t12 i) (h : PB Z I v1 uF v2 uA t9 t10 t11 t12) : PB Z' I' v1 uF v2 uA t9 t10 t11 t12 := by
  obtain ⟨⟨h1, g1, h2, g2, h3, g3, h4, g4⟩, p0, p1, p2, p3, r⟩ := h
  have rf : ∀ (j b : Nat), jr Z v2 j = some b → j ≠ 23 → jr Z' v2 j = some b := fun j b e hj => (f.2.1 v2 12 j k2 (fun q => absurd q.1 (by decide)) (fun q => hj q.2)).trans e
  have ar : ∀ (j b : Nat), jr Z v2 j = some b → jk Z b 14 → jsr 12 j = false → (12, j) ∉ W → I' b = I b := fun j b e kb hs hw => f.2.2.2 v2 12 j b k2 e (by rw [kb.2]; rfl) hs hw
  exact ⟨⟨rf 9 _ h1 (by decide), (f.1 _ _ g1).1, rf 10 _ h2 (by decide), (f.1 _ _ g2).1, rf 11 _ h3 (by decide), (f.1 _ _ g3).1, rf 12 _ h4 (by decide), (f.1 _ _ g4).1⟩, PRr_fr f k1 kA (ar 9 _ h1 g1 rfl (hW _ (by decide))) (hW _ (by decide)) (hW _ (by decide)) p0, PRr_fr f k1 kA (ar 10 _ h2 g2 rfl (hW _ (by decide))) (hW _ (by decide)) (hW _ (by decide)) p1, PRr_fr f k1 kA (ar 11 _ h3 g3 rfl (hW _ (by decide))) (hW _ (by decide)) (hW _ (by decide)) p2, PRr_pt f k1 kA e12 (hW _ (by decide)) (hW _ (by decide)) p3, RTI_fr f k1 kA (hW _ (by decide)) (hW _ (by decide)) (hW _ (by decide)) (hW _ (by decide)) (hW _ (by decide)) (hW _ (by decide)) (hW _ (by decide)) r⟩
/-! ===== shut, climb, bears, breaks, knees: the class and the reference ===== -/
/-- shut: the class's call, and what it promises of the reference's -/
theorem SAM_shut1 {B : Nat × Nat} {T : Nat} {L : jL} {Z : jZ} {I : jI} {v1 v2 uF uR uX uA uW uP x0 x1 u5c uFe uT uL0 uC0 uL1 uC1 uV p13 p14 : Nat} {vR vX vA vW v5 t6 t9 t10 t11 t12 t13 t29 t30 q0 q1 : Nat} (X : SAM Z I v1 v2 uF uR uX uA uW uP x0 x1 u5c uFe uT uL0 uC0 uL1 uC1 uV p13 p14 vR vX vA vW v5 t6 t9 t10 t11 t12 t13 t29 t30 q0 q1) (bd : BUD B Z T) (a : Int32) {Q : Int32 → jZ → jI → jL → Prop}
    (hQ : ∀ (r1 : Int32) (Z1 : jZ) (I1 : jI) (L1 : jL), WD Z1 I1 → BUD B Z1 T → FR Wwh Z I Z1 I1 → CP Z Z1 → (∀ (L : jL) (Q2 : Int32 → jZ → jI → jL → Prop), (∀ (r2 : Int32) (Z2 : jZ) (I2 : jI) (L2 : jL), r1.toInt = r2.toInt → WD Z2 I2 → BUD B Z2 T → FR Ws_X12_shut Z1 I1 Z2 I2 → CP Z1 Z2 → ((I2 v2 39).toInt = -1) → Q2 r2 Z2 I2 L2) → f_X12_shut B v2 a Z1 I1 L Q2) → Q r1 Z1 I1 L1) : f_X11_shut B v1 a Z I L Q := by
  have d := X.rfm.dok
  have ok := X.ok
  refine r_X11_shut X.cwd bd a (fun r1 Z1 I1 L1 hm w1 bd1 f1 cp1 => hQ r1 Z1 I1 L1 w1 bd1 f1 cp1 (fun L Q2 h2 => ?_))
  have Y1 := X.rfm.fr w1 f1 (by decide) (by decide)
  refine r_X12_shut Y1 ok bd1 a (fun r2 Z2 I2 L2 hm2 Y2 bd2 f2 cp2 => h2 r2 Z2 I2 L2 (SHd_fun d ok hm hm2) Y2.w bd2 f2 cp2 (Y2.sh))
/-- climb: the class's call, and what it promises of the reference's -/
theorem SAM_climb1 {B : Nat × Nat} {T : Nat} {L : jL} {Z : jZ} {I : jI} {v1 v2 uF uR uX uA uW uP x0 x1 u5c uFe uT uL0 uC0 uL1 uC1 uV p13 p14 : Nat} {vR vX vA vW v5 t6 t9 t10 t11 t12 t13 t29 t30 q0 q1 : Nat} (X : SAM Z I v1 v2 uF uR uX uA uW uP x0 x1 u5c uFe uT uL0 uC0 uL1 uC1 uV p13 p14 vR vX vA vW v5 t6 t9 t10 t11 t12 t13 t29 t30 q0 q1) (bd : BUD B Z T) (a : Int32) {Q : Int32 → jZ → jI → jL → Prop}
    (hQ : ∀ (r1 : Int32) (Z1 : jZ) (I1 : jI) (L1 : jL), WD Z1 I1 → BUD B Z1 T → FR Wcm Z I Z1 I1 → CP Z Z1 → (∀ (L : jL) (Q2 : Int32 → jZ → jI → jL → Prop), (∀ (r2 : Int32) (Z2 : jZ) (I2 : jI) (L2 : jL), r1.toInt = r2.toInt → WD Z2 I2 → BUD B Z2 T → FR Ws_X12_climb Z1 I1 Z2 I2 → CP Z1 Z2 → Q2 r2 Z2 I2 L2) → f_X12_climb B v2 a Z1 I1 L Q2) → Q r1 Z1 I1 L1) : f_X11_climb B v1 a Z I L Q := by
  have d := X.rfm.dok
  have ok := X.ok
  refine r_X11_climb X.cwd bd a (fun r1 Z1 I1 L1 hm w1 bd1 f1 cp1 => hQ r1 Z1 I1 L1 w1 bd1 f1 cp1 (fun L Q2 h2 => ?_))
  have Y1 := X.rfm.fr w1 f1 (by decide) (by decide)
  refine r_X12_climb Y1 ok bd1 a (fun r2 Z2 I2 L2 hm2 w2 bd2 f2 cp2 => h2 r2 Z2 I2 L2 (CMd_fun d ok hm hm2) w2 bd2 f2 cp2)
/-- bears: the class's call, and what it promises of the reference's -/
theorem SAM_bears1 {B : Nat × Nat} {T : Nat} {L : jL} {Z : jZ} {I : jI} {v1 v2 uF uR uX uA uW uP x0 x1 u5c uFe uT uL0 uC0 uL1 uC1 uV p13 p14 : Nat} {vR vX vA vW v5 t6 t9 t10 t11 t12 t13 t29 t30 q0 q1 : Nat} (X : SAM Z I v1 v2 uF uR uX uA uW uP x0 x1 u5c uFe uT uL0 uC0 uL1 uC1 uV p13 p14 vR vX vA vW v5 t6 t9 t10 t11 t12 t13 t29 t30 q0 q1) (bd : BUD B Z T) (a : Int32) {Q : Int32 → jZ → jI → jL → Prop}
    (hQ : ∀ (r1 : Int32) (Z1 : jZ) (I1 : jI) (L1 : jL), WD Z1 I1 → BUD B Z1 T → FR Wcm Z I Z1 I1 → CP Z Z1 → (∀ (L : jL) (Q2 : Int32 → jZ → jI → jL → Prop), (∀ (r2 : Int32) (Z2 : jZ) (I2 : jI) (L2 : jL), r1.toInt = r2.toInt → WD Z2 I2 → BUD B Z2 T → FR Ws_X12_bears Z1 I1 Z2 I2 → CP Z1 Z2 → (∀ i : Nat, (i : Int) < (I1 v1 4).toInt → I2 t12 i = I1 t12 i) → Q2 r2 Z2 I2 L2) → f_X12_bears B v2 a Z1 I1 L Q2) → Q r1 Z1 I1 L1) : f_X11_bears B v1 a Z I L Q := by
  have d := X.rfm.dok
  have ok := X.ok
  refine r_X11_bears X.cwd bd a (fun r1 Z1 I1 L1 hm w1 bd1 f1 cp1 => hQ r1 Z1 I1 L1 w1 bd1 f1 cp1 (fun L Q2 h2 => ?_))
  have Y1 := X.rfm.fr w1 f1 (by decide) (by decide)
  refine r_X12_bears Y1 ok bd1 a (fun r2 Z2 I2 L2 hm2 Y2 bd2 f2 cp2 => h2 r2 Z2 I2 L2 (BRd_fun hm hm2) Y2.w bd2 f2 cp2 (fun i hi => by
    rw [f1.2.2.1 v1 11 4 X.k1 (by decide) (by decide), X.np, X.rfm.hp] at hi
    exact (i_eq rfl rfl).mpr ((Y2.pil i (by omega)).2.2.2.1.trans (Y1.pil i (by omega)).2.2.2.1.symm)))
/-- breaks: the class's call, and what it promises of the reference's -/
theorem SAM_breaks1 {B : Nat × Nat} {T : Nat} {L : jL} {Z : jZ} {I : jI} {v1 v2 uF uR uX uA uW uP x0 x1 u5c uFe uT uL0 uC0 uL1 uC1 uV p13 p14 : Nat} {vR vX vA vW v5 t6 t9 t10 t11 t12 t13 t29 t30 q0 q1 : Nat} (X : SAM Z I v1 v2 uF uR uX uA uW uP x0 x1 u5c uFe uT uL0 uC0 uL1 uC1 uV p13 p14 vR vX vA vW v5 t6 t9 t10 t11 t12 t13 t29 t30 q0 q1) (bd : BUD B Z T) (a : Int32) {Q : Int32 → jZ → jI → jL → Prop}
    (hQ : ∀ (r1 : Int32) (Z1 : jZ) (I1 : jI) (L1 : jL), WD Z1 I1 → BUD B Z1 T → FR Wcm Z I Z1 I1 → CP Z Z1 → (∀ (L : jL) (Q2 : Int32 → jZ → jI → jL → Prop), (∀ (r2 : Int32) (Z2 : jZ) (I2 : jI) (L2 : jL), r1.toInt = r2.toInt → WD Z2 I2 → BUD B Z2 T → FR Ws_X12_breaks Z1 I1 Z2 I2 → CP Z1 Z2 → (∀ i : Nat, (i : Int) < (I1 v1 4).toInt → I2 t13 i = I1 t13 i) → Q2 r2 Z2 I2 L2) → f_X12_breaks B v2 a Z1 I1 L Q2) → Q r1 Z1 I1 L1) : f_X11_breaks B v1 a Z I L Q := by
  have d := X.rfm.dok
  have ok := X.ok
  refine r_X11_breaks X.cwd bd a (fun r1 Z1 I1 L1 hm w1 bd1 f1 cp1 => hQ r1 Z1 I1 L1 w1 bd1 f1 cp1 (fun L Q2 h2 => ?_))
  have Y1 := X.rfm.fr w1 f1 (by decide) (by decide)
  refine r_X12_breaks Y1 ok bd1 a (fun r2 Z2 I2 L2 hm2 Y2 bd2 f2 cp2 => h2 r2 Z2 I2 L2 (BKd_fun d ok hm hm2) Y2.w bd2 f2 cp2 (fun i hi => by
    rw [f1.2.2.1 v1 11 4 X.k1 (by decide) (by decide), X.np, X.rfm.hp] at hi
    exact (Y2.pil i (by omega)).2.2.2.2.trans (Y1.pil i (by omega)).2.2.2.2.symm))
/-- knees: the class's call, and what it promises of the reference's -/
theorem SAM_knees1 {B : Nat × Nat} {T : Nat} {L : jL} {Z : jZ} {I : jI} {v1 v2 uF uR uX uA uW uP x0 x1 u5c uFe uT uL0 uC0 uL1 uC1 uV p13 p14 : Nat} {vR vX vA vW v5 t6 t9 t10 t11 t12 t13 t29 t30 q0 q1 : Nat} (X : SAM Z I v1 v2 uF uR uX uA uW uP x0 x1 u5c uFe uT uL0 uC0 uL1 uC1 uV p13 p14 vR vX vA vW v5 t6 t9 t10 t11 t12 t13 t29 t30 q0 q1) (bd : BUD B Z T) (a : Int32) {Q : Int32 → jZ → jI → jL → Prop}
    (hQ : ∀ (r1 : Int32) (Z1 : jZ) (I1 : jI) (L1 : jL), WD Z1 I1 → BUD B Z1 T → FR Wcm Z I Z1 I1 → CP Z Z1 → (∀ (L : jL) (Q2 : Int32 → jZ → jI → jL → Prop), (∀ (r2 : Int32) (Z2 : jZ) (I2 : jI) (L2 : jL), r1.toInt = r2.toInt → WD Z2 I2 → BUD B Z2 T → FR Ws_X12_knees Z1 I1 Z2 I2 → CP Z1 Z2 → Q2 r2 Z2 I2 L2) → f_X12_knees B v2 a Z1 I1 L Q2) → Q r1 Z1 I1 L1) : f_X11_knees B v1 a Z I L Q := by
  have d := X.rfm.dok
  have ok := X.ok
  refine r_X11_knees X.cwd bd a (fun r1 Z1 I1 L1 hm w1 bd1 f1 cp1 => hQ r1 Z1 I1 L1 w1 bd1 f1 cp1 (fun L Q2 h2 => ?_))
  have Y1 := X.rfm.fr w1 f1 (by decide) (by decide)
  refine r_X12_knees Y1 ok bd1 a (fun r2 Z2 I2 L2 hm2 w2 bd2 f2 cp2 => h2 r2 Z2 I2 L2 (KNd_fun hm hm2) w2 bd2 f2 cp2)
