/-! ===== where PILGRIMS are: costs, tread, rests, returns ===== -/
def inQ (D : DAT) (v1 : Int32) : Prop := 0 ≤ v1.toInt ∧ v1.toInt < (dP D : Int)
def stp (D : DAT) (v2 : Int32) : Prop := 0 ≤ v2.toInt ∧ v2.toInt < (dN D : Int)
/-- from place `at` to step v is a move of pilgrim p -/
def MOV (D : DAT) (wa : Nat → Int32) (p : Nat) (v : Int32) : Prop := (wa p).toInt < v.toInt ∧ v.toInt - (wa p).toInt ≤ (dLp D p : Int)
def AOK (D : DAT) (wa : Nat → Int32) : Prop := ∀ p, p < dP D → -1 ≤ (wa p).toInt ∧ (wa p).toInt < (dN D : Int)
def COd (D : DAT) (a wa : Nat → Int32) (v1 v2 : Int32) (r : Int) : Prop := (¬ (inQ D v1 ∧ stp D v2) ∧ r = -1) ∨ ((inQ D v1 ∧ stp D v2) ∧ ((¬ MOV D wa v1.toInt.toNat v2 ∧ r = -2) ∨ (MOV D wa v1.toInt.toNat v2 ∧ r = CST (PRa D a) (wa v1.toInt.toNat).toInt v2.toInt (dLd D v1.toInt.toNat))))
theorem COd_fun {D : DAT} {a wa : Nat → Int32} {v1 v2 : Int32} {r r' : Int} (h : COd D a wa v1 v2 r) (h' : COd D a wa v1 v2 r') : r = r' := by
  rcases h with ⟨n, e⟩ | ⟨y, ⟨n, e⟩ | ⟨m, e⟩⟩
  · rcases h' with ⟨n', e'⟩ | ⟨y', -⟩
    · exact e.trans e'.symm
    · exact absurd y' n
  · rcases h' with ⟨n', e'⟩ | ⟨y', ⟨n', e'⟩ | ⟨m', e'⟩⟩
    · exact absurd y n'
    · exact e.trans e'.symm
    · exact absurd m' n
  · rcases h' with ⟨n', e'⟩ | ⟨y', ⟨n', e'⟩ | ⟨m', e'⟩⟩
    · exact absurd y n'
    · exact absurd m n'
    · exact e.trans e'.symm
def updF (f : Nat → Int32) (p : Nat) (x : Int32) : Nat → Int32 := fun i => if i = p then x else f i
theorem updF_at {f : Nat → Int32} {p : Nat} {x : Int32} : updF f p x p = x := if_pos rfl
theorem updF_off {f : Nat → Int32} {p i : Nat} {x : Int32} (h : i ≠ p) : updF f p x i = f i := if_neg h
/-- a VOW keeps pilgrim p from step s -/
def VOWd (D : DAT) (p s : Nat) : Prop := ¬ ((dVw D p >>> (dMn D s &&& 31)) &&& (1 : Int32)) = 0
def TRd (D : DAT) (a : Nat → Int32) (P : (Nat → Int32) × (Nat → Int32) × (Nat → Int32)) (v1 v2 : Int32) (r : Int) (P' : (Nat → Int32) × (Nat → Int32) × (Nat → Int32)) : Prop :=
  (¬ (inQ D v1 ∧ stp D v2) ∧ r = -1 ∧ P' = P) ∨ ((inQ D v1 ∧ stp D v2) ∧ ((¬ MOV D P.1 v1.toInt.toNat v2 ∧ r = -2 ∧ P' = P) ∨ (MOV D P.1 v1.toInt.toNat v2 ∧ ((VOWd D v1.toInt.toNat v2.toInt.toNat ∧ r = -3 ∧ P' = P) ∨ (¬ VOWd D v1.toInt.toNat v2.toInt.toNat ∧ ∃ e c : Int32, e.toInt = EFT (Hn (dR D) (dN D)) (Hn (dS D) (dN D)) (P.1 v1.toInt.toNat).toInt v2.toInt (dLd D v1.toInt.toNat) ∧ c.toInt = CST (PRa D a) (P.1 v1.toInt.toNat).toInt v2.toInt (dLd D v1.toInt.toNat) ∧ ((¬ e.toInt ≤ (P.2.1 v1.toInt.toNat).toInt ∧ r = -4 ∧ P' = P) ∨ (e.toInt ≤ (P.2.1 v1.toInt.toNat).toInt ∧ ((¬ c.toInt ≤ (P.2.2 v1.toInt.toNat).toInt ∧ r = -5 ∧ P' = P) ∨ (c.toInt ≤ (P.2.2 v1.toInt.toNat).toInt ∧ r = c.toInt ∧ P' = (updF P.1 v1.toInt.toNat v2, updF P.2.1 v1.toInt.toNat (P.2.1 v1.toInt.toNat - e), updF P.2.2 v1.toInt.toNat (P.2.2 v1.toInt.toNat - c)))))))))))
theorem TRd_fun {D : DAT} {a : Nat → Int32} {P P1 P2 : (Nat → Int32) × (Nat → Int32) × (Nat → Int32)} {v1 v2 : Int32} {r r' : Int} (h : TRd D a P v1 v2 r P1) (h' : TRd D a P v1 v2 r' P2) : r = r' ∧ P1 = P2 := by
  rcases h with ⟨n, e, s⟩ | ⟨y, ⟨n, e, s⟩ | ⟨m, ⟨vw, e, s⟩ | ⟨nv, ee, c, he, hc, ⟨l, e, s⟩ | ⟨l, ⟨l2, e, s⟩ | ⟨l2, e, s⟩⟩⟩⟩⟩
  · rcases h' with ⟨n', e', s'⟩ | ⟨y', -⟩
    · exact ⟨e.trans e'.symm, s.trans s'.symm⟩
    · exact absurd y' n
  · rcases h' with ⟨n', -, -⟩ | ⟨-, ⟨n', e', s'⟩ | ⟨m', -⟩⟩
    · exact absurd y n'
    · exact ⟨e.trans e'.symm, s.trans s'.symm⟩
    · exact absurd m' n
  · rcases h' with ⟨n', -, -⟩ | ⟨-, ⟨n', -, -⟩ | ⟨m', ⟨vw', e', s'⟩ | ⟨nv', -⟩⟩⟩
    · exact absurd y n'
    · exact absurd m n'
    · exact ⟨e.trans e'.symm, s.trans s'.symm⟩
    · exact absurd vw nv'
  all_goals
    rcases h' with ⟨n', -, -⟩ | ⟨-, ⟨n', -, -⟩ | ⟨m', ⟨vw', -, -⟩ | ⟨nv', ee', c', he', hc', h'⟩⟩⟩
    · exact absurd y n'
    · exact absurd m n'
    · exact absurd vw' nv
    · have e9 : ee = ee' := (i_eq rfl rfl).mpr (he.trans he'.symm)
      have c9 : c = c' := (i_eq rfl rfl).mpr (hc.trans hc'.symm)
      subst e9
      subst c9
      rcases h' with ⟨k, e', s'⟩ | ⟨k, ⟨k2, e', s'⟩ | ⟨k2, e', s'⟩⟩
      all_goals first | exact ⟨e.trans e'.symm, s.trans s'.symm⟩ | exact absurd k l | exact absurd l k | exact absurd k2 l2 | exact absurd l2 k2
def REd (D : DAT) (kt : Nat → Int32) (P : (Nat → Int32) × (Nat → Int32) × (Nat → Int32)) (v1 : Int32) (r : Int) (P' : (Nat → Int32) × (Nat → Int32) × (Nat → Int32)) : Prop := (¬ inQ D v1 ∧ r = -1 ∧ P' = P) ∨ (inQ D v1 ∧ r = (P.1 v1.toInt.toNat).toInt ∧ P' = (updF P.1 v1.toInt.toNat (-1), updF P.2.1 v1.toInt.toNat (kt v1.toInt.toNat), P.2.2))
theorem REd_fun {D : DAT} {kt : Nat → Int32} {P P1 P2 : (Nat → Int32) × (Nat → Int32) × (Nat → Int32)} {v1 : Int32} {r r' : Int} (h : REd D kt P v1 r P1) (h' : REd D kt P v1 r' P2) : r = r' ∧ P1 = P2 := by
  rcases h with ⟨n, e, s⟩ | ⟨y, e, s⟩
  · rcases h' with ⟨n', e', s'⟩ | ⟨y', -, -⟩
    · exact ⟨e.trans e'.symm, s.trans s'.symm⟩
    · exact absurd y' n
  · rcases h' with ⟨n', -, -⟩ | ⟨-, e', s'⟩
    · exact absurd y n'
    · exact ⟨e.trans e'.symm, s.trans s'.symm⟩
/-- what is paid for a rest at place x -/
def pyR (D : DAT) (a : Nat → Int32) (p : Nat) (x : Int32) : Int := if x.toInt = -1 then 0 else PRa D a 0 x.toInt x.toInt 0 (dLd D p)
def RSQd (D : DAT) (a kt : Nat → Int32) (P : (Nat → Int32) × (Nat → Int32) × (Nat → Int32)) (v1 v2 : Int32) (r : Int) (P' : (Nat → Int32) × (Nat → Int32) × (Nat → Int32)) : Prop := (¬ (inQ D v1 ∧ 1 ≤ v2.toInt ∧ v2.toInt ≤ 30) ∧ r = -1 ∧ P' = P) ∨ ((inQ D v1 ∧ 1 ≤ v2.toInt ∧ v2.toInt ≤ 30) ∧ ∃ c : Int32, c.toInt = pyR D a v1.toInt.toNat (P.1 v1.toInt.toNat) ∧ ((¬ c.toInt ≤ (P.2.2 v1.toInt.toNat).toInt ∧ r = -5 ∧ P' = P) ∨ (c.toInt ≤ (P.2.2 v1.toInt.toNat).toInt ∧ r = c.toInt ∧ P' = (P.1, updF P.2.1 v1.toInt.toNat (if (P.2.1 v1.toInt.toNat + v2) < kt v1.toInt.toNat then (P.2.1 v1.toInt.toNat + v2) else kt v1.toInt.toNat), updF P.2.2 v1.toInt.toNat (P.2.2 v1.toInt.toNat - c)))))
theorem RSQd_fun {D : DAT} {a kt : Nat → Int32} {P P1 P2 : (Nat → Int32) × (Nat → Int32) × (Nat → Int32)} {v1 v2 : Int32} {r r' : Int} (h : RSQd D a kt P v1 v2 r P1) (h' : RSQd D a kt P v1 v2 r' P2) : r = r' ∧ P1 = P2 := by
  rcases h with ⟨n, e, s⟩ | ⟨y, c, hc, h⟩
  · rcases h' with ⟨n', e', s'⟩ | ⟨y', -⟩
    · exact ⟨e.trans e'.symm, s.trans s'.symm⟩
    · exact absurd y' n
  · rcases h' with ⟨n', -, -⟩ | ⟨-, c', hc', h'⟩
    · exact absurd y n'
    · have c9 : c = c' := (i_eq rfl rfl).mpr (hc.trans hc'.symm)
      subst c9
      rcases h with ⟨l, e, s⟩ | ⟨l, e, s⟩
      · rcases h' with ⟨k, e', s'⟩ | ⟨k, e', s'⟩
        · exact ⟨e.trans e'.symm, s.trans s'.symm⟩
        · exact absurd k l
      · rcases h' with ⟨k, e', s'⟩ | ⟨k, e', s'⟩
        · exact absurd l k
        · exact ⟨e.trans e'.symm, s.trans s'.symm⟩
/-! ===== the class: costs, tread, rests, returns ===== -/
/-- places, knees, purses of the class; knees as told -/
def CPL (I : jI) (pc : Nat → Nat) (n : Nat) (P : (Nat → Int32) × (Nat → Int32) × (Nat → Int32)) : Prop := ∀ p, p < n → I (pc p) 5 = P.1 p ∧ I (pc p) 6 = P.2.1 p ∧ I (pc p) 7 = P.2.2 p
def CKT (I : jI) (pc : Nat → Nat) (D : DAT) (kt : Nat → Int32) : Prop := ∀ p, p < dP D → I (pc p) 0 = kt p ∧ (I (pc p) 2).toInt = (dLp D p : Int)
theorem CPL_fr {W : List (Nat × Nat)} {Z Z' : jZ} {I I' : jI} {pc : Nat → Nat} {n : Nat} {P : (Nat → Int32) × (Nat → Int32) × (Nat → Int32)} (f : FR W Z I Z' I') (k : ∀ p, p < n → jk Z (pc p) 5) (h5 : (5, 5) ∉ W) (h6 : (5, 6) ∉ W) (h7 : (5, 7) ∉ W) (h : CPL I pc n P) : CPL I' pc n P := fun p hp => by
  rw [f.2.2.1 (pc p) 5 5 (k p hp) (by decide) h5, f.2.2.1 (pc p) 5 6 (k p hp) (by decide) h6, f.2.2.1 (pc p) 5 7 (k p hp) (by decide) h7]
  exact h p hp
def Wco : List (Nat × Nat) := [(3, 2), (8, 8), (11, 16)]
theorem s_comes {Z : jZ} {I : jI} {L : jL} (v0 : Nat) (v1 x : Int32) (lp : Nat) (h5 : I v0 5 = x) (h2 : (I v0 2).toInt = (lp : Int)) (rx : -1 ≤ x.toInt ∧ x.toInt ≤ 23) (r1 : 0 ≤ v1.toInt ∧ v1.toInt ≤ 23) {Q : Int32 → jI → jL → Prop} (hQ : ∀ r : Int32, ((r.toInt = 1 ∧ x.toInt < v1.toInt ∧ v1.toInt - x.toInt ≤ (lp : Int)) ∨ (r.toInt = 0 ∧ ¬ (x.toInt < v1.toInt ∧ v1.toInt - x.toInt ≤ (lp : Int)))) → Q r I L) : f_X5_comesTo v0 v1 Z I L Q := by
  unfold f_X5_comesTo
  rw [h5]
  have es : (v1 - x).toInt = v1.toInt - x.toInt := i_sub rfl rfl (by omega) (by omega)
  refine ⟨fun c => hQ 0 (Or.inr ⟨rfl, ?_⟩), fun c => ⟨fun c2 => hQ 0 (Or.inr ⟨rfl, ?_⟩), fun c2 => hQ 1 (Or.inl ⟨rfl, ?_⟩)⟩⟩
  · have c := (i_le rfl rfl).mp c
    omega
  · have c2 := (i_lt h2 es).mp c2
    omega
  · have c := (not_congr (i_le rfl rfl)).mp c
    have c2 := (not_congr (i_lt h2 es)).mp c2
    omega
set_option maxHeartbeats 1000000 in
theorem r_X11_costs {L : jL} {Z : jZ} {I : jI} {v0 v8 u0 u1 u2 u3 u4 u41 u5 u8 uL0 uC0 uL1 uC1 uP p13 p14 : Nat} {pc rc : Nat → Nat} {D : DAT} {a : Nat → Int32} (X : CWD Z I v0 v8 u0 u1 u2 u3 u4 u41 u5 u8 uL0 uC0 uL1 uC1 uP p13 p14 pc rc D a) (P : (Nat → Int32) × (Nat → Int32) × (Nat → Int32)) (kt : Nat → Int32) (hP : CPL I pc (dP D) P) (hk : CKT I pc D kt) (ha : AOK D P.1) (v1 v2 : Int32) {Q : Int32 → jI → jL → Prop}
    (hQ : ∀ (r : Int32) (I' : jI) (L' : jL), COd D a P.1 v1 v2 r.toInt → WD Z I' → FR Wco Z I Z I' → Q r I' L') : f_X11_costs v0 v1 v2 Z I L Q := by
  have z0 : (0 : Int32).toInt = 0 := rfl
  have w := X.w
  have d := X.dok
  have ok := X.ok
  have n24 := d.1
  have bad : ¬ (inQ D v1 ∧ stp D v2) → Q (-1 : Int32) I L := fun n => hQ _ I L (Or.inl ⟨n, rfl⟩) w FR.rf
  unfold f_X11_costs
  refine X.find2 v1 (fun n => ⟨fun _ => bad (fun q => n q.1), fun b hb => by cases hb⟩) (fun p hp e1 => ⟨(fun q => by cases q), fun b hb' => ?_⟩)
  cases hb'
  have ep : v1.toInt.toNat = p := by omega
  intro b hb; cases X.h2.symm.trans hb
  refine X.has v2 (fun r hr => ⟨fun c => ?_, fun c => bad (fun q => ?_)⟩)
  · have c := (not_congr (i_eq rfl z0)).mp c
    have hs : stp D v2 := by unfold stp; omega
    have hs' := hs
    unfold stp at hs'
    have inq : inQ D v1 := by unfold inQ; omega
    have ra := ha p hp
    obtain ⟨l3, rl, -, -⟩ := d.2.2.2.2 p hp
    obtain ⟨e3p, -, -, -, -⟩ := X.piv p hp
    obtain ⟨h5, -, -⟩ := hP p hp
    refine s_comes (pc p) v2 (P.1 p) (dLp D p) h5 (hk p hp).2 (by omega) (by omega) (fun r2 hr2 => ⟨fun c2 => ?_, fun c2 => ?_⟩)
    · have c2 := (not_congr (i_eq rfl z0)).mp c2
      have hm : (P.1 p).toInt < v2.toInt ∧ v2.toInt - (P.1 p).toInt ≤ (dLp D p : Int) := by omega
      intro b hb; cases X.h2.symm.trans hb
      rw [h5]
      refine r_X8_effortOfMove_f w v8 u0 u1 X.S.1 X.S.2.1 X.S.2.2.1 (dN D : Int) X.hn (Hn (dR D) (dN D)) (Hn (dS D) (dN D)) (fun s hs => by rw [Hn_at hs, X.iR]) (fun s hs => by rw [Hn_at hs, X.iS]) (Hn_rng (by omega) d.2.2.1) (Hn_rng (by omega) d.2.2.2.1) (P.1 p) v2 (I (pc p) 3) (P.1 p).toInt v2.toInt (dLd D p) rfl rfl e3p (by omega) (by omega) (by omega) (by omega) (by omega) rl (fun r3 _ => ?_)
      refine s_X11_tellTwo w v0 _ _ X.kv (fun I2 L2 w2 f2 => ?_)
      have X2 := X.fr w2 f2 (by decide) (by decide)
      have h52 : I2 (pc p) 5 = P.1 p := by rw [f2.2.2.1 (pc p) 5 5 (X.pil p hp).2.1 (by decide) (by decide)]; exact h5
      intro b hb; cases X.h2.symm.trans hb
      rw [h52]
      refine r_X8_costOfMove_f X2.w w2 v8 (PRa D a) X2.pr (PRa_rng ok) FR.rf (P.1 p) v2 (I2 (pc p) 3) (P.1 p).toInt v2.toInt (dLd D p) rfl rfl (X2.piv p hp).1 (by omega) (by omega) (by omega) (by omega) (by omega) (fun r4 I4 L4 w4 f4 er => ?_)
      exact hQ r4 I4 L4 (Or.inr ⟨⟨inq, hs⟩, Or.inr ⟨by rw [ep]; exact hm, by rw [ep]; exact er⟩⟩) w4 ((f2.mono (by decide)).trans w.1 w.2.1 (f4.mono (by decide)))
    · have c2 := (i_eq rfl z0).mp c2
      refine hQ _ I L (Or.inr ⟨⟨inq, hs⟩, Or.inl ⟨?_, rfl⟩⟩) w FR.rf
      unfold MOV
      rw [ep]
      omega
  · have c := (i_eq rfl z0).mp c
    have := q.2
    unfold stp at this
    omega
theorem CPL_put {Z : jZ} {I : jI} {v0 v8 u0 u1 u2 u3 u4 u41 u5 u8 uL0 uC0 uL1 uC1 uP p13 p14 : Nat} {pc rc : Nat → Nat} {D : DAT} {a : Nat → Int32} (X : CWD Z I v0 v8 u0 u1 u2 u3 u4 u41 u5 u8 uL0 uC0 uL1 uC1 uP p13 p14 pc rc D a) {P : (Nat → Int32) × (Nat → Int32) × (Nat → Int32)} (h : CPL I pc (dP D) P) (p : Nat) (hp : p < dP D) (x : Int32) : CPL (jpI I (pc p) 5 x) pc (dP D) (updF P.1 p x, P.2) ∧ CPL (jpI I (pc p) 6 x) pc (dP D) (P.1, updF P.2.1 p x, P.2.2) ∧ CPL (jpI I (pc p) 7 x) pc (dP D) (P.1, P.2.1, updF P.2.2 p x) := by
  have inj : ∀ q, q < dP D → q ≠ p → pc q ≠ pc p := fun q hq hn e => by
    have g8 := (X.pil q hq).2.2.1
    have g8' := (X.pil p hp).2.2.1
    rw [e, g8'] at g8
    exact hn (X.inj q p hq hp (Option.some.inj g8).symm)
  refine ⟨fun q hq => ?_, fun q hq => ?_, fun q hq => ?_⟩
  all_goals
    obtain ⟨a5, a6, a7⟩ := h q hq
    by_cases c : q = p
    · subst c
      simp only [jpI_at, jpI_o (show (5 : Nat) ≠ 6 by decide), jpI_o (show (5 : Nat) ≠ 7 by decide), jpI_o (show (6 : Nat) ≠ 5 by decide), jpI_o (show (6 : Nat) ≠ 7 by decide), jpI_o (show (7 : Nat) ≠ 5 by decide), jpI_o (show (7 : Nat) ≠ 6 by decide), updF_at, a5, a6, a7, and_self]
    · rw [jpI_ne (inj q hq c)]
      simp only [updF_off c]
      exact ⟨a5, a6, a7⟩
theorem r_X11_returns {L : jL} {Z : jZ} {I : jI} {v0 v8 u0 u1 u2 u3 u4 u41 u5 u8 uL0 uC0 uL1 uC1 uP p13 p14 : Nat} {pc rc : Nat → Nat} {D : DAT} {a : Nat → Int32} (X : CWD Z I v0 v8 u0 u1 u2 u3 u4 u41 u5 u8 uL0 uC0 uL1 uC1 uP p13 p14 pc rc D a) (P : (Nat → Int32) × (Nat → Int32) × (Nat → Int32)) (kt : Nat → Int32) (hP : CPL I pc (dP D) P) (hk : CKT I pc D kt) (v1 : Int32) {Q : Int32 → jI → jL → Prop}
    (hQ : ∀ (r : Int32) (I' : jI) (L' : jL) (P' : (Nat → Int32) × (Nat → Int32) × (Nat → Int32)), REd D kt P v1 r.toInt P' → CPL I' pc (dP D) P' → WD Z I' → FR Ws_X11_returns Z I Z I' → Q r I' L') : f_X11_returns v0 v1 Z I L Q := by
  have w := X.w
  unfold f_X11_returns
  refine X.find2 v1 (fun n => ⟨fun _ => hQ _ I L P (Or.inl ⟨n, rfl, rfl⟩) hP w FR.rf, fun b hb => by cases hb⟩) (fun p hp e1 => ⟨(fun q => by cases q), fun b hb' => ?_⟩)
  cases hb'
  have ep : v1.toInt.toNat = p := by omega
  have k5 := (X.pil p hp).2.1
  obtain ⟨h5, -, -⟩ := hP p hp
  intro x ex I1 e1' I2 e2'
  have w1 : WD Z I1 := by rw [e1']; exact WD_putF w 5 5 k5 (by decide) (by decide) (by constructor <;> decide)
  have f1 : FR Ws_X11_returns Z I Z I1 := by rw [e1']; exact FR_putF k5 (by decide) (by decide)
  have w2 : WD Z I2 := by rw [e2']; exact WD_putF w1 5 6 k5 (by decide) (by decide) trivial
  have f2 : FR Ws_X11_returns Z I1 Z I2 := by rw [e2']; exact FR_putF k5 (by decide) (by decide)
  have c1 := (CPL_put X hP p hp (-1)).1
  rw [← e1'] at c1
  have h0 : I1 (pc p) 0 = kt p := by rw [e1', jpI_o (by decide)]; exact (hk p hp).1
  have c2 := (CPL_put (X.fr w1 f1 (by decide) (by decide)) c1 p hp (kt p)).2.1
  rw [h0] at e2'
  rw [← e2'] at c2
  exact hQ x I2 L _ (Or.inr ⟨by unfold inQ; omega, by rw [ex, h5, ep], by rw [ep]⟩) c2 w2 (f1.trans w.1 w.2.1 f2)
set_option maxHeartbeats 4000000 in
theorem r_X11_tread {L : jL} {Z : jZ} {I : jI} {v0 v8 u0 u1 u2 u3 u4 u41 u5 u8 uL0 uC0 uL1 uC1 uP p13 p14 : Nat} {pc rc : Nat → Nat} {D : DAT} {a : Nat → Int32} (X : CWD Z I v0 v8 u0 u1 u2 u3 u4 u41 u5 u8 uL0 uC0 uL1 uC1 uP p13 p14 pc rc D a) (P : (Nat → Int32) × (Nat → Int32) × (Nat → Int32)) (kt : Nat → Int32) (hP : CPL I pc (dP D) P) (hk : CKT I pc D kt) (ha : AOK D P.1) (v1 v2 : Int32) {Q : Int32 → jI → jL → Prop}
    (hQ : ∀ (r : Int32) (I' : jI) (L' : jL) (P' : (Nat → Int32) × (Nat → Int32) × (Nat → Int32)), TRd D a P v1 v2 r.toInt P' → CPL I' pc (dP D) P' → WD Z I' → FR Ws_X11_tread Z I Z I' → Q r I' L') : f_X11_tread v0 v1 v2 Z I L Q := by
  have z0 : (0 : Int32).toInt = 0 := rfl
  have w := X.w
  have d := X.dok
  have ok := X.ok
  have n24 := d.1
  have bad : ¬ (inQ D v1 ∧ stp D v2) → Q (-1 : Int32) I L := fun n => hQ _ I L P (Or.inl ⟨n, rfl, rfl⟩) hP w FR.rf
  unfold f_X11_tread
  refine X.find2 v1 (fun n => ⟨fun _ => bad (fun q => n q.1), fun b hb => by cases hb⟩) (fun p hp e1 => ⟨(fun q => by cases q), fun b hb' => ?_⟩)
  cases hb'
  have ep : v1.toInt.toNat = p := by omega
  have k5 := (X.pil p hp).2.1
  intro b hb; cases X.h2.symm.trans hb
  refine X.has v2 (fun r hr => ⟨fun c => ?_, fun c => bad (fun q => ?_)⟩)
  · have c := (not_congr (i_eq rfl z0)).mp c
    have hs : stp D v2 := by unfold stp; omega
    have hs' := hs
    unfold stp at hs'
    have inq : inQ D v1 := by unfold inQ; omega
    have ra := ha p hp
    obtain ⟨l3, rl, -, -⟩ := d.2.2.2.2 p hp
    obtain ⟨e3p, e4p, -, -, -⟩ := X.piv p hp
    obtain ⟨h5, h6, h7⟩ := hP p hp
    have es : v2.toInt = ((v2.toInt.toNat : Nat) : Int) := by omega
    refine s_comes (pc p) v2 (P.1 p) (dLp D p) h5 (hk p hp).2 (by omega) (by omega) (fun r2 hr2 => ⟨fun c2 => ?_, fun c2 => ?_⟩)
    · have c2 := (not_congr (i_eq rfl z0)).mp c2
      have hm : MOV D P.1 v1.toInt.toNat v2 := by unfold MOV; rw [ep]; omega
      have hm' : (P.1 p).toInt < v2.toInt ∧ v2.toInt - (P.1 p).toInt ≤ (dLp D p : Int) := by omega
      intro b hb; cases X.h2.symm.trans hb
      intro b hb; cases X.S.2.2.2.2.2.1.symm.trans hb
      refine X.mnc v2 v2.toInt.toNat I L _ w FR.rf es (by omega) ?_
      unfold f_X5_vowsAgainst
      rw [e4p]
      refine ⟨fun cv => ⟨fun _ => ?_, fun q => absurd rfl q⟩, fun cv => ⟨fun q => absurd q (by decide), fun _ => ?_⟩⟩
      · have nv : ¬ VOWd D v1.toInt.toNat v2.toInt.toNat := by
          unfold VOWd
          rw [ep]
          exact fun q => q cv
        intro b hb; cases X.h2.symm.trans hb
        rw [h5]
        refine r_X8_effortOfMove_f w v8 u0 u1 X.S.1 X.S.2.1 X.S.2.2.1 (dN D : Int) X.hn (Hn (dR D) (dN D)) (Hn (dS D) (dN D)) (fun s hs => by rw [Hn_at hs, X.iR]) (fun s hs => by rw [Hn_at hs, X.iS]) (Hn_rng (by omega) d.2.2.1) (Hn_rng (by omega) d.2.2.2.1) (P.1 p) v2 (I (pc p) 3) (P.1 p).toInt v2.toInt (dLd D p) rfl rfl e3p (by omega) (by omega) (by omega) (by omega) (by omega) rl (fun e er => ?_)
        have er' : e.toInt = EFT (Hn (dR D) (dN D)) (Hn (dS D) (dN D)) (P.1 v1.toInt.toNat).toInt v2.toInt (dLd D v1.toInt.toNat) := by rw [ep]; exact er
        refine ⟨fun c3 => ?_, fun c3 => ?_⟩
        · rw [h6] at c3
          have c3 := (i_le rfl rfl).mp c3
          intro b hb; cases X.h2.symm.trans hb
          rw [h5]
          refine r_X8_costOfMove_f w w v8 (PRa D a) X.pr (PRa_rng ok) FR.rf (P.1 p) v2 (I (pc p) 3) (P.1 p).toInt v2.toInt (dLd D p) rfl rfl e3p (by omega) (by omega) (by omega) (by omega) (by omega) (fun c I4 L4 w4 f4 ec => ?_)
          have ec' : c.toInt = CST (PRa D a) (P.1 v1.toInt.toNat).toInt v2.toInt (dLd D v1.toInt.toNat) := by rw [ep]; exact ec
          have X4 := X.fr w4 f4 (by decide) (by decide)
          have P4 := CPL_fr f4 (fun p hp => (X.pil p hp).2.1) (by decide) (by decide) (by decide) hP
          have f4' : FR Ws_X11_tread Z I Z I4 := f4.mono (by decide)
          refine ⟨fun c4 => ?_, fun c4 => ?_⟩
          · rw [(P4 p hp).2.2] at c4
            have c4 := (i_le rfl rfl).mp c4
            refine s_X11_payForMove w4 v0 (pc p) v2 X.kv k5 (by omega) (fun I5 L5 w5 f5 => ?_)
            have X5 := X4.fr w5 f5 (by decide) (by decide)
            have P5 := CPL_fr f5 (fun p hp => (X.pil p hp).2.1) (by decide) (by decide) (by decide) P4
            intro I6 e6 I7 e7 I8 e8
            rw [(P5 p hp).2.1] at e6
            have w6 : WD Z I6 := by rw [e6]; exact WD_putF w5 5 6 k5 (by decide) (by decide) trivial
            have f6 : FR [(5, 6)] Z I5 Z I6 := by rw [e6]; exact FR_putF k5 (by decide) List.mem_cons_self
            have P6 := (CPL_put X5 P5 p hp (P.2.1 p - e)).2.1
            rw [← e6] at P6
            have X6 := X5.fr w6 f6 (by decide) (by decide)
            rw [(P6 p hp).2.2] at e7
            have w7 : WD Z I7 := by rw [e7]; exact WD_putF w6 5 7 k5 (by decide) (by decide) trivial
            have f7 : FR [(5, 7)] Z I6 Z I7 := by rw [e7]; exact FR_putF k5 (by decide) List.mem_cons_self
            have P7 := (CPL_put X6 P6 p hp (P.2.2 p - c)).2.2
            rw [← e7] at P7
            have X7 := X6.fr w7 f7 (by decide) (by decide)
            have w8 : WD Z I8 := by rw [e8]; exact WD_putF w7 5 5 k5 (by decide) (by decide) (by constructor <;> omega)
            have f8 : FR [(5, 5)] Z I7 Z I8 := by rw [e8]; exact FR_putF k5 (by decide) List.mem_cons_self
            have P8 := (CPL_put X7 P7 p hp v2).1
            rw [← e8] at P8
            refine hQ c I8 L5 _ (Or.inr ⟨⟨inq, hs⟩, Or.inr ⟨hm, Or.inr ⟨nv, e, c, er', ec', Or.inr ⟨by rw [ep]; exact c3, Or.inr ⟨by rw [ep]; exact c4, rfl, rfl⟩⟩⟩⟩⟩) ?_ w8 ((((f4'.trans w.1 w.2.1 (f5.mono (by decide))).trans w.1 w.2.1 (f6.mono (by decide))).trans w.1 w.2.1 (f7.mono (by decide))).trans w.1 w.2.1 (f8.mono (by decide)))
            rw [ep]
            exact P8
          · rw [(P4 p hp).2.2] at c4
            have c4 := (not_congr (i_le rfl rfl)).mp c4
            exact hQ _ I4 L4 P (Or.inr ⟨⟨inq, hs⟩, Or.inr ⟨hm, Or.inr ⟨nv, e, c, er', ec', Or.inr ⟨by rw [ep]; exact c3, Or.inl ⟨by rw [ep]; exact c4, rfl, rfl⟩⟩⟩⟩⟩) P4 w4 f4'
        · rw [h6] at c3
          have c3 := (not_congr (i_le rfl rfl)).mp c3
          obtain ⟨cc, hcc⟩ : ∃ cc : Int32, cc.toInt = CST (PRa D a) (P.1 v1.toInt.toNat).toInt v2.toInt (dLd D v1.toInt.toNat) := by
            have rg : 0 ≤ CST (PRa D a) (P.1 p).toInt v2.toInt (dLd D p) ∧ CST (PRa D a) (P.1 p).toInt v2.toInt (dLd D p) ≤ 297 := CST_rng (PRa_rng ok) (by omega)
            refine ⟨nI (CST (PRa D a) (P.1 p).toInt v2.toInt (dLd D p)).toNat, ?_⟩
            rw [ep]
            have t := i_nI (n := (CST (PRa D a) (P.1 p).toInt v2.toInt (dLd D p)).toNat) (by omega)
            omega
          exact hQ _ I L P (Or.inr ⟨⟨inq, hs⟩, Or.inr ⟨hm, Or.inr ⟨nv, e, cc, er', hcc, Or.inl ⟨by rw [ep]; exact c3, rfl, rfl⟩⟩⟩⟩) hP w FR.rf
      · have yv : VOWd D v1.toInt.toNat v2.toInt.toNat := by
          unfold VOWd
          rw [ep]
          exact cv
        exact hQ _ I L P (Or.inr ⟨⟨inq, hs⟩, Or.inr ⟨hm, Or.inl ⟨yv, rfl, rfl⟩⟩⟩) hP w FR.rf
    · have c2 := (i_eq rfl z0).mp c2
      refine hQ _ I L P (Or.inr ⟨⟨inq, hs⟩, Or.inl ⟨?_, rfl, rfl⟩⟩) hP w FR.rf
      unfold MOV
      rw [ep]
      omega
  · have c := (i_eq rfl z0).mp c
    have := q.2
    unfold stp at this
    omega
/-- from nowhere nothing is paid -/
theorem r_price0 {L : jL} {Z : jZ} {I : jI} {v0 v8 u0 u1 u2 u3 u4 u41 u5 u8 uL0 uC0 uL1 uC1 uP p13 p14 : Nat} {pc rc : Nat → Nat} {D : DAT} {a : Nat → Int32} (X : CWD Z I v0 v8 u0 u1 u2 u3 u4 u41 u5 u8 uL0 uC0 uL1 uC1 uP p13 p14 pc rc D a) (v2 v3 v4 v5 : Int32) (h2 : v2.toInt = -1) {Q : Int32 → jI → jL → Prop} (hQ : Q (0 : Int32) I L) : f_X8_priceOf v8 (0 : Int32) v2 v3 v4 v5 Z I L Q := by
  have z0 : (0 : Int32).toInt = 0 := rfl
  unfold f_X8_priceOf
  refine ⟨fun q => absurd rfl q, fun _ b hb => ?_⟩
  unfold f_X8_priceOf_b15
  refine X.has v2 (fun r hr => ⟨fun c => ?_, fun _ => hQ⟩)
  have c := (not_congr (i_eq rfl z0)).mp c
  omega
set_option maxHeartbeats 4000000 in
theorem r_X11_rests {L : jL} {Z : jZ} {I : jI} {v0 v8 u0 u1 u2 u3 u4 u41 u5 u8 uL0 uC0 uL1 uC1 uP p13 p14 : Nat} {pc rc : Nat → Nat} {D : DAT} {a : Nat → Int32} (X : CWD Z I v0 v8 u0 u1 u2 u3 u4 u41 u5 u8 uL0 uC0 uL1 uC1 uP p13 p14 pc rc D a) (P : (Nat → Int32) × (Nat → Int32) × (Nat → Int32)) (kt : Nat → Int32) (hP : CPL I pc (dP D) P) (hk : CKT I pc D kt) (ha : AOK D P.1) (v1 v2 : Int32) {Q : Int32 → jI → jL → Prop}
    (hQ : ∀ (r : Int32) (I' : jI) (L' : jL) (P' : (Nat → Int32) × (Nat → Int32) × (Nat → Int32)), RSQd D a kt P v1 v2 r.toInt P' → CPL I' pc (dP D) P' → WD Z I' → FR Ws_X11_rests Z I Z I' → Q r I' L') : f_X11_rests v0 v1 v2 Z I L Q := by
  have z0 : (0 : Int32).toInt = 0 := rfl
  have z1 : (1 : Int32).toInt = 1 := rfl
  have z30 : (30 : Int32).toInt = 30 := rfl
  have w := X.w
  have d := X.dok
  have ok := X.ok
  have n24 := d.1
  have bad : ¬ (inQ D v1 ∧ 1 ≤ v2.toInt ∧ v2.toInt ≤ 30) → Q (-1 : Int32) I L := fun n => hQ _ I L P (Or.inl ⟨n, rfl, rfl⟩) hP w FR.rf
  unfold f_X11_rests
  refine X.find2 v1 (fun n => ⟨fun _ => bad (fun q => n q.1), fun b hb => by cases hb⟩) (fun p hp e1 => ⟨(fun q => by cases q), fun b hb' => ?_⟩)
  cases hb'
  have ep : v1.toInt.toNat = p := by omega
  have k5 := (X.pil p hp).2.1
  have inq : inQ D v1 := by unfold inQ; omega
  refine ⟨fun c => bad (fun q => ?_), fun c => ⟨fun c1 => ?_, fun c1 => bad (fun q => ?_)⟩⟩
  · have c := (i_lt rfl z1).mp c
    omega
  · have c := (not_congr (i_lt rfl z1)).mp c
    have c1 := (i_le rfl z30).mp c1
    have hin : inQ D v1 ∧ 1 ≤ v2.toInt ∧ v2.toInt ≤ 30 := ⟨inq, by omega, c1⟩
    have ra := ha p hp
    obtain ⟨l3, rl, -, -⟩ := d.2.2.2.2 p hp
    obtain ⟨e3p, e4p, -, -, -⟩ := X.piv p hp
    obtain ⟨h5, h6, h7⟩ := hP p hp
    intro b hb; cases X.h2.symm.trans hb
    rw [h5]
    -- behind the price
    have go : ∀ (c : Int32) (I3 : jI) (L3 : jL), WD Z I3 → FR Ws_X8_priceOf Z I Z I3 → c.toInt = pyR D a v1.toInt.toNat (P.1 v1.toInt.toNat) → ((c ≤ (I3 (pc p) 7) → (∀ b23 : Nat, jr Z v0 2 = some b23 → (f_X8_has b23 (I3 (pc p) 5) Z I3 L3 (fun r30 I26 L27 => ((r30 = 0 → f_X11_rests_b83 Z Q v2 (pc p) c I26 L27) ∧ (¬ (r30 = 0) → (f_X11_lead v0 c (I26 (pc p) 5) (1 : Int32) Z I26 L27 (fun I34 L35 => f_X11_rests_b83 Z Q v2 (pc p) c I34 L35)))))))) ∧ (¬ (c ≤ (I3 (pc p) 7)) → Q (-5 : Int32) I3 L3)) := fun c I3 L3 w3 f3 ec => by
      have X3 := X.fr w3 f3 (by decide) (by decide)
      have P3 := CPL_fr f3 (fun p hp => (X.pil p hp).2.1) (by decide) (by decide) (by decide) hP
      have f3' : FR Ws_X11_rests Z I Z I3 := f3.mono (by decide)
      have fin : ∀ (I4 : jI) (L4 : jL), WD Z I4 → FR Ws_X11_rests Z I Z I4 → CPL I4 pc (dP D) P → I4 (pc p) 0 = kt p → CWD Z I4 v0 v8 u0 u1 u2 u3 u4 u41 u5 u8 uL0 uC0 uL1 uC1 uP p13 p14 pc rc D a → c.toInt ≤ (P.2.2 p).toInt → f_X11_rests_b83 Z Q v2 (pc p) c I4 L4 := fun I4 L4 w4 f4 P4 h0 X4 cl => by
        unfold f_X11_rests_b83
        intro I5 e5 I6 e6
        rw [(P4 p hp).2.2] at e5
        have w5 : WD Z I5 := by rw [e5]; exact WD_putF w4 5 7 k5 (by decide) (by decide) trivial
        have f5 : FR [(5, 7)] Z I4 Z I5 := by rw [e5]; exact FR_putF k5 (by decide) List.mem_cons_self
        have P5 := (CPL_put X4 P4 p hp (P.2.2 p - c)).2.2
        rw [← e5] at P5
        have h05 : I5 (pc p) 0 = kt p := by rw [e5, jpI_o (by decide)]; exact h0
        rw [(P5 p hp).2.1, h05] at e6
        have w6 : WD Z I6 := by rw [e6]; exact WD_putF w5 5 6 k5 (by decide) (by decide) trivial
        have f6 : FR [(5, 6)] Z I5 Z I6 := by rw [e6]; exact FR_putF k5 (by decide) List.mem_cons_self
        have P6 := (CPL_put (X4.fr w5 f5 (by decide) (by decide)) P5 p hp (if (P.2.1 p + v2) < kt p then (P.2.1 p + v2) else kt p)).2.1
        rw [← e6] at P6
        refine hQ c I6 L4 _ (Or.inr ⟨hin, c, ec, Or.inr ⟨by rw [ep]; exact cl, rfl, rfl⟩⟩) ?_ w6 ((f4.trans w.1 w.2.1 (f5.mono (by decide))).trans w.1 w.2.1 (f6.mono (by decide)))
        rw [ep]
        exact P6
      have h03 : I3 (pc p) 0 = kt p := by rw [f3.2.2.1 (pc p) 5 0 k5 (by decide) (by decide)]; exact (hk p hp).1
      refine ⟨fun cl => ?_, fun cl => ?_⟩
      · rw [(P3 p hp).2.2] at cl
        have cl := (i_le rfl rfl).mp cl
        intro b hb; cases X3.h2.symm.trans hb
        refine X3.has _ (fun r2 _ => ⟨fun _ => fin I3 L3 w3 f3' P3 h03 X3 cl, fun _ => ?_⟩)
        refine s_X11_lead w3 v0 c _ 1 X.kv (fun I4 L4 w4 f4 => ?_)
        exact fin I4 L4 w4 (f3'.trans w.1 w.2.1 (f4.mono (by decide))) (CPL_fr f4 (fun p hp => (X.pil p hp).2.1) (by decide) (by decide) (by decide) P3) (by rw [f4.2.2.1 (pc p) 5 0 k5 (by decide) (by decide)]; exact h03) (X3.fr w4 f4 (by decide) (by decide)) cl
      · rw [(P3 p hp).2.2] at cl
        have cl := (not_congr (i_le rfl rfl)).mp cl
        exact hQ _ I3 L3 P (Or.inr ⟨hin, c, ec, Or.inl ⟨by rw [ep]; exact cl, rfl, rfl⟩⟩) P3 w3 f3'
    by_cases g : (P.1 p).toInt = -1
    · refine r_price0 X (P.1 p) (P.1 p) 0 _ g ?_
      refine go 0 I L w FR.rf ?_
      unfold pyR
      rw [ep, if_pos g]
      rfl
    · refine X.pr 0 (P.1 p) (P.1 p) 0 _ I L _ w FR.rf (by decide) (by omega) (by omega) (fun c I3 L3 w3 f3 ec => go c I3 L3 w3 f3 ?_)
      unfold pyR
      rw [ep, if_neg g, ec, e3p]
      rfl
  · have c1 := (not_congr (i_le rfl z30)).mp c1
    omega
/-! ===== the reference: costs, tread, rests, returns ===== -/
/-- places, knees, purses of the reference; knees as told -/
def RPL (I : jI) (t14 t15 t16 : Nat) (n : Nat) (P : (Nat → Int32) × (Nat → Int32) × (Nat → Int32)) : Prop := ∀ p, p < n → I t14 p = P.1 p ∧ I t15 p = P.2.1 p ∧ I t16 p = P.2.2 p
def RPr (Z : jZ) (v0 t14 t15 t16 : Nat) : Prop := jr Z v0 14 = some t14 ∧ jk Z t14 14 ∧ jr Z v0 15 = some t15 ∧ jk Z t15 14 ∧ jr Z v0 16 = some t16 ∧ jk Z t16 14
theorem RPr_x {W : List (Nat × Nat)} {Z Z' : jZ} {I I' : jI} {v0 t14 t15 t16 : Nat} (f : FR W Z I Z' I') (kv : jk Z v0 12) (h : RPr Z v0 t14 t15 t16) : RPr Z' v0 t14 t15 t16 := by
  obtain ⟨a, b, c, d, e, g⟩ := h
  exact ⟨(f.2.1 v0 12 14 kv (by decide) (by decide)).trans a, (f.1 _ _ b).1, (f.2.1 v0 12 15 kv (by decide) (by decide)).trans c, (f.1 _ _ d).1, (f.2.1 v0 12 16 kv (by decide) (by decide)).trans e, (f.1 _ _ g).1⟩
theorem RPL_fr {W : List (Nat × Nat)} {Z Z' : jZ} {I I' : jI} {v0 t14 t15 t16 n : Nat} {P : (Nat → Int32) × (Nat → Int32) × (Nat → Int32)} (f : FR W Z I Z' I') (kv : jk Z v0 12) (r : RPr Z v0 t14 t15 t16) (h4 : (12, 14) ∉ W) (h5 : (12, 15) ∉ W) (h6 : (12, 16) ∉ W) (h : RPL I t14 t15 t16 n P) : RPL I' t14 t15 t16 n P := by
  obtain ⟨a, b, c, d, e, g⟩ := r
  have a4 : I' t14 = I t14 := f.2.2.2 v0 12 14 t14 kv a (by rw [b.2]; rfl) rfl h4
  have a5 : I' t15 = I t15 := f.2.2.2 v0 12 15 t15 kv c (by rw [d.2]; rfl) rfl h5
  have a6 : I' t16 = I t16 := f.2.2.2 v0 12 16 t16 kv e (by rw [g.2]; rfl) rfl h6
  intro p hp
  rw [a4, a5, a6]
  exact h p hp
theorem RPL_put {Z : jZ} {I : jI} {v0 t14 t15 t16 n : Nat} {P : (Nat → Int32) × (Nat → Int32) × (Nat → Int32)} (w : WD Z I) (kv : jk Z v0 12) (r : RPr Z v0 t14 t15 t16) (h : RPL I t14 t15 t16 n P) (p : Nat) (x : Int32) : RPL (jpI I t14 p x) t14 t15 t16 n (updF P.1 p x, P.2) ∧ RPL (jpI I t15 p x) t14 t15 t16 n (P.1, updF P.2.1 p x, P.2.2) ∧ RPL (jpI I t16 p x) t14 t15 t16 n (P.1, P.2.1, updF P.2.2 p x) := by
  obtain ⟨a, b, c, d, e, g⟩ := r
  have n45 := m12_ne w kv a c (by decide) (by decide) (by decide)
  have n46 := m12_ne w kv a e (by decide) (by decide) (by decide)
  have n56 := m12_ne w kv c e (by decide) (by decide) (by decide)
  refine ⟨fun q hq => ?_, fun q hq => ?_, fun q hq => ?_⟩
  · obtain ⟨a5, a6, a7⟩ := h q hq
    rw [jpI_ne n45.symm, jpI_ne n46.symm]
    refine ⟨?_, a6, a7⟩
    by_cases c : q = p
    · rw [c, jpI_at]; exact updF_at.symm
    · rw [jpI_off c]; exact a5.trans (updF_off c).symm
  · obtain ⟨a5, a6, a7⟩ := h q hq
    rw [jpI_ne n45, jpI_ne n56.symm]
    refine ⟨a5, ?_, a7⟩
    by_cases c : q = p
    · rw [c, jpI_at]; exact updF_at.symm
    · rw [jpI_off c]; exact a6.trans (updF_off c).symm
  · obtain ⟨a5, a6, a7⟩ := h q hq
    rw [jpI_ne n46, jpI_ne n56]
    refine ⟨a5, a6, ?_⟩
    by_cases c : q = p
    · rw [c, jpI_at]; exact updF_at.symm
    · rw [jpI_off c]; exact a7.trans (updF_off c).symm
theorem s_isMove2 {L : jL} {Z : jZ} {I : jI} {v0 t1 t2 t3 t4 t5 t6 t9 t10 t11 t12 t13 t29 t30 uX0 uX1 : Nat} {s0 s1 : Int} {D : DAT} {a : Nat → Int32} (X : RFM Z I v0 t1 t2 t3 t4 t5 t6 t9 t10 t11 t12 t13 t29 t30 uX0 uX1 s0 s1 D a) (v1 x v2 : Int32) (p : Nat) (hp : p < dP D) (e1 : v1.toInt = (p : Int)) (rx : -1 ≤ x.toInt ∧ x.toInt ≤ 23) (r2 : 0 ≤ v2.toInt ∧ v2.toInt ≤ 23) {Q : Int32 → jI → jL → Prop} (hQ : ∀ r : Int32, ((r.toInt = 1 ∧ x.toInt < v2.toInt ∧ v2.toInt - x.toInt ≤ (dLp D p : Int)) ∨ (r.toInt = 0 ∧ ¬ (x.toInt < v2.toInt ∧ v2.toInt - x.toInt ≤ (dLp D p : Int)))) → Q r I L) : f_X12_isMove v0 v1 x v2 Z I L Q := by
  have p6 := X.dok.2.1
  have z1 : (1 : Int32).toInt = 1 := rfl
  have n1 : v1.toNatClampNeg = p := by have := i_nat e1 (by omega); omega
  have es : (v2 - x).toInt = v2.toInt - x.toInt := i_sub rfl rfl (by omega) (by omega)
  unfold f_X12_isMove
  intro b hb; cases X.h11.symm.trans hb
  refine ⟨vi_of e1 (by omega) (by omega), ?_⟩
  rw [n1]
  refine s_X12_in X.w _ _ _ (fun r hr => hQ r ?_)
  rw [es, (X.pil p hp).2.2.1, z1] at hr
  omega
/-- the effort of a move -/
theorem r_effort {B : Nat × Nat} {T : Nat} {L : jL} {Z : jZ} {I : jI} {v0 t1 t2 t3 t4 t5 t6 t9 t10 t11 t12 t13 t29 t30 uX0 uX1 : Nat} {s0 s1 : Int} {D : DAT} {a : Nat → Int32} (X : RFM Z I v0 t1 t2 t3 t4 t5 t6 t9 t10 t11 t12 t13 t29 t30 uX0 uX1 s0 s1 D a) (ok : aOK a) (p : Nat) (hp : p < dP D) (v1 v2 v3 : Int32) (e1 : v1.toInt = (p : Int)) (hf : -1 ≤ v2.toInt) (hft : v2.toInt < v3.toInt) (ht : v3.toInt < (dN D : Int)) (h3 : v3.toInt - v2.toInt ≤ 3) {Q : Int32 → jI → jL → Prop} (hQ : ∀ r : Int32, r.toInt = EFT (Hn (dR D) (dN D)) (Hn (dS D) (dN D)) v2.toInt v3.toInt (dLd D p) → Q r I L) (bd : BUD B Z T) : f_X12_effortOf v0 v1 v2 v3 Z I L Q := by
  have n24 := X.dok.1
  have z1 : (1 : Int32).toInt = 1 := rfl
  have w := X.w
  have kv := X.S.1
  obtain ⟨t37, h37, -⟩ := sh_f w.1 kv (j := 37) (k := 14) (m := 75) rfl
  obtain ⟨t38, h38, -⟩ := sh_f w.1 kv (j := 38) (k := 14) (m := 75) rfl
  have S := X.smd (B := B) (T := T) ok p hp t37 t38 h37 h38
  unfold f_X12_effortOf
  intro x10 e10
  exact ⟨(v3.toInt - v2.toInt).toNat + 1, c_meffort_L8 S FR.rf v1 v2 v3 v2.toInt v3.toInt e1 rfl rfl hf hft ht h3 hQ (v3.toInt - v2.toInt).toNat _ 0 x10 0 (v2.toInt + 1) (Nat.le_refl _) rfl (by rw [e10]; exact i_add rfl z1 (by omega) (by omega)) (Int.le_refl _) (by omega) (by omega) (Int.zero_add _)⟩
theorem r_cost {B : Nat × Nat} {T : Nat} {L : jL} {Z : jZ} {I : jI} {v0 t1 t2 t3 t4 t5 t6 t9 t10 t11 t12 t13 t29 t30 uX0 uX1 : Nat} {s0 s1 : Int} {D : DAT} {a : Nat → Int32} (X : RFM Z I v0 t1 t2 t3 t4 t5 t6 t9 t10 t11 t12 t13 t29 t30 uX0 uX1 s0 s1 D a) (ok : aOK a) (bd : BUD B Z T) (p : Nat) (hp : p < dP D) (v1 v2 v3 : Int32) (e1 : v1.toInt = (p : Int)) (hf : -1 ≤ v2.toInt) (hft : v2.toInt < v3.toInt) (ht : v3.toInt < (dN D : Int)) (h3 : v3.toInt - v2.toInt ≤ 3) {Q : Int32 → jZ → jI → jL → Prop} (hQ : ∀ (r : Int32) (Z' : jZ) (I' : jI) (L' : jL), WD Z' I' → BUD B Z' T → FR Ws_X12_lawOf Z I Z' I' → CP Z Z' → r.toInt = CST (PRa D a) v2.toInt v3.toInt (dLd D p) → Q r Z' I' L') : f_X12_costOf B v0 v1 v2 v3 Z I L Q := by
  have w := X.w
  have kv := X.S.1
  obtain ⟨t37, h37, -⟩ := sh_f w.1 kv (j := 37) (k := 14) (m := 75) rfl
  obtain ⟨t38, h38, -⟩ := sh_f w.1 kv (j := 38) (k := 14) (m := 75) rfl
  exact r_X12_costOf_f (X.smd (B := B) (T := T) ok p hp t37 t38 h37 h38) w bd FR.rf v1 v2 v3 v2.toInt v3.toInt e1 rfl rfl hf hft ht h3 hQ
set_option maxHeartbeats 4000000 in
theorem r_X12_costs {B : Nat × Nat} {T : Nat} {L : jL} {Z : jZ} {I : jI} {v0 t1 t2 t3 t4 t5 t6 t9 t10 t11 t12 t13 t29 t30 uX0 uX1 : Nat} {s0 s1 : Int} {D : DAT} {a : Nat → Int32} (X : RFM Z I v0 t1 t2 t3 t4 t5 t6 t9 t10 t11 t12 t13 t29 t30 uX0 uX1 s0 s1 D a) (ok : aOK a) (bd : BUD B Z T) (P : (Nat → Int32) × (Nat → Int32) × (Nat → Int32)) (t14 t15 t16 : Nat) (hr : RPr Z v0 t14 t15 t16) (hP : RPL I t14 t15 t16 (dP D) P) (ha : AOK D P.1) (v1 v2 : Int32) {Q : Int32 → jZ → jI → jL → Prop}
    (hQ : ∀ (r : Int32) (Z' : jZ) (I' : jI) (L' : jL), COd D a P.1 v1 v2 r.toInt → WD Z' I' → BUD B Z' T → FR Ws_X12_costs Z I Z' I' → CP Z Z' → Q r Z' I' L') : f_X12_costs B v0 v1 v2 Z I L Q := by
  have z0 : (0 : Int32).toInt = 0 := rfl
  have w := X.w
  have kv := X.S.1
  have d := X.dok
  have p6 := d.2.1
  have n24 := d.1
  unfold f_X12_costs
  intro I1 e1
  have w1 : WD Z I1 := by rw [e1]; exact WD_putF w 12 22 kv (by decide) (by decide) trivial
  have f1 : FR [(12, 22)] Z I Z I1 := by rw [e1]; exact FR_putF kv (by decide) List.mem_cons_self
  have X1 := X.fr w1 f1 (by decide) (by decide)
  have P1 := RPL_fr f1 kv hr (by decide) (by decide) (by decide) hP
  have hp8 := X1.hp
  have hn0 := X1.hn
  have bad : ¬ (inQ D v1 ∧ stp D v2) → Q (-1 : Int32) Z I1 L := fun n => hQ _ Z I1 L (Or.inl ⟨n, rfl⟩) w1 bd (f1.mono (by decide)) CP.rf
  refine s_X12_isOne w1 v0 v1 kv (fun r hr1 => ⟨fun c => bad (fun q => ?_), fun c => ?_⟩)
  · have c := (i_eq rfl z0).mp c
    have := q.1
    unfold inQ at this
    omega
  have c := (not_congr (i_eq rfl z0)).mp c
  obtain ⟨p, ev⟩ : ∃ p : Nat, v1.toInt = (p : Int) := ⟨v1.toInt.toNat, by omega⟩
  have hp : p < dP D := by omega
  have ep : v1.toInt.toNat = p := by omega
  have n1 : v1.toNatClampNeg = p := by have := i_nat ev (by omega); omega
  have inq : inQ D v1 := by unfold inQ; omega
  have vi : vp_in v1 6 := vi_of ev (by omega) (by omega)
  have ra := ha p hp
  obtain ⟨l3, rl, -, -⟩ := d.2.2.2.2 p hp
  refine s_X12_isStep w1 v0 v2 kv (fun r2 hr2 => ⟨fun c2 => ?_, fun c2 => bad (fun q => ?_)⟩)
  · have c2 := (not_congr (i_eq rfl z0)).mp c2
    have hs : stp D v2 := by unfold stp; omega
    have hs' := hs
    unfold stp at hs'
    intro b hb; cases hr.1.symm.trans hb
    refine ⟨vi, ?_⟩
    rw [n1, (P1 p hp).1]
    refine s_isMove2 X1 v1 (P.1 p) v2 p hp ev (by omega) (by omega) (fun r3 hr3 => ⟨fun c3 => ?_, fun c3 => ?_⟩)
    · have c3 := (not_congr (i_eq rfl z0)).mp c3
      have hm : MOV D P.1 v1.toInt.toNat v2 := by unfold MOV; rw [ep]; omega
      have hm' : (P.1 p).toInt < v2.toInt ∧ v2.toInt - (P.1 p).toInt ≤ (dLp D p : Int) := by omega
      intro I2 e2
      have w2 : WD Z I2 := by rw [e2]; exact WD_putF w1 12 21 kv (by decide) (by decide) (by first | exact trivial | (constructor <;> decide))
      have f2 : FR [(12, 21)] Z I1 Z I2 := by rw [e2]; exact FR_putF kv (by decide) List.mem_cons_self
      have X2 := X1.fr w2 f2 (by decide) (by decide)
      have P2 := RPL_fr f2 kv hr (by decide) (by decide) (by decide) P1
      have e21 : (I2 v0 21).toInt = 0 := by rw [e2, jpI_at]; rfl
      intro b hb; cases hr.1.symm.trans hb
      refine ⟨vi, ?_⟩
      rw [(P2 p hp).1]
      refine r_effort X2 ok p hp v1 (P.1 p) v2 ev (by omega) (by omega) (by omega) (by omega) (fun r4 _ => ?_) bd
      refine s_X12_tell w2 v0 _ kv (by omega) (fun I3 L3 w3 f3 e3 => ?_)
      have X3 := X2.fr w3 f3 (by decide) (by decide)
      have P3 := RPL_fr f3 kv hr (by decide) (by decide) (by decide) P2
      intro b hb; cases hr.1.symm.trans hb
      refine ⟨vi, s_X12_tell w3 v0 _ kv (by omega) (fun I4 L4 w4 f4 e4 => ?_)⟩
      have X4 := X3.fr w4 f4 (by decide) (by decide)
      have P4 := RPL_fr f4 kv hr (by decide) (by decide) (by decide) P3
      intro b hb; cases hr.1.symm.trans hb
      refine ⟨vi, ?_⟩
      rw [(P4 p hp).1]
      refine r_cost X4 ok bd p hp v1 (P.1 p) v2 ev (by omega) (by omega) (by omega) (by omega) (fun r5 Z5 I5 L5 w5 bd5 f5 cp5 er => ?_)
      exact hQ r5 Z5 I5 L5 (Or.inr ⟨⟨inq, hs⟩, Or.inr ⟨hm, by rw [ep]; exact er⟩⟩) w5 bd5 (((((f1.mono (by decide)).trans w.1 w.2.1 (f2.mono (by decide))).trans w.1 w.2.1 (f3.mono (by decide))).trans w.1 w.2.1 (f4.mono (by decide))).trans w.1 w.2.1 (f5.mono (by decide))) cp5
    · have c3 := (i_eq rfl z0).mp c3
      refine hQ _ Z I1 L (Or.inr ⟨⟨inq, hs⟩, Or.inl ⟨?_, rfl⟩⟩) w1 bd (f1.mono (by decide)) CP.rf
      unfold MOV
      rw [ep]
      omega
  · have c2 := (i_eq rfl z0).mp c2
    have := q.2
    unfold stp at this
    omega
theorem r_X12_returns {L : jL} {Z : jZ} {I : jI} {v0 t1 t2 t3 t4 t5 t6 t9 t10 t11 t12 t13 t29 t30 uX0 uX1 : Nat} {s0 s1 : Int} {D : DAT} {a : Nat → Int32} (X : RFM Z I v0 t1 t2 t3 t4 t5 t6 t9 t10 t11 t12 t13 t29 t30 uX0 uX1 s0 s1 D a) (P : (Nat → Int32) × (Nat → Int32) × (Nat → Int32)) (t14 t15 t16 : Nat) (hr : RPr Z v0 t14 t15 t16) (hP : RPL I t14 t15 t16 (dP D) P) (kt : Nat → Int32) (hk : ∀ p, p < dP D → I t9 p = kt p) (v1 : Int32) {Q : Int32 → jI → jL → Prop}
    (hQ : ∀ (r : Int32) (I' : jI) (L' : jL) (P' : (Nat → Int32) × (Nat → Int32) × (Nat → Int32)), REd D kt P v1 r.toInt P' → RPL I' t14 t15 t16 (dP D) P' → WD Z I' → FR Ws_X12_returns Z I Z I' → Q r I' L') : f_X12_returns v0 v1 Z I L Q := by
  have z0 : (0 : Int32).toInt = 0 := rfl
  have w := X.w
  have kv := X.S.1
  have d := X.dok
  have p6 := d.2.1
  obtain ⟨x, ex, k9, -⟩ := sh_f w.1 kv (j := 9) (k := 14) (m := 6) rfl
  cases X.h9.symm.trans ex
  unfold f_X12_returns
  intro I1 e1
  have w1 : WD Z I1 := by rw [e1]; exact WD_putF w 12 22 kv (by decide) (by decide) trivial
  have f1 : FR Ws_X12_returns Z I Z I1 := by rw [e1]; exact FR_putF kv (by decide) (by decide)
  have f1' : FR [(12, 22)] Z I Z I1 := by rw [e1]; exact FR_putF kv (by decide) List.mem_cons_self
  have X1 := X.fr w1 f1' (by decide) (by decide)
  have P1 := RPL_fr f1' kv hr (by decide) (by decide) (by decide) hP
  have hp8 := X1.hp
  have a9 : I1 t9 = I t9 := f1'.2.2.2 v0 12 9 t9 kv X.h9 (by rw [k9.2]; rfl) rfl (by decide)
  refine s_X12_isOne w1 v0 v1 kv (fun r hr1 => ⟨fun c => ?_, fun c => hQ _ I1 L P (Or.inl ⟨?_, rfl, rfl⟩) P1 w1 f1⟩)
  · have c := (not_congr (i_eq rfl z0)).mp c
    obtain ⟨p, ev⟩ : ∃ p : Nat, v1.toInt = (p : Int) := ⟨v1.toInt.toNat, by omega⟩
    have hp : p < dP D := by omega
    have ep : v1.toInt.toNat = p := by omega
    have n1 : v1.toNatClampNeg = p := by have := i_nat ev (by omega); omega
    have vi : vp_in v1 6 := vi_of ev (by omega) (by omega)
    intro b hb; cases hr.1.symm.trans hb
    refine ⟨vi, fun x12 e12 => ?_⟩
    intro b hb; cases hr.1.symm.trans hb
    refine ⟨vi, fun I2 e2 => ?_⟩
    rw [n1] at e2 e12
    have w2 : WD Z I2 := by rw [e2]; exact WD_putA w1 12 14 kv hr.1 hr.2.1 rfl rfl (by decide) (by constructor <;> decide)
    have f2 : FR Ws_X12_returns Z I1 Z I2 := by rw [e2]; exact FR_upA w1.2.1 kv hr.1 hr.2.1 rfl rfl (by decide)
    have P2 := (RPL_put w1 kv hr P1 p (-1)).1
    rw [← e2] at P2
    intro b hb; cases hr.2.2.1.symm.trans hb
    intro b hb; cases X.h9.symm.trans hb
    refine ⟨vi, vi, fun I3 e3 => ?_⟩
    rw [n1] at e3
    have n914 := m12_ne w kv X.h9 hr.1 (by decide) (by decide) (by decide)
    have h9 : I2 t9 p = kt p := by rw [e2, jpI_ne n914, a9]; exact hk p hp
    rw [h9] at e3
    have w3 : WD Z I3 := by rw [e3]; exact WD_putA w2 12 15 kv hr.2.2.1 hr.2.2.2.1 rfl rfl (by decide) trivial
    have f3 : FR Ws_X12_returns Z I2 Z I3 := by rw [e3]; exact FR_upA w2.2.1 kv hr.2.2.1 hr.2.2.2.1 rfl rfl (by decide)
    have P3 := (RPL_put w2 kv hr P2 p (kt p)).2.1
    rw [← e3] at P3
    exact hQ x12 I3 L _ (Or.inr ⟨by unfold inQ; omega, by rw [e12, (P1 p hp).1, ep], by rw [ep]⟩) P3 w3 ((f1.trans w.1 w.2.1 f2).trans w.1 w.2.1 f3)
  · have c := (i_eq rfl z0).mp c
    unfold inQ
    omega
/-! ===== the reference: tread, rests ===== -/
set_option maxHeartbeats 4000000 in
theorem tr_L121 {B : Nat × Nat} {T : Nat} {Z0 : jZ} {I0 : jI} (w0 : WD Z0 I0) {v0 t1 t2 t3 t4 t5 t6 t9 t10 t11 t12 t13 t29 t30 uX0 uX1 : Nat} {s0 s1 : Int} {D : DAT} {a : Nat → Int32} (d : DOK D) (t14 t15 t16 : Nat) (P : (Nat → Int32) × (Nat → Int32) × (Nat → Int32)) (p : Nat) (hp : p < dP D) (v1 v2 v3 v4 v5 v6 : Int32) (e1 : v1.toInt = (p : Int)) (r3 : -1 ≤ v3.toInt ∧ v3.toInt < v2.toInt) (h2 : v2.toInt < (dN D : Int)) {Q : Int32 → jZ → jI → jL → Prop}
    (hQ : ∀ (Z' : jZ) (I' : jI) (L' : jL), RPL I' t14 t15 t16 (dP D) (updF P.1 p v2, updF P.2.1 p (P.2.1 p - v4), updF P.2.2 p (P.2.2 p - v5)) → WD Z' I' → BUD B Z' T → FR Ws_X12_tread Z0 I0 Z' I' → CP Z0 Z' → Q v5 Z' I' L') :
    ∀ (k s : Nat) (v7 : Int32) (Z : jZ) (I : jI) (L : jL), v2.toInt + 2 ≤ (k : Int) + (s : Int) → (s : Int) ≤ v2.toInt + 1 → v7.toInt = (s : Int) → v3.toInt < (s : Int) → RFM Z I v0 t1 t2 t3 t4 t5 t6 t9 t10 t11 t12 t13 t29 t30 uX0 uX1 s0 s1 D a → RPr Z v0 t14 t15 t16 → RPL I t14 t15 t16 (dP D) P → BUD B Z T → FR Ws_X12_tread Z0 I0 Z I → CP Z0 Z → f_X12_tread_L121 B Q k v0 v1 v2 v3 v4 v5 v6 v7 Z I L := by
  have z1 : (1 : Int32).toInt = 1 := rfl
  have n24 := d.1
  have p6 := d.2.1
  have n1 : v1.toNatClampNeg = p := by have := i_nat e1 (by omega); omega
  have vi : vp_in v1 6 := vi_of e1 (by omega) (by omega)
  intro k
  induction k with
  | zero => intro s v7 Z I L hk hi; omega
  | succ k ih =>
    intro s v7 Z I L hk hi e7 h3 X hr hP bd f0 cp0
    have w := X.w
    have kv := X.S.1
    unfold f_X12_tread_L121
    refine ⟨fun c => ?_, fun c => ?_⟩
    · intro b hb; cases hr.2.2.1.symm.trans hb
      refine ⟨vi, vi, fun I3 e3 => ?_⟩
      rw [n1, (hP p hp).2.1] at e3
      have w3 : WD Z I3 := by rw [e3]; exact WD_putA w 12 15 kv hr.2.2.1 hr.2.2.2.1 rfl rfl (by decide) trivial
      have f3 : FR Ws_X12_tread Z I Z I3 := by rw [e3]; exact FR_upA w.2.1 kv hr.2.2.1 hr.2.2.2.1 rfl rfl (by decide)
      have P3 := (RPL_put w kv hr hP p (P.2.1 p - v4)).2.1
      rw [← e3] at P3
      intro b hb; cases hr.2.2.2.2.1.symm.trans hb
      refine ⟨vi, vi, fun I4 e4 => ?_⟩
      rw [n1, (P3 p hp).2.2] at e4
      have w4 : WD Z I4 := by rw [e4]; exact WD_putA w3 12 16 kv hr.2.2.2.2.1 hr.2.2.2.2.2 rfl rfl (by decide) trivial
      have f4 : FR Ws_X12_tread Z I3 Z I4 := by rw [e4]; exact FR_upA w3.2.1 kv hr.2.2.2.2.1 hr.2.2.2.2.2 rfl rfl (by decide)
      have P4 := (RPL_put w3 kv hr P3 p (P.2.2 p - v5)).2.2
      rw [← e4] at P4
      intro b hb; cases hr.1.symm.trans hb
      refine ⟨vi, fun I5 e5 => ?_⟩
      rw [n1] at e5
      have w5 : WD Z I5 := by rw [e5]; exact WD_putA w4 12 14 kv hr.1 hr.2.1 rfl rfl (by decide) (by constructor <;> omega)
      have f5 : FR Ws_X12_tread Z I4 Z I5 := by rw [e5]; exact FR_upA w4.2.1 kv hr.1 hr.2.1 rfl rfl (by decide)
      have P5 := (RPL_put w4 kv hr P4 p v2).1
      rw [← e5] at P5
      exact hQ Z I5 L P5 w5 bd (((f0.trans w0.1 w0.2.1 f3).trans w0.1 w0.2.1 f4).trans w0.1 w0.2.1 f5) cp0
    · have c := (not_congr (i_lt rfl e7)).mp c
      have go : ∀ s3 : Int32, (0 ≤ s3.toInt ∧ s3.toInt ≤ 1) → f_X12_tread_b142 B (f_X12_tread_L121 B Q k) Q v0 v1 v2 v3 v4 v5 v6 v7 v0 v7 v0 s3 Z I L := fun s3 hs3 => by
        unfold f_X12_tread_b142
        intro b hb; cases X.h12.symm.trans hb
        refine ⟨vi, s_X12_lawOf w bd v0 s3 v7 v3 _ v6 kv (by omega) (fun r Z4 I4 L4 w4 bd4 f4 cp4 _ => ?_)⟩
        have X4 := X.fr w4 f4 (by decide) (by decide)
        have kv4 := X4.S.1
        refine s_X12_earn w4 v0 v7 r 1 kv4 (by omega) (fun I5 L5 w5 f5 => ?_)
        intro x ex
        exact ih (s + 1) x Z4 I5 L5 (by omega) (by omega) (by rw [ex]; exact (i_add e7 z1 (by omega) (by omega)).trans (by omega)) (by omega) (X4.fr w5 f5 (by decide) (by decide)) (RPr_x f5 kv4 (RPr_x f4 kv hr)) (RPL_fr f5 kv4 (RPr_x f4 kv hr) (by decide) (by decide) (by decide) (RPL_fr f4 kv hr (by decide) (by decide) (by decide) hP)) bd4 ((f0.trans w0.1 w0.2.1 (f4.mono (by decide))).trans w0.1 w0.2.1 (f5.mono (by decide))) (CP.trans f0.1 cp0 cp4)
      exact ⟨fun _ => go 1 (by decide), fun _ => go 0 (by decide)⟩
set_option maxHeartbeats 4000000 in
theorem r_X12_tread {B : Nat × Nat} {T : Nat} {L : jL} {Z : jZ} {I : jI} {v0 t1 t2 t3 t4 t5 t6 t9 t10 t11 t12 t13 t29 t30 uX0 uX1 : Nat} {s0 s1 : Int} {D : DAT} {a : Nat → Int32} (X : RFM Z I v0 t1 t2 t3 t4 t5 t6 t9 t10 t11 t12 t13 t29 t30 uX0 uX1 s0 s1 D a) (ok : aOK a) (bd : BUD B Z T) (P : (Nat → Int32) × (Nat → Int32) × (Nat → Int32)) (t14 t15 t16 : Nat) (hr : RPr Z v0 t14 t15 t16) (hP : RPL I t14 t15 t16 (dP D) P) (ha : AOK D P.1) (v1 v2 : Int32) {Q : Int32 → jZ → jI → jL → Prop}
    (hQ : ∀ (r : Int32) (Z' : jZ) (I' : jI) (L' : jL) (P' : (Nat → Int32) × (Nat → Int32) × (Nat → Int32)), TRd D a P v1 v2 r.toInt P' → RPL I' t14 t15 t16 (dP D) P' → WD Z' I' → BUD B Z' T → FR Ws_X12_tread Z I Z' I' → CP Z Z' → Q r Z' I' L') : f_X12_tread B v0 v1 v2 Z I L Q := by
  have z0 : (0 : Int32).toInt = 0 := rfl
  have z1 : (1 : Int32).toInt = 1 := rfl
  have w := X.w
  have kv := X.S.1
  have d := X.dok
  have p6 := d.2.1
  have n24 := d.1
  unfold f_X12_tread
  intro I1 e1
  have w1 : WD Z I1 := by rw [e1]; exact WD_putF w 12 22 kv (by decide) (by decide) trivial
  have f1 : FR [(12, 22)] Z I Z I1 := by rw [e1]; exact FR_putF kv (by decide) List.mem_cons_self
  have X1 := X.fr w1 f1 (by decide) (by decide)
  have P1 := RPL_fr f1 kv hr (by decide) (by decide) (by decide) hP
  have f1' : FR Ws_X12_tread Z I Z I1 := f1.mono (by decide)
  have hp8 := X1.hp
  have hn0 := X1.hn
  have bad : ¬ (inQ D v1 ∧ stp D v2) → Q (-1 : Int32) Z I1 L := fun n => hQ _ Z I1 L P (Or.inl ⟨n, rfl, rfl⟩) P1 w1 bd f1' CP.rf
  refine s_X12_isOne w1 v0 v1 kv (fun r hr1 => ⟨fun c => bad (fun q => ?_), fun c => ?_⟩)
  · have c := (i_eq rfl z0).mp c
    have := q.1
    unfold inQ at this
    omega
  have c := (not_congr (i_eq rfl z0)).mp c
  obtain ⟨p, ev⟩ : ∃ p : Nat, v1.toInt = (p : Int) := ⟨v1.toInt.toNat, by omega⟩
  have hp : p < dP D := by omega
  have ep : v1.toInt.toNat = p := by omega
  have n1 : v1.toNatClampNeg = p := by have := i_nat ev (by omega); omega
  have inq : inQ D v1 := by unfold inQ; omega
  have vi : vp_in v1 6 := vi_of ev (by omega) (by omega)
  have ra := ha p hp
  obtain ⟨l3, rl, -, -⟩ := d.2.2.2.2 p hp
  refine s_X12_isStep w1 v0 v2 kv (fun r2 hr2 => ⟨fun c2 => ?_, fun c2 => bad (fun q => ?_)⟩)
  · have c2 := (not_congr (i_eq rfl z0)).mp c2
    have hs : stp D v2 := by unfold stp; omega
    have hs' := hs
    unfold stp at hs'
    have es : v2.toInt = ((v2.toInt.toNat : Nat) : Int) := by omega
    intro b hb; cases hr.1.symm.trans hb
    refine ⟨vi, fun x51 e51 => ?_⟩
    rw [n1, (P1 p hp).1] at e51
    subst e51
    refine s_isMove2 X1 v1 (P.1 p) v2 p hp ev (by omega) (by omega) (fun r3 hr3 => ⟨fun c3 => ?_, fun c3 => ?_⟩)
    · have c3 := (not_congr (i_eq rfl z0)).mp c3
      have hm : MOV D P.1 v1.toInt.toNat v2 := by unfold MOV; rw [ep]; omega
      have hm' : (P.1 p).toInt < v2.toInt ∧ v2.toInt - (P.1 p).toInt ≤ (dLp D p : Int) := by omega
      refine r_effort X1 ok p hp v1 (P.1 p) v2 ev (by omega) (by omega) (by omega) (by omega) (fun e er => ?_) bd
      have er' : e.toInt = EFT (Hn (dR D) (dN D)) (Hn (dS D) (dN D)) (P.1 v1.toInt.toNat).toInt v2.toInt (dLd D v1.toInt.toNat) := by rw [ep]; exact er
      refine r_cost X1 ok bd p hp v1 (P.1 p) v2 ev (by omega) (by omega) (by omega) (by omega) (fun c Z4 I4 L4 w4 bd4 f4 cp4 ec => ?_)
      have ec' : c.toInt = CST (PRa D a) (P.1 v1.toInt.toNat).toInt v2.toInt (dLd D v1.toInt.toNat) := by rw [ep]; exact ec
      have X4 := X1.fr w4 f4 (by decide) (by decide)
      have kv4 := X4.S.1
      have hr4 := RPr_x f4 kv hr
      have P4 := RPL_fr f4 kv hr (by decide) (by decide) (by decide) P1
      have f04 : FR Ws_X12_tread Z I Z4 I4 := f1'.trans w.1 w.2.1 (f4.mono (by decide))
      intro b hb; cases X4.h13.symm.trans hb
      refine ⟨vi, ?_⟩
      refine X4.mnm v2 v2.toInt.toNat Z4 I4 L4 _ w4 FR.rf es (by omega) ?_
      rw [n1, (X4.pil p hp).2.2.2.2]
      unfold f_X12_has
      refine ⟨fun cv => ⟨fun _ => ?_, fun q => absurd rfl q⟩, fun cv => ⟨fun q => absurd q (by decide), fun _ => ?_⟩⟩
      · have nv : ¬ VOWd D v1.toInt.toNat v2.toInt.toNat := by
          unfold VOWd
          rw [ep]
          exact fun q => cv (i_has.mpr q)
        intro b hb; cases hr4.2.2.1.symm.trans hb
        rw [(P4 p hp).2.1]
        refine ⟨vi, fun c5 => ?_, fun c5 => ?_⟩
        · have c5 := (i_le rfl rfl).mp c5
          intro b hb; cases hr4.2.2.2.2.1.symm.trans hb
          rw [(P4 p hp).2.2]
          refine ⟨vi, fun c6 => ?_, fun c6 => ?_⟩
          · have c6 := (i_le rfl rfl).mp c6
            intro x98 e98 x99 e99
            have t99 : x99.toInt = (((P.1 p).toInt + 1).toNat : Int) := by rw [e99]; exact (i_add rfl z1 (by omega) (by omega)).trans (by omega)
            refine ⟨26, tr_L121 w d t14 t15 t16 P p hp v1 v2 (P.1 p) e c x98 ev (by omega) (by omega) (fun Z' I' L' P' w' bd' f' cp' => ?_) 26 ((P.1 p).toInt + 1).toNat x99 Z4 I4 L4 (by omega) (by omega) t99 (by omega) X4 hr4 P4 bd4 f04 cp4⟩
            refine hQ c Z' I' L' _ (Or.inr ⟨⟨inq, hs⟩, Or.inr ⟨hm, Or.inr ⟨nv, e, c, er', ec', Or.inr ⟨by rw [ep]; exact c5, Or.inr ⟨by rw [ep]; exact c6, rfl, rfl⟩⟩⟩⟩⟩) ?_ w' bd' f' cp'
            rw [ep]
            exact P'
          · have c6 := (not_congr (i_le rfl rfl)).mp c6
            exact hQ _ Z4 I4 L4 P (Or.inr ⟨⟨inq, hs⟩, Or.inr ⟨hm, Or.inr ⟨nv, e, c, er', ec', Or.inr ⟨by rw [ep]; exact c5, Or.inl ⟨by rw [ep]; exact c6, rfl, rfl⟩⟩⟩⟩⟩) P4 w4 bd4 f04 cp4
        · have c5 := (not_congr (i_le rfl rfl)).mp c5
          exact hQ _ Z4 I4 L4 P (Or.inr ⟨⟨inq, hs⟩, Or.inr ⟨hm, Or.inr ⟨nv, e, c, er', ec', Or.inl ⟨by rw [ep]; exact c5, rfl, rfl⟩⟩⟩⟩) P4 w4 bd4 f04 cp4
      · have yv : VOWd D v1.toInt.toNat v2.toInt.toNat := by
          unfold VOWd
          rw [ep]
          exact i_has.mp cv
        exact hQ _ Z4 I4 L4 P (Or.inr ⟨⟨inq, hs⟩, Or.inr ⟨hm, Or.inl ⟨yv, rfl, rfl⟩⟩⟩) P4 w4 bd4 f04 cp4
    · have c3 := (i_eq rfl z0).mp c3
      refine hQ _ Z I1 L P (Or.inr ⟨⟨inq, hs⟩, Or.inl ⟨?_, rfl, rfl⟩⟩) P1 w1 bd f1' CP.rf
      unfold MOV
      rw [ep]
      omega
  · have c2 := (i_eq rfl z0).mp c2
    have := q.2
    unfold stp at this
    omega
set_option maxHeartbeats 4000000 in
theorem r_X12_rests {B : Nat × Nat} {T : Nat} {L : jL} {Z : jZ} {I : jI} {v0 t1 t2 t3 t4 t5 t6 t9 t10 t11 t12 t13 t29 t30 uX0 uX1 : Nat} {s0 s1 : Int} {D : DAT} {a : Nat → Int32} (X : RFM Z I v0 t1 t2 t3 t4 t5 t6 t9 t10 t11 t12 t13 t29 t30 uX0 uX1 s0 s1 D a) (ok : aOK a) (bd : BUD B Z T) (P : (Nat → Int32) × (Nat → Int32) × (Nat → Int32)) (t14 t15 t16 : Nat) (hr : RPr Z v0 t14 t15 t16) (hP : RPL I t14 t15 t16 (dP D) P) (ha : AOK D P.1) (kt : Nat → Int32) (hk : ∀ p, p < dP D → I t9 p = kt p) (v1 v2 : Int32) {Q : Int32 → jZ → jI → jL → Prop}
    (hQ : ∀ (r : Int32) (Z' : jZ) (I' : jI) (L' : jL) (P' : (Nat → Int32) × (Nat → Int32) × (Nat → Int32)), RSQd D a kt P v1 v2 r.toInt P' → RPL I' t14 t15 t16 (dP D) P' → WD Z' I' → BUD B Z' T → FR Ws_X12_rests Z I Z' I' → CP Z Z' → Q r Z' I' L') : f_X12_rests B v0 v1 v2 Z I L Q := by
  have z0 : (0 : Int32).toInt = 0 := rfl
  have z1 : (1 : Int32).toInt = 1 := rfl
  have z30 : (30 : Int32).toInt = 30 := rfl
  have zm : (-1 : Int32).toInt = -1 := by decide
  have w := X.w
  have kv := X.S.1
  have d := X.dok
  have p6 := d.2.1
  have n24 := d.1
  obtain ⟨x, ex, k9, -⟩ := sh_f w.1 kv (j := 9) (k := 14) (m := 6) rfl
  cases X.h9.symm.trans ex
  unfold f_X12_rests
  intro I1 e1
  have w1 : WD Z I1 := by rw [e1]; exact WD_putF w 12 22 kv (by decide) (by decide) trivial
  have f1 : FR [(12, 22)] Z I Z I1 := by rw [e1]; exact FR_putF kv (by decide) List.mem_cons_self
  have X1 := X.fr w1 f1 (by decide) (by decide)
  have P1 := RPL_fr f1 kv hr (by decide) (by decide) (by decide) hP
  have f1' : FR Ws_X12_rests Z I Z I1 := f1.mono (by decide)
  have hp8 := X1.hp
  have hn0 := X1.hn
  have a9 : I1 t9 = I t9 := f1.2.2.2 v0 12 9 t9 kv X.h9 (by rw [k9.2]; rfl) rfl (by decide)
  have bad : ¬ (inQ D v1 ∧ 1 ≤ v2.toInt ∧ v2.toInt ≤ 30) → Q (-1 : Int32) Z I1 L := fun n => hQ _ Z I1 L P (Or.inl ⟨n, rfl, rfl⟩) P1 w1 bd f1' CP.rf
  refine s_X12_isOne w1 v0 v1 kv (fun r hr1 => ⟨fun c => bad (fun q => ?_), fun c => ?_⟩)
  · have c := (i_eq rfl z0).mp c
    have := q.1
    unfold inQ at this
    omega
  have c := (not_congr (i_eq rfl z0)).mp c
  obtain ⟨p, ev⟩ : ∃ p : Nat, v1.toInt = (p : Int) := ⟨v1.toInt.toNat, by omega⟩
  have hp : p < dP D := by omega
  have ep : v1.toInt.toNat = p := by omega
  have n1 : v1.toNatClampNeg = p := by have := i_nat ev (by omega); omega
  have inq : inQ D v1 := by unfold inQ; omega
  have vi : vp_in v1 6 := vi_of ev (by omega) (by omega)
  have ra := ha p hp
  obtain ⟨l3, rl, -, -⟩ := d.2.2.2.2 p hp
  refine s_X12_in w1 v2 1 30 (fun r2 hr2 => ⟨fun c2 => ?_, fun c2 => bad (fun q => ?_)⟩)
  · have c2 := (not_congr (i_eq rfl z0)).mp c2
    have hin : inQ D v1 ∧ 1 ≤ v2.toInt ∧ v2.toInt ≤ 30 := ⟨inq, by omega, by omega⟩
    intro b hb; cases hr.1.symm.trans hb
    refine ⟨vi, fun x41 e41 => ?_⟩
    rw [n1, (P1 p hp).1] at e41
    subst e41
    have go : ∀ (c : Int32) (Z3 : jZ) (I3 : jI) (L3 : jL), WD Z3 I3 → BUD B Z3 T → FR Ws_X12_lawOf Z I1 Z3 I3 → CP Z Z3 → c.toInt = pyR D a v1.toInt.toNat (P.1 v1.toInt.toNat) → f_X12_rests_b55 B Q v0 v1 v2 (P.1 p) c Z3 I3 L3 := fun c Z3 I3 L3 w3 bd3 f3 cp3 ec => by
      have X3 := X1.fr w3 f3 (by decide) (by decide)
      have kv3 := X3.S.1
      have hr3 := RPr_x f3 kv hr
      have P3 := RPL_fr f3 kv hr (by decide) (by decide) (by decide) P1
      have f03 : FR Ws_X12_rests Z I Z3 I3 := f1'.trans w.1 w.2.1 (f3.mono (by decide))
      unfold f_X12_rests_b55
      intro b hb; cases hr3.2.2.2.2.1.symm.trans hb
      rw [n1, (P3 p hp).2.2]
      refine ⟨vi, fun cl => ?_, fun cl => ?_⟩
      · have cl := (i_le rfl rfl).mp cl
        intro b hb; cases hr3.2.2.2.2.1.symm.trans hb
        refine ⟨vi, vi, fun I4 e4 => ?_⟩
        rw [(P3 p hp).2.2] at e4
        have w4 : WD Z3 I4 := by rw [e4]; exact WD_putA w3 12 16 kv3 hr3.2.2.2.2.1 hr3.2.2.2.2.2 rfl rfl (by decide) trivial
        have f4 : FR [(12, 16)] Z3 I3 Z3 I4 := by rw [e4]; exact FR_upA w3.2.1 kv3 hr3.2.2.2.2.1 hr3.2.2.2.2.2 rfl rfl List.mem_cons_self
        have P4 := (RPL_put w3 kv3 hr3 P3 p (P.2.2 p - c)).2.2
        rw [← e4] at P4
        intro b hb; cases hr3.2.2.1.symm.trans hb
        intro b hb; cases X3.h9.symm.trans hb
        refine ⟨vi, ?_⟩
        intro b hb; cases hr3.2.2.1.symm.trans hb
        refine ⟨vi, vi, fun I5 e5 => ?_⟩
        have k93 := (f3.1 _ _ k9).1
        have h9 : I4 t9 p = kt p := by
          rw [f4.2.2.2 v0 12 9 t9 kv3 X3.h9 (by rw [k93.2]; rfl) rfl (by decide), f3.2.2.2 v0 12 9 t9 kv X1.h9 (by rw [k9.2]; rfl) rfl (by decide), a9]
          exact hk p hp
        rw [(P4 p hp).2.1, h9] at e5
        have w5 : WD Z3 I5 := by rw [e5]; exact WD_putA w4 12 15 kv3 hr3.2.2.1 hr3.2.2.2.1 rfl rfl (by decide) trivial
        have f5 : FR [(12, 15)] Z3 I4 Z3 I5 := by rw [e5]; exact FR_upA w4.2.1 kv3 hr3.2.2.1 hr3.2.2.2.1 rfl rfl List.mem_cons_self
        have P5 := (RPL_put w4 kv3 hr3 P4 p (if (P.2.1 p + v2) < kt p then (P.2.1 p + v2) else kt p)).2.1
        rw [← e5] at P5
        have f05 : FR Ws_X12_rests Z I Z3 I5 := (f03.trans w.1 w.2.1 (f4.mono (by decide))).trans w.1 w.2.1 (f5.mono (by decide))
        have res : RSQd D a kt P v1 v2 c.toInt (P.1, updF P.2.1 p (if (P.2.1 p + v2) < kt p then (P.2.1 p + v2) else kt p), updF P.2.2 p (P.2.2 p - c)) := Or.inr ⟨hin, c, ec, Or.inr ⟨by rw [ep]; exact cl, rfl, by rw [ep]⟩⟩
        refine ⟨fun _ => hQ c Z3 I5 L3 _ res P5 w5 bd3 f05 cp3, fun cg => ?_⟩
        have cg := (not_congr (i_eq rfl zm)).mp cg
        refine s_X12_earn w5 v0 (P.1 p) c 1 kv3 (by omega) (fun I6 L6 w6 f6 => ?_)
        exact hQ c Z3 I6 L6 _ res (RPL_fr f6 kv3 hr3 (by decide) (by decide) (by decide) P5) w6 bd3 (f05.trans w.1 w.2.1 (f6.mono (by decide))) cp3
      · have cl := (not_congr (i_le rfl rfl)).mp cl
        exact hQ _ Z3 I3 L3 P (Or.inr ⟨hin, c, ec, Or.inl ⟨by rw [ep]; exact cl, rfl, rfl⟩⟩) P3 w3 bd3 f03 cp3
    refine ⟨fun cg => ?_, fun cg => ?_⟩
    · have cg := (not_congr (i_eq rfl zm)).mp cg
      intro b hb; cases X1.h12.symm.trans hb
      refine ⟨vi, ?_⟩
      rw [n1]
      refine X1.prm (B := B) (T := T) 0 (P.1 p) (P.1 p) (I1 t12 p) 0 Z I1 L _ w1 bd FR.rf (by decide) (by omega) (by omega) (fun c Z3 I3 L3 w3 bd3 f3 cp3 ec => go c Z3 I3 L3 w3 bd3 f3 cp3 ?_)
      unfold pyR
      rw [ep, if_neg cg, ec, (X1.pil p hp).2.2.2.1]
      rfl
    · have cg := (i_eq rfl zm).mp cg
      refine go 0 Z I1 L w1 bd FR.rf CP.rf ?_
      unfold pyR
      rw [ep, if_pos cg]
      rfl
  · have c2 := (i_eq rfl z0).mp c2
    omega
/-! ===== places of both sides ===== -/
def PLB (Z : jZ) (I : jI) (v1 v2 uV t14 t15 t16 : Nat) : Prop := RPr Z v2 t14 t15 t16 ∧ PRr 5 Z I v1 uV t14 ∧ PRr 6 Z I v1 uV t15 ∧ PRr 7 Z I v1 uV t16 ∧ ∀ i : Nat, (i : Int) < (I v1 4).toInt → (I t14 i).toInt < (I v2 0).toInt
theorem TRd_ok {D : DAT} {a : Nat → Int32} {P P' : (Nat → Int32) × (Nat → Int32) × (Nat → Int32)} {v1 v2 : Int32} {r : Int} (h : TRd D a P v1 v2 r P') (ha : AOK D P.1) : AOK D P'.1 := by
  rcases h with ⟨-, -, s⟩ | ⟨⟨-, y⟩, ⟨-, -, s⟩ | ⟨-, ⟨-, -, s⟩ | ⟨-, e, c, -, -, ⟨-, -, s⟩ | ⟨-, ⟨-, -, s⟩ | ⟨-, -, s⟩⟩⟩⟩⟩
  all_goals first | (rw [s]; exact ha) | skip
  rw [s]
  intro q hq
  show -1 ≤ (updF P.1 v1.toInt.toNat v2 q).toInt ∧ (updF P.1 v1.toInt.toNat v2 q).toInt < (dN D : Int)
  by_cases c9 : q = v1.toInt.toNat
  · rw [c9, updF_at]
    unfold stp at y
    omega
  · rw [updF_off c9]
    exact ha q hq
theorem REd_ok {D : DAT} {kt : Nat → Int32} {P P' : (Nat → Int32) × (Nat → Int32) × (Nat → Int32)} {v1 : Int32} {r : Int} (h : REd D kt P v1 r P') (ha : AOK D P.1) : AOK D P'.1 := by
  have zm : (-1 : Int32).toInt = -1 := by decide
  rcases h with ⟨-, -, s⟩ | ⟨-, -, s⟩
  · rw [s]; exact ha
  · rw [s]
    intro q hq
    show -1 ≤ (updF P.1 v1.toInt.toNat (-1) q).toInt ∧ (updF P.1 v1.toInt.toNat (-1) q).toInt < (dN D : Int)
    by_cases c9 : q = v1.toInt.toNat
    · rw [c9, updF_at]
      omega
    · rw [updF_off c9]
      exact ha q hq
theorem RSQd_ok {D : DAT} {a kt : Nat → Int32} {P P' : (Nat → Int32) × (Nat → Int32) × (Nat → Int32)} {v1 v2 : Int32} {r : Int} (h : RSQd D a kt P v1 v2 r P') (ha : AOK D P.1) : AOK D P'.1 := by
  rcases h with ⟨-, -, s⟩ | ⟨-, c, -, ⟨-, -, s⟩ | ⟨-, -, s⟩⟩
  all_goals (rw [s]; exact ha)
theorem PLB_mk {Z : jZ} {I : jI} {v1 v2 uV t14 t15 t16 n : Nat} {pc : Nat → Nat} {P : (Nat → Int32) × (Nat → Int32) × (Nat → Int32)} (hr : RPr Z v2 t14 t15 t16) (hn : ∀ i : Nat, (i : Int) < (I v1 4).toInt → i < n) (hq : ∀ i : Nat, (i : Int) < (I v1 4).toInt → jr Z uV i = some (pc i) ∧ jk Z (pc i) 5) (c : CPL I pc n P) (r : RPL I t14 t15 t16 n P) (ha : ∀ i, i < n → (P.1 i).toInt < (I v2 0).toInt) : PLB Z I v1 v2 uV t14 t15 t16 := by
  refine ⟨hr, fun i hi => ⟨pc i, (hq i hi).1, (hq i hi).2, ?_⟩, fun i hi => ⟨pc i, (hq i hi).1, (hq i hi).2, ?_⟩, fun i hi => ⟨pc i, (hq i hi).1, (hq i hi).2, ?_⟩, fun i hi => ?_⟩
  · rw [(c i (hn i hi)).1, (r i (hn i hi)).1]
  · rw [(c i (hn i hi)).2.1, (r i (hn i hi)).2.1]
  · rw [(c i (hn i hi)).2.2, (r i (hn i hi)).2.2]
  · rw [(r i (hn i hi)).1]; exact ha i (hn i hi)
theorem SAM.cpl {Z : jZ} {I : jI} {v1 v2 uF uR uX uA uW uP x0 x1 u5c uFe uT uL0 uC0 uL1 uC1 uV p13 p14 : Nat} {vR vX vA vW v5 t6 t9 t10 t11 t12 t13 t29 t30 q0 q1 : Nat} {t14 t15 t16 : Nat} (X : SAM Z I v1 v2 uF uR uX uA uW uP x0 x1 u5c uFe uT uL0 uC0 uL1 uC1 uV p13 p14 vR vX vA vW v5 t6 t9 t10 t11 t12 t13 t29 t30 q0 q1) (PL : PLB Z I v1 v2 uV t14 t15 t16) : CPL I (fun p => (jr Z uV p).getD 0) (dP (SAd Z I v1 uF uR uX uW x1 u5c uV t30 q0 q1)) (I t14, I t15, I t16) ∧ CKT I (fun p => (jr Z uV p).getD 0) (SAd Z I v1 uF uR uX uW x1 u5c uV t30 q0 q1) (I t9) ∧ AOK (SAd Z I v1 uF uR uX uW x1 u5c uV t30 q0 q1) (I t14) := by
  have w := X.w
  have rp : 0 ≤ (I v1 4).toInt ∧ (I v1 4).toInt ≤ 6 := w.fld 11 4 X.k1 (by decide)
  have rn : 0 ≤ (I uF 9).toInt := (w.fld 8 9 X.S.1 (by decide)).1
  have sz := X.sz
  have dp : (dP (SAd Z I v1 uF uR uX uW x1 u5c uV t30 q0 q1) : Int) = (I v1 4).toInt := by
    show (((I v1 4).toInt.toNat : Nat) : Int) = _
    omega
  have dn : (dN (SAd Z I v1 uF uR uX uW x1 u5c uV t30 q0 q1) : Int) = (I v2 0).toInt := by
    show (((I uF 9).toInt.toNat : Nat) : Int) = _
    omega
  obtain ⟨hr, h5, h6, h7, ha⟩ := PL
  refine ⟨fun p hp => ?_, fun p hp => ?_, fun p hp => ?_⟩
  · obtain ⟨q, r, b1, b2, b3, b4, b5, c1, c2, c3, c4, c5, g1, g2⟩ := X.pil p (by omega)
    obtain ⟨y, d1, -, e5⟩ := h5 p (by omega)
    cases b1.symm.trans d1
    obtain ⟨y, d1, -, e6⟩ := h6 p (by omega)
    cases b1.symm.trans d1
    obtain ⟨y, d1, -, e7⟩ := h7 p (by omega)
    cases b1.symm.trans d1
    show I ((jr Z uV p).getD 0) 5 = I t14 p ∧ I ((jr Z uV p).getD 0) 6 = I t15 p ∧ I ((jr Z uV p).getD 0) 7 = I t16 p
    rw [g1]
    exact ⟨e5, e6, e7⟩
  · obtain ⟨q, r, b1, b2, b3, b4, b5, c1, c2, c3, c4, c5, g1, g2⟩ := X.pil p (by omega)
    obtain ⟨y, d1, -, e0⟩ := X.p0 p (by omega)
    cases b1.symm.trans d1
    obtain ⟨y, d1, -, e2⟩ := X.p2 p (by omega)
    cases b1.symm.trans d1
    have r3 : 0 ≤ (I r 3).toInt ∧ (I r 3).toInt ≤ 3 := w.fld 6 3 b4 (by decide)
    show I ((jr Z uV p).getD 0) 0 = I t9 p ∧ (I ((jr Z uV p).getD 0) 2).toInt = (((I ((jr Z ((jr Z uV p).getD 0) 8).getD 0) 3).toInt.toNat : Nat) : Int)
    rw [g2, g1]
    refine ⟨e0, ?_⟩
    rw [e2, ← c3]
    omega
  · have lo : -1 ≤ (I t14 p).toInt := (w.arr 12 14 X.k2 hr.1 hr.2.1 rfl rfl p).1
    have hi := ha p (by omega)
    exact ⟨lo, by omega⟩
theorem SAM.pq {Z : jZ} {I : jI} {v1 v2 uF uR uX uA uW uP x0 x1 u5c uFe uT uL0 uC0 uL1 uC1 uV p13 p14 : Nat} {vR vX vA vW v5 t6 t9 t10 t11 t12 t13 t29 t30 q0 q1 : Nat} {W : List (Nat × Nat)} {Z' : jZ} {I' : jI} (X : SAM Z I v1 v2 uF uR uX uA uW uP x0 x1 u5c uFe uT uL0 uC0 uL1 uC1 uV p13 p14 vR vX vA vW v5 t6 t9 t10 t11 t12 t13 t29 t30 q0 q1) (f : FR W Z I Z' I') (h4 : (11, 4) ∉ W) : (∀ i : Nat, (i : Int) < (I' v1 4).toInt → i < dP (SAd Z I v1 uF uR uX uW x1 u5c uV t30 q0 q1)) ∧ ∀ i : Nat, (i : Int) < (I' v1 4).toInt → jr Z' uV i = some ((jr Z uV i).getD 0) ∧ jk Z' ((jr Z uV i).getD 0) 5 := by
  have e4 := f.2.2.1 v1 11 4 X.k1 (by decide) h4
  have kV : jk Z uV 18 := by
    obtain ⟨x, ex, k, -⟩ := sh_f X.w.1 X.k1 (j := 3) (k := 18) (m := 6) rfl
    cases X.hV.symm.trans ex
    exact k
  refine ⟨fun i hi => ?_, fun i hi => ?_⟩
  · rw [e4] at hi
    show i < (I v1 4).toInt.toNat
    omega
  · rw [e4] at hi
    obtain ⟨q, r, b1, b2, -, -, -, -, -, -, -, -, g1, -⟩ := X.pil i hi
    rw [g1]
    exact ⟨(f.2.1 uV 18 i kV (by omega) (by omega)).trans b1, (f.1 _ _ b2).1⟩
/-- tread: the class's call, and what it promises of the reference's -/
theorem SAM_tread1 {B : Nat × Nat} {T : Nat} {L : jL} {Z : jZ} {I : jI} {v1 v2 uF uR uX uA uW uP x0 x1 u5c uFe uT uL0 uC0 uL1 uC1 uV p13 p14 : Nat} {vR vX vA vW v5 t6 t9 t10 t11 t12 t13 t29 t30 q0 q1 : Nat} {t14 t15 t16 : Nat} (X : SAM Z I v1 v2 uF uR uX uA uW uP x0 x1 u5c uFe uT uL0 uC0 uL1 uC1 uV p13 p14 vR vX vA vW v5 t6 t9 t10 t11 t12 t13 t29 t30 q0 q1) (PL : PLB Z I v1 v2 uV t14 t15 t16) (bd : BUD B Z T) (a b : Int32) {Q : Int32 → jI → jL → Prop}
    (hQ : ∀ (r1 : Int32) (I1 : jI) (L1 : jL), WD Z I1 → FR Ws_X11_tread Z I Z I1 → (∀ (L : jL) (Q2 : Int32 → jZ → jI → jL → Prop), (∀ (r2 : Int32) (Z2 : jZ) (I2 : jI) (L2 : jL), r1.toInt = r2.toInt → WD Z2 I2 → BUD B Z2 T → FR Ws_X12_tread Z I1 Z2 I2 → CP Z Z2 → PLB Z2 I2 v1 v2 uV t14 t15 t16 → Q2 r2 Z2 I2 L2) → f_X12_tread B v2 a b Z I1 L Q2) → Q r1 I1 L1) : f_X11_tread v1 a b Z I L Q := by
  have ok := X.ok
  obtain ⟨hc, hk, ha⟩ := X.cpl PL
  refine r_X11_tread X.cwd (I t14, I t15, I t16) (I t9) hc hk ha a b (fun r1 I1 L1 P1 ht c1 w1 f1 => hQ r1 I1 L1 w1 f1 (fun L Q2 h2 => ?_))
  have Y1 := X.rfm.fr w1 f1 (by decide) (by decide)
  have R1 : RPL I1 t14 t15 t16 (dP (SAd Z I v1 uF uR uX uW x1 u5c uV t30 q0 q1)) (I t14, I t15, I t16) := RPL_fr f1 X.k2 PL.1 (by decide) (by decide) (by decide) (fun p _ => ⟨rfl, rfl, rfl⟩)
  refine r_X12_tread Y1 ok bd (I t14, I t15, I t16) t14 t15 t16 PL.1 R1 ha a b (fun r2 Z2 I2 L2 P2 ht2 c2 w2 bd2 f2 cp2 => ?_)
  obtain ⟨er, eP⟩ := TRd_fun ht ht2
  obtain ⟨a1, a2⟩ := X.pq (f1.mono (W' := Ws_X11_tread ++ Ws_X12_tread) (fun q hq => List.mem_append_left _ hq) |>.trans X.w.1 X.w.2.1 (f2.mono (fun q hq => List.mem_append_right _ hq))) (by decide)
  have C2 := CPL_fr (pc := fun p => (jr Z uV p).getD 0) f2 (fun p hp => (X.cwd.pil p hp).2.1) (by decide) (by decide) (by decide) c1
  rw [eP] at C2
  have n2 : (I2 v2 0).toInt = (dN (SAd Z I v1 uF uR uX uW x1 u5c uV t30 q0 q1) : Int) := by rw [f2.2.2.1 v2 12 0 X.k2 (by decide) (by decide)]; exact Y1.hn
  exact h2 r2 Z2 I2 L2 er w2 bd2 f2 cp2 (PLB_mk (RPr_x f2 X.k2 PL.1) a1 a2 C2 c2 (fun i hi => by have := (TRd_ok ht2 ha i hi).2; omega))
/-- rests: the class's call, and what it promises of the reference's -/
theorem SAM_rests1 {B : Nat × Nat} {T : Nat} {L : jL} {Z : jZ} {I : jI} {v1 v2 uF uR uX uA uW uP x0 x1 u5c uFe uT uL0 uC0 uL1 uC1 uV p13 p14 : Nat} {vR vX vA vW v5 t6 t9 t10 t11 t12 t13 t29 t30 q0 q1 : Nat} {t14 t15 t16 : Nat} (X : SAM Z I v1 v2 uF uR uX uA uW uP x0 x1 u5c uFe uT uL0 uC0 uL1 uC1 uV p13 p14 vR vX vA vW v5 t6 t9 t10 t11 t12 t13 t29 t30 q0 q1) (PL : PLB Z I v1 v2 uV t14 t15 t16) (bd : BUD B Z T) (a b : Int32) {Q : Int32 → jI → jL → Prop}
    (hQ : ∀ (r1 : Int32) (I1 : jI) (L1 : jL), WD Z I1 → FR Ws_X11_rests Z I Z I1 → (∀ (L : jL) (Q2 : Int32 → jZ → jI → jL → Prop), (∀ (r2 : Int32) (Z2 : jZ) (I2 : jI) (L2 : jL), r1.toInt = r2.toInt → WD Z2 I2 → BUD B Z2 T → FR Ws_X12_rests Z I1 Z2 I2 → CP Z Z2 → PLB Z2 I2 v1 v2 uV t14 t15 t16 → Q2 r2 Z2 I2 L2) → f_X12_rests B v2 a b Z I1 L Q2) → Q r1 I1 L1) : f_X11_rests v1 a b Z I L Q := by
  have ok := X.ok
  obtain ⟨hc, hk, ha⟩ := X.cpl PL
  refine r_X11_rests X.cwd (I t14, I t15, I t16) (I t9) hc hk ha a b (fun r1 I1 L1 P1 ht c1 w1 f1 => hQ r1 I1 L1 w1 f1 (fun L Q2 h2 => ?_))
  have Y1 := X.rfm.fr w1 f1 (by decide) (by decide)
  have R1 : RPL I1 t14 t15 t16 (dP (SAd Z I v1 uF uR uX uW x1 u5c uV t30 q0 q1)) (I t14, I t15, I t16) := RPL_fr f1 X.k2 PL.1 (by decide) (by decide) (by decide) (fun p _ => ⟨rfl, rfl, rfl⟩)
  obtain ⟨x9, ex9, k9, -⟩ := sh_f X.w.1 X.k2 (j := 9) (k := 14) (m := 6) rfl
  cases X.m9.symm.trans ex9
  have a9 : I1 t9 = I t9 := f1.2.2.2 v2 12 9 t9 X.k2 X.m9 (by rw [k9.2]; rfl) rfl (by decide)
  refine r_X12_rests Y1 ok bd (I t14, I t15, I t16) t14 t15 t16 PL.1 R1 ha (I t9) (fun p _ => by rw [a9]) a b (fun r2 Z2 I2 L2 P2 ht2 c2 w2 bd2 f2 cp2 => ?_)
  obtain ⟨er, eP⟩ := RSQd_fun ht ht2
  obtain ⟨a1, a2⟩ := X.pq (f1.mono (W' := Ws_X11_rests ++ Ws_X12_rests) (fun q hq => List.mem_append_left _ hq) |>.trans X.w.1 X.w.2.1 (f2.mono (fun q hq => List.mem_append_right _ hq))) (by decide)
  have C2 := CPL_fr (pc := fun p => (jr Z uV p).getD 0) f2 (fun p hp => (X.cwd.pil p hp).2.1) (by decide) (by decide) (by decide) c1
  rw [eP] at C2
  have n2 : (I2 v2 0).toInt = (dN (SAd Z I v1 uF uR uX uW x1 u5c uV t30 q0 q1) : Int) := by rw [f2.2.2.1 v2 12 0 X.k2 (by decide) (by decide)]; exact Y1.hn
  exact h2 r2 Z2 I2 L2 er w2 bd2 f2 cp2 (PLB_mk (RPr_x f2 X.k2 PL.1) a1 a2 C2 c2 (fun i hi => by have := (RSQd_ok ht2 ha i hi).2; omega))
/-- returns: the class's call, and what it promises of the reference's -/
theorem SAM_returns1 {B : Nat × Nat} {T : Nat} {L : jL} {Z : jZ} {I : jI} {v1 v2 uF uR uX uA uW uP x0 x1 u5c uFe uT uL0 uC0 uL1 uC1 uV p13 p14 : Nat} {vR vX vA vW v5 t6 t9 t10 t11 t12 t13 t29 t30 q0 q1 : Nat} {t14 t15 t16 : Nat} (X : SAM Z I v1 v2 uF uR uX uA uW uP x0 x1 u5c uFe uT uL0 uC0 uL1 uC1 uV p13 p14 vR vX vA vW v5 t6 t9 t10 t11 t12 t13 t29 t30 q0 q1) (PL : PLB Z I v1 v2 uV t14 t15 t16) (bd : BUD B Z T) (a : Int32) {Q : Int32 → jI → jL → Prop}
    (hQ : ∀ (r1 : Int32) (I1 : jI) (L1 : jL), WD Z I1 → FR Ws_X11_returns Z I Z I1 → (∀ (L : jL) (Q2 : Int32 → jI → jL → Prop), (∀ (r2 : Int32) (I2 : jI) (L2 : jL), r1.toInt = r2.toInt → WD Z I2 → FR Ws_X12_returns Z I1 Z I2 → PLB Z I2 v1 v2 uV t14 t15 t16 → Q2 r2 I2 L2) → f_X12_returns v2 a Z I1 L Q2) → Q r1 I1 L1) : f_X11_returns v1 a Z I L Q := by
  have ok := X.ok
  obtain ⟨hc, hk, ha⟩ := X.cpl PL
  refine r_X11_returns X.cwd (I t14, I t15, I t16) (I t9) hc hk a (fun r1 I1 L1 P1 ht c1 w1 f1 => hQ r1 I1 L1 w1 f1 (fun L Q2 h2 => ?_))
  have Y1 := X.rfm.fr w1 f1 (by decide) (by decide)
  have R1 : RPL I1 t14 t15 t16 (dP (SAd Z I v1 uF uR uX uW x1 u5c uV t30 q0 q1)) (I t14, I t15, I t16) := RPL_fr f1 X.k2 PL.1 (by decide) (by decide) (by decide) (fun p _ => ⟨rfl, rfl, rfl⟩)
  obtain ⟨x9, ex9, k9, -⟩ := sh_f X.w.1 X.k2 (j := 9) (k := 14) (m := 6) rfl
  cases X.m9.symm.trans ex9
  have a9 : I1 t9 = I t9 := f1.2.2.2 v2 12 9 t9 X.k2 X.m9 (by rw [k9.2]; rfl) rfl (by decide)
  refine r_X12_returns Y1 (I t14, I t15, I t16) t14 t15 t16 PL.1 R1 (I t9) (fun p _ => by rw [a9]) a (fun r2 I2 L2 P2 ht2 c2 w2 f2 => ?_)
  obtain ⟨er, eP⟩ := REd_fun ht ht2
  obtain ⟨a1, a2⟩ := X.pq (f1.mono (W' := Ws_X11_returns ++ Ws_X12_returns) (fun q hq => List.mem_append_left _ hq) |>.trans X.w.1 X.w.2.1 (f2.mono (fun q hq => List.mem_append_right _ hq))) (by decide)
  have C2 := CPL_fr (pc := fun p => (jr Z uV p).getD 0) f2 (fun p hp => (X.cwd.pil p hp).2.1) (by decide) (by decide) (by decide) c1
  rw [eP] at C2
  have n2 : (I2 v2 0).toInt = (dN (SAd Z I v1 uF uR uX uW x1 u5c uV t30 q0 q1) : Int) := by rw [f2.2.2.1 v2 12 0 X.k2 (by decide) (by decide)]; exact Y1.hn
  exact h2 r2 I2 L2 er w2 f2 (PLB_mk (RPr_x f2 X.k2 PL.1) a1 a2 C2 c2 (fun i hi => by have := (REd_ok ht2 ha i hi).2; omega))
/-- costs: the class's call, and what it promises of the reference's -/
theorem SAM_costs1 {B : Nat × Nat} {T : Nat} {L : jL} {Z : jZ} {I : jI} {v1 v2 uF uR uX uA uW uP x0 x1 u5c uFe uT uL0 uC0 uL1 uC1 uV p13 p14 : Nat} {vR vX vA vW v5 t6 t9 t10 t11 t12 t13 t29 t30 q0 q1 : Nat} {t14 t15 t16 : Nat} (X : SAM Z I v1 v2 uF uR uX uA uW uP x0 x1 u5c uFe uT uL0 uC0 uL1 uC1 uV p13 p14 vR vX vA vW v5 t6 t9 t10 t11 t12 t13 t29 t30 q0 q1) (PL : PLB Z I v1 v2 uV t14 t15 t16) (bd : BUD B Z T) (a b : Int32) {Q : Int32 → jI → jL → Prop}
    (hQ : ∀ (r1 : Int32) (I1 : jI) (L1 : jL), WD Z I1 → FR Ws_X11_costs Z I Z I1 → (∀ (L : jL) (Q2 : Int32 → jZ → jI → jL → Prop), (∀ (r2 : Int32) (Z2 : jZ) (I2 : jI) (L2 : jL), r1.toInt = r2.toInt → WD Z2 I2 → BUD B Z2 T → FR Ws_X12_costs Z I1 Z2 I2 → CP Z Z2 → Q2 r2 Z2 I2 L2) → f_X12_costs B v2 a b Z I1 L Q2) → Q r1 I1 L1) : f_X11_costs v1 a b Z I L Q := by
  have ok := X.ok
  obtain ⟨hc, hk, ha⟩ := X.cpl PL
  refine r_X11_costs X.cwd (I t14, I t15, I t16) (I t9) hc hk ha a b (fun r1 I1 L1 ht w1 f1 => hQ r1 I1 L1 w1 (f1.mono (by decide)) (fun L Q2 h2 => ?_))
  have Y1 := X.rfm.fr w1 f1 (by decide) (by decide)
  have R1 : RPL I1 t14 t15 t16 (dP (SAd Z I v1 uF uR uX uW x1 u5c uV t30 q0 q1)) (I t14, I t15, I t16) := RPL_fr f1 X.k2 PL.1 (by decide) (by decide) (by decide) (fun p _ => ⟨rfl, rfl, rfl⟩)
  exact r_X12_costs Y1 ok bd (I t14, I t15, I t16) t14 t15 t16 PL.1 R1 ha a b (fun r2 Z2 I2 L2 ht2 w2 bd2 f2 cp2 => h2 r2 Z2 I2 L2 (COd_fun ht ht2) w2 bd2 f2 cp2)
/-! ===== the class: stairs, keep, again: where PILGRIMS are ===== -/
def TLD (Z : jZ) (I : jI) (uA n : Nat) : Prop := ∀ (i q : Nat), i < n → jr Z uA i = some q → I q 5 = -1 ∧ I q 6 = I q 0 ∧ I q 7 = I q 1
theorem r_startAnew {Z : jZ} {I : jI} {L : jL} (w : WD Z I) (b : Nat) (kb : jk Z b 5) {Q : jI → jL → Prop} (hQ : ∀ (I' : jI) (L' : jL), WD Z I' → FR [(5, 5), (5, 6), (5, 7)] Z I Z I' → I' b 5 = -1 → I' b 6 = I' b 0 → I' b 7 = I' b 1 → (∀ x, x ≠ b → I' x = I x) → Q I' L') : f_X5_startAnew b Z I L Q := by
  unfold f_X5_startAnew
  intro I1 e1 I2 e2 I3 e3
  have w1 : WD Z I1 := by rw [e1]; exact WD_putF w 5 5 kb (by decide) (by decide) (by constructor <;> decide)
  have w2 : WD Z I2 := by rw [e2]; exact WD_putF w1 5 6 kb (by decide) (by decide) trivial
  have w3 : WD Z I3 := by rw [e3]; exact WD_putF w2 5 7 kb (by decide) (by decide) trivial
  have f1 : FR [(5, 5), (5, 6), (5, 7)] Z I Z I1 := by rw [e1]; exact FR_putF kb (by decide) (by decide)
  have f2 : FR [(5, 5), (5, 6), (5, 7)] Z I1 Z I2 := by rw [e2]; exact FR_putF kb (by decide) (by decide)
  have f3 : FR [(5, 5), (5, 6), (5, 7)] Z I2 Z I3 := by rw [e3]; exact FR_putF kb (by decide) (by decide)
  refine hQ I3 L w3 ((f1.trans w.1 w.2.1 f2).trans w.1 w.2.1 f3) ?_ ?_ ?_ (fun x hx => ?_)
  · rw [e3, jpI_o (by decide), e2, jpI_o (by decide), e1, jpI_at]
  · rw [e3, jpI_o (by decide), jpI_o (by decide), e2, jpI_at, jpI_o (by decide)]
  · rw [e3, jpI_at, jpI_o (by decide)]
  · rw [e3, jpI_ne hx, e2, jpI_ne hx, e1, jpI_ne hx]
theorem st_L76 {Z : jZ} {I0 : jI} (w0 : WD Z I0) (v0 uS : Nat) (kv0 : jk Z v0 11) (hS : jr Z v0 8 = some uS) (v1 : Int32) {Q : Int32 → jI → jL → Prop} (hQ : ∀ (I' : jI) (L' : jL), WD Z I' → FR [(2, 8)] Z I0 Z I' → Q v1 I' L') :
    ∀ (n p : Nat) (v2 : Int32) (I : jI) (L : jL), 3 ≤ n + p → p ≤ 2 → v2.toInt = (p : Int) → WD Z I → FR [(2, 8)] Z I0 Z I → f_X11_stairs_L76 Z Q n v0 v1 v2 I L := by
  have z1 : (1 : Int32).toInt = 1 := rfl
  have z2 : (2 : Int32).toInt = 2 := rfl
  obtain ⟨x, ex, kS, lS⟩ := sh_f w0.1 kv0 (j := 8) (k := 17) (m := 2) rfl
  cases hS.symm.trans ex
  intro n
  induction n with
  | zero => intro p v2 I L hk hi; omega
  | succ n ih =>
    intro p v2 I L hk hi e2 w f
    have n2 : v2.toNatClampNeg = p := by have := i_nat e2 (by omega); omega
    unfold f_X11_stairs_L76
    intro b hb; cases hS.symm.trans hb
    refine ⟨fun c => hQ I L w f, fun c => ?_⟩
    have c := (not_congr (i_le z2 e2)).mp c
    intro b hb; cases hS.symm.trans hb
    refine ⟨vi_of e2 (by omega) (by omega), fun b5 h5 => ?_⟩
    rw [n2] at h5
    obtain ⟨y, ey, kb⟩ := w0.1.2.2.1 uS kS p (by rw [lS]; omega)
    cases h5.symm.trans ey
    intro I6 e6 x7 e7
    exact ih (p + 1) x7 I6 L (by omega) (by omega) (by rw [e7]; exact (i_add e2 z1 (by omega) (by omega)).trans (by omega)) (by rw [e6]; exact WD_putF w 2 8 kb (by decide) (by decide) trivial) (f.trans w0.1 w0.2.1 (by rw [e6]; exact FR_putF kb (by decide) List.mem_cons_self))
theorem st_L38 {Z : jZ} {I0 : jI} (w0 : WD Z I0) (v0 uA uS : Nat) (kv0 : jk Z v0 11) (hA : jr Z v0 3 = some uA) (hS : jr Z v0 8 = some uS) (n0 : Nat) (hn : (I0 v0 4).toInt = (n0 : Int)) (v1 : Int32) {Q : Int32 → jI → jL → Prop} (hQ : ∀ (I' : jI) (L' : jL), WD Z I' → FR Ws_X11_stairs Z I0 Z I' → TLD Z I' uA n0 → Q v1 I' L') :
    ∀ (n p : Nat) (v2 : Int32) (I : jI) (L : jL), n0 + 1 ≤ n + p → p ≤ n0 → v2.toInt = (p : Int) → WD Z I → FR Ws_X11_stairs Z I0 Z I → TLD Z I uA p → f_X11_stairs_L38 Z Q n v0 v1 v2 I L := by
  have z1 : (1 : Int32).toInt = 1 := rfl
  have n6 : 0 ≤ (I0 v0 4).toInt ∧ (I0 v0 4).toInt ≤ 6 := w0.fld 11 4 kv0 (by decide)
  obtain ⟨x, ex, kA, lA⟩ := sh_f w0.1 kv0 (j := 3) (k := 18) (m := 6) rfl
  cases hA.symm.trans ex
  intro n
  induction n with
  | zero => intro p v2 I L hk hi; omega
  | succ n ih =>
    intro p v2 I L hk hi e2 w f hT
    have e4 : (I v0 4).toInt = (n0 : Int) := by rw [f.2.2.1 v0 11 4 kv0 (by decide) (by decide)]; exact hn
    have n2 : v2.toNatClampNeg = p := by have := i_nat e2 (by omega); omega
    have nx : ∀ y : Int32, y = v2 + 1 → y.toInt = ((p + 1 : Nat) : Int) := fun y ey => by rw [ey]; exact (i_add e2 z1 (by omega) (by omega)).trans (by omega)
    have qk : ∀ i q, jr Z uA i = some q → i < 6 → jk Z q 5 := fun i q h _ => w.1.2.1 uA kA i q h
    unfold f_X11_stairs_L38
    refine ⟨fun c => ?_, fun c => ?_⟩
    · have c := (i_le e4 e2).mp c
      have pn : p = n0 := by omega
      subst pn
      intro b5 h5
      obtain ⟨x, ex, k5, l5⟩ := sh_f w.1 kv0 (j := 5) (k := 14) (m := 8) rfl
      cases h5.symm.trans ex
      refine r_J7_fill_53178 w b5 v0 11 5 8 k5 kv0 h5 (by decide) rfl l5 (by omega) 0 (fun i => trivial) (fun I3 w3 f3 _ => ?_)
      refine ⟨3, st_L76 w3 v0 uS kv0 hS v1 (fun I4 L4 w4 f4 => ?_) 3 0 0 I3 L (by omega) (by omega) rfl w3 FR.rf⟩
      have f34 : FR [(11, 5), (2, 8)] Z I Z I4 := (f3.mono (by decide)).trans w.1 w.2.1 (f4.mono (by decide))
      refine hQ I4 L4 w4 (f.trans w0.1 w0.2.1 (f34.mono (by decide))) (fun i q hi hq => ?_)
      have kq := qk i q hq (by omega)
      rw [f34.2.2.1 q 5 5 kq (by decide) (by decide), f34.2.2.1 q 5 6 kq (by decide) (by decide), f34.2.2.1 q 5 7 kq (by decide) (by decide), f34.2.2.1 q 5 0 kq (by decide) (by decide), f34.2.2.1 q 5 1 kq (by decide) (by decide)]
      exact hT i q hi hq
    · have c := (not_congr (i_le e4 e2)).mp c
      refine s_X11_find w v0 v2 kv0 (fun r hr => ⟨fun e => ?_, fun b e => ?_⟩)
      · have no := hr.2 e (by omega) (by omega) uA hA
        rw [n2] at no
        unfold f_X11_stairs_b60
        intro x ex
        refine ih (p + 1) x I L (by omega) (by omega) (nx x ex) w f (fun i q hi hq => ?_)
        by_cases c9 : i = p
        · rw [c9, no] at hq; cases hq
        · exact hT i q (by omega) hq
      · have kb := (hr.1 b e).1
        refine r_startAnew w b kb (fun I3 L3 w3 f3 g5 g6 g7 go => ?_)
        have hb := (hr.1 b e).2.2.2 uA hA
        rw [n2] at hb
        unfold f_X11_stairs_b60
        intro x ex
        refine ih (p + 1) x I3 L3 (by omega) (by omega) (nx x ex) w3 (f.trans w0.1 w0.2.1 (f3.mono (by decide))) (fun i q hi hq => ?_)
        by_cases c8 : q = b
        · rw [c8]; exact ⟨g5, g6, g7⟩
        · rw [go q c8]
          by_cases c9 : i = p
          · rw [c9, hb] at hq
            exact absurd (Option.some.inj hq).symm c8
          · exact hT i q (by omega) hq
/-- after stairs: as told, on the ground; else where they were -/
theorem pl_X11_stairs {Z : jZ} {I : jI} {L : jL} (w : WD Z I) (v0 uA : Nat) (kv0 : jk Z v0 11) (hA : jr Z v0 3 = some uA) (n0 : Nat) (hn : (I v0 4).toInt = (n0 : Int)) {Q : Int32 → jI → jL → Prop} (hQ : ∀ (r : Int32) (I' : jI) (L' : jL), WD Z I' → FR Ws_X11_stairs Z I Z I' → (0 ≤ r.toInt → TLD Z I' uA n0) → (r.toInt < 0 → ∀ q, jk Z q 5 → I' q 5 = I q 5 ∧ I' q 6 = I q 6 ∧ I' q 7 = I q 7) → Q r I' L') : f_X11_stairs v0 Z I L Q := by
  have z0 : (0 : Int32).toInt = 0 := rfl
  obtain ⟨uN, hN, kN⟩ := sh_o w.1 kv0 (j := 1) (k := 9) rfl
  obtain ⟨uT, hT, kT⟩ := sh_o w.1 kv0 (j := 0) (k := 10) rfl
  obtain ⟨uF, hF, kF⟩ := sh_o w.1 kv0 (j := 2) (k := 8) rfl
  obtain ⟨uS, hS, -⟩ := sh_f w.1 kv0 (j := 8) (k := 17) (m := 2) rfl
  unfold f_X11_stairs
  intro b hb; cases hN.symm.trans hb
  intro b hb; cases hT.symm.trans hb
  refine s_X9_read w uN uT kN kT (fun r I1 L1 w1 f1 => ?_)
  intro b hb; cases hT.symm.trans hb
  refine s_X10_clear w1 uT kT (fun I2 L2 w2 f2 => ⟨fun c => ?_, fun c => ?_⟩)
  · have c := (i_le z0 rfl).mp c
    intro b hb; cases hF.symm.trans hb
    intro b hb; cases hN.symm.trans hb
    refine s_X8_build w2 uF uN kF kN (fun I3 L3 w3 f3 => ?_)
    have f03 : FR Ws_X11_stairs Z I Z I3 := ((f1.mono (by decide)).trans w.1 w.2.1 (f2.mono (by decide))).trans w.1 w.2.1 (f3.mono (by decide))
    have e3 : (I3 v0 4).toInt = (n0 : Int) := by rw [f03.2.2.1 v0 11 4 kv0 (by decide) (by decide)]; exact hn
    refine ⟨n0 + 1, st_L38 w3 v0 uA uS kv0 hA hS n0 e3 r (fun I4 L4 w4 f4 hT4 => ?_) (n0 + 1) 0 0 I3 L3 (by omega) (by omega) rfl w3 FR.rf (fun i q hi => absurd hi (Nat.not_lt_zero i))⟩
    exact hQ r I4 L4 w4 (f03.trans w.1 w.2.1 f4) (fun _ => hT4) (fun q => by omega)
  · have c := (not_congr (i_le z0 rfl)).mp c
    have f02 : FR ([(10, 1)] ++ Ws_X9_read) Z I Z I2 := (f1.mono (fun q hq => List.mem_append_right _ hq)).trans w.1 w.2.1 (f2.mono (by decide))
    refine hQ r I2 L2 w2 (f02.mono (by decide)) (fun q => by omega) (fun _ q kq => ?_)
    rw [f02.2.2.1 q 5 5 kq (by decide) (by decide), f02.2.2.1 q 5 6 kq (by decide) (by decide), f02.2.2.1 q 5 7 kq (by decide) (by decide)]
    exact ⟨rfl, rfl, rfl⟩
def TRI (I J : jI) (q : Nat) : Prop := I q 5 = J q 5 ∧ I q 6 = J q 6 ∧ I q 7 = J q 7
/-- what again makes of the pilgrims -/
def AGP (Z : jZ) (I I' : jI) (v0 uA uS : Nat) (v : Int32) (r : Int) : Prop := (r = 1 → ∀ b a4 a5 a6, jr Z uS v.toNatClampNeg = some b → jr Z b 4 = some a4 → jr Z b 5 = some a5 → jr Z b 6 = some a6 → ∀ (i q : Nat), (i : Int) < (I v0 4).toInt → jr Z uA i = some q → ((i : Int) < (I b 7).toInt → I' q 5 = I a4 i ∧ I' q 6 = I a5 i ∧ I' q 7 = I a6 i) ∧ (¬ (i : Int) < (I b 7).toInt → TRI I' I q)) ∧ (¬ r = 1 → ∀ q, jk Z q 5 → TRI I' I q)
theorem r_getPilgrim {Z : jZ} {I : jI} {L : jL} (w : WD Z I) (b q a4 a5 a6 p : Nat) (v1 : Int32) (e1 : v1.toInt = (p : Int)) (hp : p < 6) (kb : jk Z b 2) (kq : jk Z q 5) (h4 : jr Z b 4 = some a4) (h5 : jr Z b 5 = some a5) (h6 : jr Z b 6 = some a6) (k4 : jk Z a4 14) (k5 : jk Z a5 14) (k6 : jk Z a6 14) {Q : jI → jL → Prop} (hQ : ∀ (I' : jI) (L' : jL), WD Z I' → FR [(5, 5), (5, 6), (5, 7)] Z I Z I' → I' q 5 = I a4 p → I' q 6 = I a5 p → I' q 7 = I a6 p → (∀ x, x ≠ q → I' x = I x) → Q I' L') : f_X2_getPilgrim b v1 q Z I L Q := by
  have z0 : (0 : Int32).toInt = 0 := rfl
  have z6 : (6 : Int32).toInt = 6 := rfl
  have n1 : v1.toNatClampNeg = p := by have := i_nat e1 (by omega); omega
  have vi : vp_in v1 6 := vi_of e1 (by omega) (by omega)
  unfold f_X2_getPilgrim
  refine ⟨fun c => absurd ((i_lt e1 z0).mp c) (by omega), fun _ => ⟨fun c => absurd ((i_le z6 e1).mp c) (by omega), fun _ => ?_⟩⟩
  intro b3 hb; cases h4.symm.trans hb
  refine ⟨vi, fun I5 e5 => ?_⟩
  intro b3 hb; cases h5.symm.trans hb
  refine ⟨vi, fun I8 e8 => ?_⟩
  intro b3 hb; cases h6.symm.trans hb
  refine ⟨vi, fun I11 e11 => ?_⟩
  rw [n1] at e5 e8 e11
  have m4 : -1 ≤ (I a4 p).toInt ∧ (I a4 p).toInt ≤ 23 := w.arr 2 4 kb h4 k4 rfl rfl p
  have w5 : WD Z I5 := by rw [e5]; exact WD_putF w 5 5 kq (by decide) (by decide) m4
  have w8 : WD Z I8 := by rw [e8]; exact WD_putF w5 5 6 kq (by decide) (by decide) trivial
  have w11 : WD Z I11 := by rw [e11]; exact WD_putF w8 5 7 kq (by decide) (by decide) trivial
  have f5 : FR [(5, 5), (5, 6), (5, 7)] Z I Z I5 := by rw [e5]; exact FR_putF kq (by decide) (by decide)
  have f8 : FR [(5, 5), (5, 6), (5, 7)] Z I5 Z I8 := by rw [e8]; exact FR_putF kq (by decide) (by decide)
  have f11 : FR [(5, 5), (5, 6), (5, 7)] Z I8 Z I11 := by rw [e11]; exact FR_putF kq (by decide) (by decide)
  have nq5 : a5 ≠ q := ks_ne k5 kq (by decide)
  have nq6 : a6 ≠ q := ks_ne k6 kq (by decide)
  refine hQ I11 L w11 ((f5.trans w.1 w.2.1 f8).trans w.1 w.2.1 f11) ?_ ?_ ?_ (fun x hx => ?_)
  · rw [e11, jpI_o (by decide), e8, jpI_o (by decide), e5, jpI_at]
  · rw [e11, jpI_o (by decide), e8, jpI_at, e5, jpI_ne nq5]
  · rw [e11, jpI_at, e8, jpI_ne nq6, e5, jpI_ne nq6]
  · rw [e11, jpI_ne hx, e8, jpI_ne hx, e5, jpI_ne hx]
theorem al_L59 {Z : jZ} {I0 : jI} (w0 : WD Z I0) (v0 uA b a4 a5 a6 : Nat) (kv0 : jk Z v0 11) (hA : jr Z v0 3 = some uA) (kb : jk Z b 2) (h4 : jr Z b 4 = some a4) (h5 : jr Z b 5 = some a5) (h6 : jr Z b 6 = some a6) (k4 : jk Z a4 14) (k5 : jk Z a5 14) (k6 : jk Z a6 14) {Q : Int32 → jI → jL → Prop} (hQ : ∀ (I' : jI) (L' : jL), WD Z I' → FR [(5, 5), (5, 6), (5, 7)] Z I0 Z I' → (∀ (i q : Nat), (i : Int) < (I0 v0 4).toInt → jr Z uA i = some q → ((i : Int) < (I0 b 7).toInt → I' q 5 = I0 a4 i ∧ I' q 6 = I0 a5 i ∧ I' q 7 = I0 a6 i) ∧ (¬ (i : Int) < (I0 b 7).toInt → TRI I' I0 q)) → Q 1 I' L') :
    ∀ (n p : Nat) (v3 : Int32) (I : jI) (L : jL), 7 ≤ n + p → p ≤ 6 → v3.toInt = (p : Int) → WD Z I → FR [(5, 5), (5, 6), (5, 7)] Z I0 Z I → (∀ i q, jr Z uA i = some q → (i < p → I q 5 = I0 a4 i ∧ I q 6 = I0 a5 i ∧ I q 7 = I0 a6 i) ∧ (p ≤ i → TRI I I0 q)) → ((p : Int) ≤ (I0 b 7).toInt ∨ p = 0) → f_X11_again_L59 Z Q n v0 b v3 I L := by
  have z1 : (1 : Int32).toInt = 1 := rfl
  have n6 : 0 ≤ (I0 v0 4).toInt ∧ (I0 v0 4).toInt ≤ 6 := w0.fld 11 4 kv0 (by decide)
  obtain ⟨x, ex, kA, lA⟩ := sh_f w0.1 kv0 (j := 3) (k := 18) (m := 6) rfl
  cases hA.symm.trans ex
  intro n
  induction n with
  | zero => intro p v3 I L hk hi; omega
  | succ n ih =>
    intro p v3 I L hk hi e3 w f hT hb7
    have e4 : (I v0 4).toInt = (I0 v0 4).toInt := by rw [f.2.2.1 v0 11 4 kv0 (by decide) (by decide)]
    have e7 : (I b 7).toInt = (I0 b 7).toInt := by rw [f.2.2.1 b 2 7 kb (by decide) (by decide)]
    have n3 : v3.toNatClampNeg = p := by have := i_nat e3 (by omega); omega
    have nx : ∀ y : Int32, y = v3 + 1 → y.toInt = ((p + 1 : Nat) : Int) := fun y ey => by rw [ey]; exact (i_add e3 z1 (by omega) (by omega)).trans (by omega)
    unfold f_X11_again_L59
    refine ⟨fun c => ?_, fun c => ⟨fun c2 => ?_, fun c2 => ?_⟩⟩
    · have c := (i_le e7 e3).mp c
      refine hQ I L w f (fun i q hi hq => ⟨fun l => (hT i q hq).1 ?_, fun l => (hT i q hq).2 ?_⟩)
      · omega
      · rcases hb7 with h | h <;> omega
    · have c2 := (i_le e4 e3).mp c2
      have c := (not_congr (i_le e7 e3)).mp c
      exact hQ I L w f (fun i q hi hq => ⟨fun l => (hT i q hq).1 (by omega), fun l => absurd (show (i : Int) < (I0 b 7).toInt by omega) l⟩)
    · have c := (not_congr (i_le e7 e3)).mp c
      have c2 := (not_congr (i_le e4 e3)).mp c2
      refine s_X11_find w v0 v3 kv0 (fun r hr => ⟨fun e => ?_, fun q0 e => ?_⟩)
      · have no := hr.2 e (by omega) (by omega) uA hA
        rw [n3] at no
        unfold f_X11_again_b94
        intro x ex
        refine ih (p + 1) x I L (by omega) (by omega) (nx x ex) w f (fun i q hq => ⟨fun l => ?_, fun l => (hT i q hq).2 (by omega)⟩) (Or.inl (by omega))
        by_cases c9 : i = p
        · rw [c9, no] at hq; cases hq
        · exact (hT i q hq).1 (by omega)
      · have kq := (hr.1 q0 e).1
        have hq0 := (hr.1 q0 e).2.2.2 uA hA
        rw [n3] at hq0
        have y4 : I a4 = I0 a4 := f.2.2.2 b 2 4 a4 kb h4 (by rw [k4.2]; rfl) rfl (by decide)
        have y5 : I a5 = I0 a5 := f.2.2.2 b 2 5 a5 kb h5 (by rw [k5.2]; rfl) rfl (by decide)
        have y6 : I a6 = I0 a6 := f.2.2.2 b 2 6 a6 kb h6 (by rw [k6.2]; rfl) rfl (by decide)
        refine r_getPilgrim w b q0 a4 a5 a6 p v3 e3 (by omega) kb kq h4 h5 h6 k4 k5 k6 (fun I3 L3 w3 f3 g5 g6 g7 go => ?_)
        unfold f_X11_again_b94
        intro x ex
        refine ih (p + 1) x I3 L3 (by omega) (by omega) (nx x ex) w3 (f.trans w0.1 w0.2.1 f3) (fun i q hq => ⟨fun l => ?_, fun l => ?_⟩) (Or.inl (by omega))
        · by_cases c9 : i = p
          · subst c9
            cases hq0.symm.trans hq
            rw [g5, g6, g7, y4, y5, y6]
            exact ⟨rfl, rfl, rfl⟩
          · have nq : q ≠ q0 := fun h => by
              subst h
              exact c9 (w.2.1.2.2 uA 18 i uA 18 p q kA kA hq hq0 rfl rfl).2
            rw [go q nq]
            exact (hT i q hq).1 (by omega)
        · have nq : q ≠ q0 := fun h => by
            subst h
            have := (w.2.1.2.2 uA 18 i uA 18 p q kA kA hq hq0 rfl rfl).2
            omega
          unfold TRI
          rw [go q nq]
          exact (hT i q hq).2 (by omega)
theorem TRI_fr {W : List (Nat × Nat)} {Z : jZ} {I I' : jI} (f : FR W Z I Z I') {q : Nat} (kq : jk Z q 5) (h5 : (5, 5) ∉ W) (h6 : (5, 6) ∉ W) (h7 : (5, 7) ∉ W) : TRI I' I q := ⟨f.2.2.1 q 5 5 kq (by decide) h5, f.2.2.1 q 5 6 kq (by decide) h6, f.2.2.1 q 5 7 kq (by decide) h7⟩
theorem pl_X11_again {Z : jZ} {I : jI} {L : jL} (w : WD Z I) (v0 : Nat) (v1 : Int32) (kv0 : jk Z v0 11) (uA uS : Nat) (hA : jr Z v0 3 = some uA) (hS : jr Z v0 8 = some uS) {Q : Int32 → jI → jL → Prop} (hQ : ∀ (r : Int32) (I' : jI) (L' : jL), WD Z I' → FR Ws_X11_again Z I Z I' → AGP Z I I' v0 uA uS v1 r.toInt → Q r I' L') : f_X11_again v0 v1 Z I L Q := by
  have z0 : (0 : Int32).toInt = 0 := rfl
  have z2 : (2 : Int32).toInt = 2 := rfl
  have bad : Q (0 : Int32) I L := hQ _ I L w FR.rf ⟨fun q => absurd q (by decide), fun _ q _ => ⟨rfl, rfl, rfl⟩⟩
  obtain ⟨x, ex, kS, lS⟩ := sh_f w.1 kv0 (j := 8) (k := 17) (m := 2) rfl
  cases hS.symm.trans ex
  obtain ⟨x, ex, kA, lA⟩ := sh_f w.1 kv0 (j := 3) (k := 18) (m := 6) rfl
  cases hA.symm.trans ex
  obtain ⟨uF, hF, kF⟩ := sh_o w.1 kv0 (j := 2) (k := 8) rfl
  obtain ⟨uE, hE, kE, lE⟩ := sh_f w.1 kv0 (j := 5) (k := 14) (m := 8) rfl
  unfold f_X11_again
  refine ⟨fun _ => bad, fun c => ?_⟩
  have c := (not_congr (i_lt rfl z0)).mp c
  intro b hb; cases hS.symm.trans hb
  refine ⟨fun _ => bad, fun c2 => ?_⟩
  have c2 := (not_congr (i_le z2 rfl)).mp c2
  have n1 := i_nat (x := v1) rfl (by omega)
  have vi : vp_in v1 2 := vi_of rfl (by omega) (by omega)
  intro b hb; cases hS.symm.trans hb
  refine ⟨vi, fun b24 h24 => ⟨fun _ => ?_, fun _ => bad⟩⟩
  obtain ⟨y, ey, ky⟩ := w.1.2.2.1 uS kS v1.toNatClampNeg (by rw [lS]; omega)
  cases h24.symm.trans ey
  intro b hb; cases hS.symm.trans hb
  refine ⟨vi, fun b28 h28 => ?_⟩
  cases h24.symm.trans h28
  obtain ⟨a4, h4, k4, -⟩ := sh_f w.1 ky (j := 4) (k := 14) (m := 6) rfl
  obtain ⟨a5, h5, k5, -⟩ := sh_f w.1 ky (j := 5) (k := 14) (m := 6) rfl
  obtain ⟨a6, h6, k6, -⟩ := sh_f w.1 ky (j := 6) (k := 14) (m := 6) rfl
  obtain ⟨uG, hG, kG, lG⟩ := sh_f w.1 ky (j := 3) (k := 14) (m := 8) rfl
  intro b hb; cases hF.symm.trans hb
  refine s_X2_getStairs w b24 uF ky kF (fun I1 L1 w1 f1 => ?_)
  intro b hb; cases hG.symm.trans hb
  intro b hb; cases hE.symm.trans hb
  refine ⟨by decide, ?_⟩
  intro I39 e39
  have w39 : WD Z I39 := by rw [e39]; exact WD_cpy w1 11 5 kv0 hE kE rfl rfl (by decide) (fun _ _ _ => trivial)
  have f39 : FR [(11, 5)] Z I1 Z I39 := by rw [e39]; exact FR_upA w1.2.1 kv0 hE kE rfl rfl List.mem_cons_self
  have f02 : FR ((11, 5) :: Ws_X2_getStairs) Z I Z I39 := (f1.mono (fun q hq => List.mem_cons_of_mem _ hq)).trans w.1 w.2.1 (f39.mono (by decide))
  refine ⟨7, al_L59 w39 v0 uA b24 a4 a5 a6 kv0 hA ky h4 h5 h6 k4 k5 k6 (fun I4 L4 w4 f4 hT => ?_) 7 0 0 I39 L1 (by omega) (by omega) rfl w39 FR.rf (fun i q hq => ⟨fun l => absurd l (Nat.not_lt_zero i), fun _ => ⟨rfl, rfl, rfl⟩⟩) (Or.inr rfl)⟩
  refine hQ 1 I4 L4 w4 ((f02.mono (by decide)).trans w.1 w.2.1 (f4.mono (by decide))) ⟨fun _ b' a4' a5' a6' hb' h4' h5' h6' i q hi hq => ?_, fun q => absurd rfl q⟩
  cases h24.symm.trans hb'
  cases h4.symm.trans h4'
  cases h5.symm.trans h5'
  cases h6.symm.trans h6'
  have kq := w.1.2.1 uA kA i q hq
  have y4 : I39 a4 = I a4 := f02.2.2.2 b24 2 4 a4 ky h4 (by rw [k4.2]; rfl) rfl (by decide)
  have y5 : I39 a5 = I a5 := f02.2.2.2 b24 2 5 a5 ky h5 (by rw [k5.2]; rfl) rfl (by decide)
  have y6 : I39 a6 = I a6 := f02.2.2.2 b24 2 6 a6 ky h6 (by rw [k6.2]; rfl) rfl (by decide)
  have t := hT i q (by rw [f02.2.2.1 v0 11 4 kv0 (by decide) (by decide)]; exact hi) hq
  rw [f02.2.2.1 b24 2 7 ky (by decide) (by decide), y4, y5, y6] at t
  refine ⟨t.1, fun l => ?_⟩
  have a := t.2 l
  have c := TRI_fr f02 kq (by decide) (by decide) (by decide)
  exact ⟨a.1.trans c.1, a.2.1.trans c.2.1, a.2.2.trans c.2.2⟩
/-- what keep makes of the boxes -/
def KBP (Z : jZ) (I I' : jI) (v0 uA uS : Nat) (v : Int32) (r : Int) : Prop := (r = 1 → ∀ i b a4 a5 a6, i < 2 → jr Z uS i = some b → jr Z b 4 = some a4 → jr Z b 5 = some a5 → jr Z b 6 = some a6 → (i = v.toNatClampNeg → I' b 7 = I v0 4 ∧ ∀ (p q : Nat), (p : Int) < (I v0 4).toInt → jr Z uA p = some q → I' a4 p = I q 5 ∧ I' a5 p = I q 6 ∧ I' a6 p = I q 7) ∧ (¬ i = v.toNatClampNeg → I' b 7 = I b 7 ∧ I' a4 = I a4 ∧ I' a5 = I a5 ∧ I' a6 = I a6)) ∧ (¬ r = 1 → I' = I)
theorem r_putPilgrim {Z : jZ} {I : jI} {L : jL} (w : WD Z I) (b q a4 a5 a6 p : Nat) (v1 : Int32) (e1 : v1.toInt = (p : Int)) (hp : p < 6) (kb : jk Z b 2) (kq : jk Z q 5) (h4 : jr Z b 4 = some a4) (h5 : jr Z b 5 = some a5) (h6 : jr Z b 6 = some a6) (k4 : jk Z a4 14) (k5 : jk Z a5 14) (k6 : jk Z a6 14) (n45 : a4 ≠ a5) (n46 : a4 ≠ a6) (n56 : a5 ≠ a6) {Q : jI → jL → Prop} (hQ : ∀ (I' : jI) (L' : jL), WD Z I' → FR [(2, 4), (2, 5), (2, 6)] Z I Z I' → (I' a4 p = I q 5 ∧ ∀ i, i ≠ p → I' a4 i = I a4 i) → (I' a5 p = I q 6 ∧ ∀ i, i ≠ p → I' a5 i = I a5 i) → (I' a6 p = I q 7 ∧ ∀ i, i ≠ p → I' a6 i = I a6 i) → (∀ x, x ≠ a4 → x ≠ a5 → x ≠ a6 → I' x = I x) → Q I' L') : f_X2_putPilgrim b v1 q Z I L Q := by
  have z0 : (0 : Int32).toInt = 0 := rfl
  have z6 : (6 : Int32).toInt = 6 := rfl
  have n1 : v1.toNatClampNeg = p := by have := i_nat e1 (by omega); omega
  have vi : vp_in v1 6 := vi_of e1 (by omega) (by omega)
  unfold f_X2_putPilgrim
  refine ⟨fun c => absurd ((i_lt e1 z0).mp c) (by omega), fun _ => ⟨fun c => absurd ((i_le z6 e1).mp c) (by omega), fun _ => ?_⟩⟩
  intro b3 hb; cases h4.symm.trans hb
  refine ⟨vi, fun I5 e5 => ?_⟩
  intro b3 hb; cases h5.symm.trans hb
  refine ⟨vi, fun I8 e8 => ?_⟩
  intro b3 hb; cases h6.symm.trans hb
  refine ⟨vi, fun I11 e11 => ?_⟩
  rw [n1] at e5 e8 e11
  have m5 : okF 5 5 (I q 5) := w.fld 5 5 kq (by decide)
  have nq4 : q ≠ a4 := ks_ne kq k4 (by decide)
  have nq5 : q ≠ a5 := ks_ne kq k5 (by decide)
  have nq6 : q ≠ a6 := ks_ne kq k6 (by decide)
  have w5 : WD Z I5 := by rw [e5]; exact WD_putA w 2 4 kb h4 k4 rfl rfl (by decide) m5
  have w8 : WD Z I8 := by rw [e8]; exact WD_putA w5 2 5 kb h5 k5 rfl rfl (by decide) trivial
  have w11 : WD Z I11 := by rw [e11]; exact WD_putA w8 2 6 kb h6 k6 rfl rfl (by decide) trivial
  have f5 : FR [(2, 4), (2, 5), (2, 6)] Z I Z I5 := by rw [e5]; exact FR_upA w.2.1 kb h4 k4 rfl rfl (by decide)
  have f8 : FR [(2, 4), (2, 5), (2, 6)] Z I5 Z I8 := by rw [e8]; exact FR_upA w5.2.1 kb h5 k5 rfl rfl (by decide)
  have f11 : FR [(2, 4), (2, 5), (2, 6)] Z I8 Z I11 := by rw [e11]; exact FR_upA w8.2.1 kb h6 k6 rfl rfl (by decide)
  refine hQ I11 L w11 ((f5.trans w.1 w.2.1 f8).trans w.1 w.2.1 f11) ⟨?_, fun i hi => ?_⟩ ⟨?_, fun i hi => ?_⟩ ⟨?_, fun i hi => ?_⟩ (fun x h1 h2 h3 => ?_)
  · rw [e11, jpI_ne n46, e8, jpI_ne n45, e5, jpI_at]
  · rw [e11, jpI_ne n46, e8, jpI_ne n45, e5, jpI_off hi]
  · rw [e11, jpI_ne n56, e8, jpI_at, e5, jpI_ne nq4]
  · rw [e11, jpI_ne n56, e8, jpI_off hi, e5, jpI_ne n45.symm]
  · rw [e11, jpI_at, e8, jpI_ne nq5, e5, jpI_ne nq4]
  · rw [e11, jpI_off hi, e8, jpI_ne n56.symm, e5, jpI_ne n46.symm]
  · rw [e11, jpI_ne h3, e8, jpI_ne h2, e5, jpI_ne h1]
theorem pk_L55 {Z : jZ} {I0 : jI} (w0 : WD Z I0) (v0 uA b a4 a5 a6 : Nat) (kv0 : jk Z v0 11) (hA : jr Z v0 3 = some uA) (kb : jk Z b 2) (h4 : jr Z b 4 = some a4) (h5 : jr Z b 5 = some a5) (h6 : jr Z b 6 = some a6) (k4 : jk Z a4 14) (k5 : jk Z a5 14) (k6 : jk Z a6 14) (n45 : a4 ≠ a5) (n46 : a4 ≠ a6) (n56 : a5 ≠ a6) {Q : Int32 → jI → jL → Prop} (hQ : ∀ (I' : jI) (L' : jL), WD Z I' → FR [(2, 4), (2, 5), (2, 6), (2, 8)] Z I0 Z I' → (∀ (p q : Nat), (p : Int) < (I0 v0 4).toInt → jr Z uA p = some q → I' a4 p = I0 q 5 ∧ I' a5 p = I0 q 6 ∧ I' a6 p = I0 q 7) → (∀ x, x ≠ b → x ≠ a4 → x ≠ a5 → x ≠ a6 → I' x = I0 x) → I' b 7 = I0 b 7 → Q 1 I' L') :
    ∀ (n p : Nat) (v3 : Int32) (I : jI) (L : jL), 7 ≤ n + p → p ≤ 6 → v3.toInt = (p : Int) → WD Z I → FR [(2, 4), (2, 5), (2, 6)] Z I0 Z I → (∀ i q, i < p → jr Z uA i = some q → I a4 i = I0 q 5 ∧ I a5 i = I0 q 6 ∧ I a6 i = I0 q 7) → (∀ x, x ≠ a4 → x ≠ a5 → x ≠ a6 → I x = I0 x) → f_X11_keep_L55 Z Q n v0 b v3 I L := by
  have z1 : (1 : Int32).toInt = 1 := rfl
  have n6 : 0 ≤ (I0 v0 4).toInt ∧ (I0 v0 4).toInt ≤ 6 := w0.fld 11 4 kv0 (by decide)
  obtain ⟨x, ex, kA, lA⟩ := sh_f w0.1 kv0 (j := 3) (k := 18) (m := 6) rfl
  cases hA.symm.trans ex
  intro n
  induction n with
  | zero => intro p v3 I L hk hi; omega
  | succ n ih =>
    intro p v3 I L hk hi e3 w f hT ho
    have e4 : (I v0 4).toInt = (I0 v0 4).toInt := by rw [f.2.2.1 v0 11 4 kv0 (by decide) (by decide)]
    have n3 : v3.toNatClampNeg = p := by have := i_nat e3 (by omega); omega
    have nx : ∀ y : Int32, y = v3 + 1 → y.toInt = ((p + 1 : Nat) : Int) := fun y ey => by rw [ey]; exact (i_add e3 z1 (by omega) (by omega)).trans (by omega)
    unfold f_X11_keep_L55
    refine ⟨fun c => ?_, fun c => ?_⟩
    · have c := (i_le e4 e3).mp c
      intro I3 e3'
      have w3 : WD Z I3 := by rw [e3']; exact WD_putF w 2 8 kb (by decide) (by decide) trivial
      have f3 : FR [(2, 8)] Z I Z I3 := by rw [e3']; exact FR_putF kb (by decide) List.mem_cons_self
      refine hQ I3 L w3 ((f.mono (by decide)).trans w0.1 w0.2.1 (f3.mono (by decide))) (fun i q hi hq => ?_) (fun x h0 h1 h2 h3 => ?_) ?_
      · rw [e3', jpI_ne (ks_ne k4 kb (by decide)), jpI_ne (ks_ne k5 kb (by decide)), jpI_ne (ks_ne k6 kb (by decide))]
        exact hT i q (by omega) hq
      · rw [e3', jpI_ne h0]; exact ho x h1 h2 h3
      · rw [e3', jpI_o (by decide), ho b (ks_ne kb k4 (by decide)) (ks_ne kb k5 (by decide)) (ks_ne kb k6 (by decide))]
    · have c := (not_congr (i_le e4 e3)).mp c
      refine s_X11_find w v0 v3 kv0 (fun r hr => ⟨fun e => ?_, fun q0 e => ?_⟩)
      · have no := hr.2 e (by omega) (by omega) uA hA
        rw [n3] at no
        unfold f_X11_keep_b82
        intro x ex
        refine ih (p + 1) x I L (by omega) (by omega) (nx x ex) w f (fun i q l hq => ?_) ho
        by_cases c9 : i = p
        · rw [c9, no] at hq; cases hq
        · exact hT i q (by omega) hq
      · have kq := (hr.1 q0 e).1
        have hq0 := (hr.1 q0 e).2.2.2 uA hA
        rw [n3] at hq0
        have yq : I q0 = I0 q0 := ho q0 (ks_ne kq k4 (by decide)) (ks_ne kq k5 (by decide)) (ks_ne kq k6 (by decide))
        refine r_putPilgrim w b q0 a4 a5 a6 p v3 e3 (by omega) kb kq h4 h5 h6 k4 k5 k6 n45 n46 n56 (fun I3 L3 w3 f3 g5 g6 g7 go => ?_)
        unfold f_X11_keep_b82
        intro x ex
        refine ih (p + 1) x I3 L3 (by omega) (by omega) (nx x ex) w3 (f.trans w0.1 w0.2.1 f3) (fun i q l hq => ?_) (fun x h1 h2 h3 => (go x h1 h2 h3).trans (ho x h1 h2 h3))
        by_cases c9 : i = p
        · subst c9
          cases hq0.symm.trans hq
          rw [g5.1, g6.1, g7.1, yq]
          exact ⟨rfl, rfl, rfl⟩
        · rw [g5.2 i c9, g6.2 i c9, g7.2 i c9]
          exact hT i q (by omega) hq
set_option maxHeartbeats 1000000 in
theorem pl_X11_keep {Z : jZ} {I : jI} {L : jL} (w : WD Z I) (v0 : Nat) (v1 : Int32) (kv0 : jk Z v0 11) (uA uS : Nat) (hA : jr Z v0 3 = some uA) (hS : jr Z v0 8 = some uS) {Q : Int32 → jI → jL → Prop} (hQ : ∀ (r : Int32) (I' : jI) (L' : jL), WD Z I' → FR Ws_X11_keep Z I Z I' → KBP Z I I' v0 uA uS v1 r.toInt → Q r I' L') : f_X11_keep v0 v1 Z I L Q := by
  have z0 : (0 : Int32).toInt = 0 := rfl
  have z2 : (2 : Int32).toInt = 2 := rfl
  have bad : Q (0 : Int32) I L := hQ _ I L w FR.rf ⟨fun q => absurd q (by decide), fun _ => rfl⟩
  obtain ⟨x, ex, kS, lS⟩ := sh_f w.1 kv0 (j := 8) (k := 17) (m := 2) rfl
  cases hS.symm.trans ex
  obtain ⟨x, ex, kA, lA⟩ := sh_f w.1 kv0 (j := 3) (k := 18) (m := 6) rfl
  cases hA.symm.trans ex
  obtain ⟨uF, hF, kF⟩ := sh_o w.1 kv0 (j := 2) (k := 8) rfl
  obtain ⟨uP, huP, kP⟩ := sh_o w.1 kF (j := 4) (k := 4) rfl
  obtain ⟨x0, hx0, kx0, -⟩ := sh_f w.1 kP (j := 0) (k := 14) (m := 192) rfl
  obtain ⟨x1, hx1, kx1, -⟩ := sh_f w.1 kF (j := 1) (k := 14) (m := 24) rfl
  obtain ⟨x2, hx2, kx2, -⟩ := sh_f w.1 kF (j := 2) (k := 14) (m := 24) rfl
  obtain ⟨uE, hE, kE, lE⟩ := sh_f w.1 kv0 (j := 5) (k := 14) (m := 8) rfl
  unfold f_X11_keep
  refine ⟨fun _ => bad, fun c => ?_⟩
  have c := (not_congr (i_lt rfl z0)).mp c
  intro b hb; cases hS.symm.trans hb
  refine ⟨fun c2 => ?_, fun _ => bad⟩
  have c2 := (i_lt rfl z2).mp c2
  have n1 := i_nat (x := v1) rfl (by omega)
  have vi : vp_in v1 2 := vi_of rfl (by omega) (by omega)
  intro b hb; cases hS.symm.trans hb
  refine ⟨vi, fun b24 h24 => ?_⟩
  obtain ⟨y, ey, ky⟩ := w.1.2.2.1 uS kS v1.toNatClampNeg (by rw [lS]; omega)
  cases h24.symm.trans ey
  obtain ⟨a0, ha0, ka0, -⟩ := sh_f w.1 ky (j := 0) (k := 14) (m := 24) rfl
  obtain ⟨a1, ha1, ka1, -⟩ := sh_f w.1 ky (j := 1) (k := 14) (m := 24) rfl
  obtain ⟨a2, ha2, ka2, -⟩ := sh_f w.1 ky (j := 2) (k := 14) (m := 192) rfl
  obtain ⟨uG, hG, kG, lG⟩ := sh_f w.1 ky (j := 3) (k := 14) (m := 8) rfl
  obtain ⟨a4, h4, k4, -⟩ := sh_f w.1 ky (j := 4) (k := 14) (m := 6) rfl
  obtain ⟨a5, h5, k5, -⟩ := sh_f w.1 ky (j := 5) (k := 14) (m := 6) rfl
  obtain ⟨a6, h6, k6, -⟩ := sh_f w.1 ky (j := 6) (k := 14) (m := 6) rfl
  have dd : ∀ {a c j b a' c' j' b'}, jk Z a c → jk Z a' c' → jr Z a j = some b → jr Z a' j' = some b' → jsr c j = false → jsr c' j' = false → ¬ (a = a' ∧ j = j') → b ≠ b' := fun ka ka' h h' s s' n e => by
    subst e
    exact n (w.2.1.2.2 _ _ _ _ _ _ _ ka ka' h h' s s')
  have n45 : a4 ≠ a5 := dd ky ky h4 h5 rfl rfl (fun h => absurd h.2 (by decide))
  have n46 : a4 ≠ a6 := dd ky ky h4 h6 rfl rfl (fun h => absurd h.2 (by decide))
  have n56 : a5 ≠ a6 := dd ky ky h5 h6 rfl rfl (fun h => absurd h.2 (by decide))
  intro b hb; cases hF.symm.trans hb
  refine pu_stairs w b24 uF ky kF a0 a1 a2 x1 x2 uP x0 ha0 ha1 ha2 hx1 hx2 huP hx0 (fun I1 L1 w1 f1 o1 p0 p1 p2 => ?_)
  intro b hb; cases hE.symm.trans hb
  intro b hb; cases hG.symm.trans hb
  refine ⟨by decide, ?_⟩
  intro I35 e35 I36 e36
  have w35 : WD Z I35 := by rw [e35]; exact WD_cpy w1 2 3 ky hG kG rfl rfl (by decide) (fun _ _ _ => trivial)
  have f35 : FR [(2, 3)] Z I1 Z I35 := by rw [e35]; exact FR_upA w1.2.1 ky hG kG rfl rfl List.mem_cons_self
  have o35 : ∀ a, a ≠ uG → I35 a = I1 a := fun a ha => by rw [e35]; exact va_up_ne _ _ ha
  have w36 : WD Z I36 := by rw [e36]; exact WD_putF w35 2 7 ky (by decide) (by decide) trivial
  have f36 : FR [(2, 7)] Z I35 Z I36 := by rw [e36]; exact FR_putF ky (by decide) List.mem_cons_self
  have g36 : FR Ws_X11_keep Z I Z I36 := ((f1.mono (by decide)).trans w.1 w.2.1 (f35.mono (by decide))).trans w.1 w.2.1 (f36.mono (by decide))
  have o36 : ∀ a, a ≠ b24 → a ≠ a0 → a ≠ a1 → a ≠ a2 → a ≠ uG → I36 a = I a := fun a h0 h1 h2 h3 h4 => by rw [e36, jpI_ne h0, o35 a h4, o1 a h1 h2 h3]
  have y4 : (I35 v0 4) = I v0 4 := by rw [o35 v0 (ks_ne kv0 kG (by decide)), o1 v0 (ks_ne kv0 ka0 (by decide)) (ks_ne kv0 ka1 (by decide)) (ks_ne kv0 ka2 (by decide))]
  refine ⟨7, pk_L55 w36 v0 uA b24 a4 a5 a6 kv0 hA ky h4 h5 h6 k4 k5 k6 n45 n46 n56 (fun I4 L4 w4 f4 hT ho h7 => ?_) 7 0 0 I36 L1 (by omega) (by omega) rfl w36 FR.rf (fun i q l => absurd l (Nat.not_lt_zero i)) (fun _ _ _ _ => rfl)⟩
  refine hQ 1 I4 L4 w4 (g36.trans w.1 w.2.1 (f4.mono (by decide))) ⟨fun _ i b' a4' a5' a6' hi hb' h4' h5' h6' => ⟨fun ei => ?_, fun ni => ?_⟩, fun q => absurd rfl q⟩
  · rw [ei] at hb'
    cases h24.symm.trans hb'
    cases h4.symm.trans h4'
    cases h5.symm.trans h5'
    cases h6.symm.trans h6'
    refine ⟨by rw [h7, e36, jpI_at, y4], fun p q hp hq => ?_⟩
    have kq := w.1.2.1 uA kA p q hq
    have yq : I36 q = I q := o36 q (ks_ne kq ky (by decide)) (ks_ne kq ka0 (by decide)) (ks_ne kq ka1 (by decide)) (ks_ne kq ka2 (by decide)) (ks_ne kq kG (by decide))
    have yv : I36 v0 4 = I v0 4 := by rw [e36, jpI_ne (ks_ne kv0 ky (by decide)), y4]
    have t := hT p q (by rw [yv]; exact hp) hq
    rw [yq] at t
    exact t
  · obtain ⟨y', ey', ky'⟩ := w.1.2.2.1 uS kS i (by rw [lS]; exact hi)
    cases hb'.symm.trans ey'
    have nb : b' ≠ b24 := dd kS kS hb' h24 rfl rfl (fun h => ni h.2)
    obtain ⟨x4, g4, c4, -⟩ := sh_f w.1 ky' (j := 4) (k := 14) (m := 6) rfl
    cases h4'.symm.trans g4
    obtain ⟨x5, g5, c5, -⟩ := sh_f w.1 ky' (j := 5) (k := 14) (m := 6) rfl
    cases h5'.symm.trans g5
    obtain ⟨x6, g6, c6, -⟩ := sh_f w.1 ky' (j := 6) (k := 14) (m := 6) rfl
    cases h6'.symm.trans g6
    have far : ∀ {j a j' a'}, jr Z b' j = some a → jr Z b24 j' = some a' → jsr 2 j = false → jsr 2 j' = false → a ≠ a' := fun h h' s s' => dd ky' ky h h' s s' (fun q => nb q.1)
    have hs2 : ∀ j, jsr 2 j = false := fun j => by unfold jsr; simp
    have arr : ∀ {j a}, jr Z b' j = some a → jk Z a 14 → I4 a = I a := fun {j a} h k => by
      rw [ho a (ks_ne k ky (by decide)) (far h h4 (hs2 _) (hs2 _)) (far h h5 (hs2 _) (hs2 _)) (far h h6 (hs2 _) (hs2 _)), o36 a (ks_ne k ky (by decide)) (far h ha0 (hs2 _) (hs2 _)) (far h ha1 (hs2 _) (hs2 _)) (far h ha2 (hs2 _) (hs2 _)) (far h hG (hs2 _) (hs2 _))]
    refine ⟨?_, arr h4' c4, arr h5' c5, arr h6' c6⟩
    rw [ho b' nb (ks_ne ky' k4 (by decide)) (ks_ne ky' k5 (by decide)) (ks_ne ky' k6 (by decide)), o36 b' nb (ks_ne ky' ka0 (by decide)) (ks_ne ky' ka1 (by decide)) (ks_ne ky' ka2 (by decide)) (ks_ne ky' kG (by decide))]
/-! ===== the reference: again: where PILGRIMS are ===== -/
def Wpg : List (Nat × Nat) := [(12, 14), (12, 15), (12, 16), (12, 17), (12, 52), (12, 66)]
/-- what again makes of the pilgrims -/
def PG2 (I' I : jI) (u14 u15 u16 u62 u65 i : Nat) : Prop := ∀ p : Nat, p < 6 → ((p : Int) < (I u65 i).toInt → I' u14 p = I u62 (266 * i + (240 + 3 * p)) ∧ I' u15 p = I u62 (266 * i + (240 + 3 * p + 1)) ∧ I' u16 p = I u62 (266 * i + (240 + 3 * p + 2))) ∧ (¬ (p : Int) < (I u65 i).toInt → I' u14 p = I u14 p ∧ I' u15 p = I u15 p ∧ I' u16 p = I u16 p)
theorem pg_L175 {Z : jZ} {J : jI} (wJ : WD Z J) (v0 : Nat) (k0 : jk Z v0 12) (u62 u17 : Nat) (h62 : jr Z v0 62 = some u62) (h17 : jr Z v0 17 = some u17) (k17 : jk Z u17 14) (i : Nat) (hi : i < 2) {Q : Int32 → jI → jL → Prop} (hQ : ∀ (I : jI) (L : jL), WD Z I → FR [(12, 17), (12, 52), (12, 66)] Z J Z I → Q 1 I L) :
    ∀ (n p : Nat) (v2 : Int32) (I : jI) (L : jL), WD Z I → FR [(12, 17), (12, 66)] Z J Z I → (I v0 66).toInt = 266 * (i : Int) + ((258 + p : Nat) : Int) → v2.toInt = (p : Int) → p ≤ 8 → 9 ≤ n + p → f_X12_again_L175 Z Q n v0 v2 I L := by
  have z1 : (1 : Int32).toInt = 1 := rfl
  have z8 : (8 : Int32).toInt = 8 := rfl
  intro n
  induction n with
  | zero => intro p v2 I L w f t e1 e2 e4; exfalso; omega
  | succ n ih =>
    intro p v2 I L w f t e1 e2 e4
    unfold f_X12_again_L175
    refine ⟨fun c => ?_, fun c => ?_⟩
    · intro I2 e9
      exact hQ I2 L (by rw [e9]; exact WD_putF w 12 52 k0 (by decide) (by decide) (by constructor <;> decide)) ((f.mono (by decide)).trans wJ.1 wJ.2.1 (by rw [e9]; exact FR_putF k0 (by decide) (by decide)))
    have c := (not_congr (i_le z8 e1)).mp c
    have q := i_nat e1 (by omega)
    have q : v2.toNatClampNeg = p := by omega
    intro b hb; cases h17.symm.trans hb
    refine ag_take w k0 h62 hi (by omega) t (fun I1 L1 w1 f1 t1 _ => ?_)
    refine ⟨vi_of e1 (by omega) (by omega), ?_⟩
    intro I12 e12 x13 e13
    have w12 : WD Z I12 := by rw [e12]; exact WD_putA w1 12 17 k0 h17 k17 rfl rfl (by decide) trivial
    refine ih (p + 1) x13 I12 L1 w12 ((f.trans wJ.1 wJ.2.1 (f1.mono (by decide))).trans wJ.1 wJ.2.1 (by rw [e12]; exact FR_upA w1.2.1 k0 h17 k17 rfl rfl (by decide))) ?_ ?_ (by omega) (by omega)
    · rw [e12, jpI_ne (ks_ne k0 k17 (by decide)), t1]; omega
    · rw [e13]; exact (i_add e1 z1 (by omega) (by omega)).trans (by omega)
set_option maxHeartbeats 4000000 in
theorem pg_L108 {Z : jZ} {J : jI} (wJ : WD Z J) (v0 : Nat) (v1 : Int32) (k0 : jk Z v0 12) (u62 : Nat) (h62 : jr Z v0 62 = some u62) (k62 : jk Z u62 14) (u14 u15 u16 u65 : Nat) (h14 : jr Z v0 14 = some u14) (k14 : jk Z u14 14) (h15 : jr Z v0 15 = some u15) (k15 : jk Z u15 14) (h16 : jr Z v0 16 = some u16) (k16 : jk Z u16 14) (h65 : jr Z v0 65 = some u65) (k65 : jk Z u65 14) (i : Nat) (hi : i < 2) (ev : v1.toInt = (i : Int)) {Q : Int32 → jI → jL → Prop}
    (hQ : ∀ (I : jI) (L : jL), WD Z I → FR Wpg Z J Z I → PG2 I J u14 u15 u16 u62 u65 i → Q (1 : Int32) I L) :
    ∀ (n p : Nat) (v2 : Int32) (I : jI) (L : jL), WD Z I → FR [(12, 14), (12, 15), (12, 16), (12, 66)] Z J Z I → (I v0 66).toInt = 266 * (i : Int) + ((240 + 3 * p : Nat) : Int) → v2.toInt = (p : Int) → p ≤ 6 ∧ 7 ≤ n + p → (∀ s, s < 6 → ((s < p ∧ (s : Int) < (J u65 i).toInt) → I u14 s = J u62 (266 * i + (240 + 3 * s)) ∧ I u15 s = J u62 (266 * i + (240 + 3 * s + 1)) ∧ I u16 s = J u62 (266 * i + (240 + 3 * s + 2))) ∧ (¬ (s < p ∧ (s : Int) < (J u65 i).toInt) → I u14 s = J u14 s ∧ I u15 s = J u15 s ∧ I u16 s = J u16 s)) → f_X12_again_L108 Z Q n v0 v1 v2 I L := by
  have z1 : (1 : Int32).toInt = 1 := rfl
  have z6 : (6 : Int32).toInt = 6 := rfl
  have z0 : (0 : Int32).toInt = ((0 : Nat) : Int) := rfl
  have n45 : u14 ≠ u15 := ds_ne wJ.2.1 k0 h14 h15 rfl rfl (by decide)
  have n46 : u14 ≠ u16 := ds_ne wJ.2.1 k0 h14 h16 rfl rfl (by decide)
  have n56 : u15 ≠ u16 := ds_ne wJ.2.1 k0 h15 h16 rfl rfl (by decide)
  obtain ⟨u17, h17, k17, -⟩ := sh_f wJ.1 k0 (j := 17) (k := 14) (m := 8) rfl
  intro n
  induction n with
  | zero => intro p v2 I L w f t e1 e2 e3; exfalso; omega
  | succ n ih =>
    intro p v2 I L w f t e1 e2 e3
    have y62 : I u62 = J u62 := f.2.2.2 v0 12 62 u62 k0 h62 (by rw [k62.2]; rfl) rfl (by decide)
    have nx : ∀ y : Int32, y = v2 + 1 → y.toInt = ((p + 1 : Nat) : Int) := fun y ey => by rw [ey]; exact (i_add e1 z1 (by omega) (by omega)).trans (by omega)
    unfold f_X12_again_L108
    refine ⟨fun c => ?_, fun c => ?_⟩
    · have c := (i_le z6 e1).mp c
      refine ⟨9, pg_L175 w v0 k0 u62 u17 h62 h17 k17 i hi (fun I' L' w' f' => ?_) 9 0 0 I L w FR.rf (by rw [t]; omega) z0 (by omega) (by omega)⟩
      refine hQ I' L' w' ((f.mono (by decide)).trans wJ.1 wJ.2.1 (f'.mono (by decide))) (fun s hs => ?_)
      rw [f'.2.2.2 v0 12 14 u14 k0 h14 (by rw [k14.2]; rfl) rfl (by decide), f'.2.2.2 v0 12 15 u15 k0 h15 (by rw [k15.2]; rfl) rfl (by decide), f'.2.2.2 v0 12 16 u16 k0 h16 (by rw [k16.2]; rfl) rfl (by decide)]
      have h := e3 s hs
      exact ⟨fun l => h.1 ⟨by omega, l⟩, fun l => h.2 (fun q => l q.2)⟩
    have c := (not_congr (i_le z6 e1)).mp c
    have q := i_nat e1 (by omega)
    have q : v2.toNatClampNeg = p := by omega
    have qi : v1.toNatClampNeg = i := by have := i_nat ev (by omega); omega
    refine ag_take w k0 h62 hi (by omega) t (fun I1 L1 w1 f1 t1 ok1 => ?_)
    have y1 : I1 u62 = I u62 := f1.2.2.2 v0 12 62 u62 k0 h62 (by rw [k62.2]; rfl) rfl (by decide)
    refine ag_take w1 k0 h62 hi (by omega) t1 (fun I2 L2 w2 f2 t2 ok2 => ?_)
    have y2 : I2 u62 = I1 u62 := f2.2.2.2 v0 12 62 u62 k0 h62 (by rw [k62.2]; rfl) rfl (by decide)
    refine ag_take w2 k0 h62 hi (by omega) t2 (fun I3 L3 w3 f3 t3 ok3 => ?_)
    have f03 : FR [(12, 66)] Z I Z I3 := (f1.trans w.1 w.2.1 f2).trans w.1 w.2.1 f3
    have ar : ∀ {j u}, jr Z v0 j = some u → jk Z u 14 → jsr 12 j = false → (12, j) ∉ [((12 : Nat), (66 : Nat))] → I3 u = I u := fun {j u} h k hs hn => f03.2.2.2 v0 12 j u k0 h (by rw [k.2]; rfl) hs hn
    have a14 := ar h14 k14 rfl (by decide)
    have a15 := ar h15 k15 rfl (by decide)
    have a16 := ar h16 k16 rfl (by decide)
    have y65 : I3 u65 = J u65 := (ar h65 k65 rfl (by decide)).trans (f.2.2.2 v0 12 65 u65 k0 h65 (by rw [k65.2]; rfl) rfl (by decide))
    intro b hb; cases h65.symm.trans hb
    rw [qi, q, y65]
    refine ⟨vi_of ev (by omega) (by omega), fun c5 => ?_, fun c5 => ?_⟩
    · have c5 := (i_lt e1 rfl).mp c5
      intro b hb; cases h14.symm.trans hb
      refine ⟨vi_of e1 (by omega) (by omega), fun I4 e4 => ?_⟩
      intro b hb; cases h15.symm.trans hb
      refine ⟨vi_of e1 (by omega) (by omega), fun I5 e5 => ?_⟩
      intro b hb; cases h16.symm.trans hb
      refine ⟨vi_of e1 (by omega) (by omega), fun I6 e6 => ?_⟩
      have w4 : WD Z I4 := by rw [e4]; exact WD_putA w3 12 14 k0 h14 k14 rfl rfl (by decide) (ok1.2.2 (by omega) (by omega) (by omega))
      have w5 : WD Z I5 := by rw [e5]; exact WD_putA w4 12 15 k0 h15 k15 rfl rfl (by decide) trivial
      have w6 : WD Z I6 := by rw [e6]; exact WD_putA w5 12 16 k0 h16 k16 rfl rfl (by decide) trivial
      have f46 : FR [(12, 14), (12, 15), (12, 16)] Z I3 Z I6 := ((by rw [e4]; exact FR_upA w3.2.1 k0 h14 k14 rfl rfl (by decide) : FR [(12, 14), (12, 15), (12, 16)] Z I3 Z I4).trans w3.1 w3.2.1 (by rw [e5]; exact FR_upA w4.2.1 k0 h15 k15 rfl rfl (by decide) : FR [(12, 14), (12, 15), (12, 16)] Z I4 Z I5)).trans w3.1 w3.2.1 (by rw [e6]; exact FR_upA w5.2.1 k0 h16 k16 rfl rfl (by decide))
      unfold f_X12_again_b167
      intro x14 e14
      refine ih (p + 1) x14 I6 L3 w6 ((f.trans wJ.1 wJ.2.1 (f03.mono (by decide))).trans wJ.1 wJ.2.1 (f46.mono (by decide))) ?_ (nx x14 e14) (by omega) (fun s hs => ?_)
      · rw [f46.2.2.1 v0 12 66 k0 (by decide) (by decide), t3]; omega
      · have h := e3 s hs
        by_cases hq : s = p
        · subst hq
          refine ⟨fun _ => ?_, fun l => absurd ⟨Nat.lt_succ_self s, c5⟩ l⟩
          rw [e6, jpI_ne n46, jpI_ne n56, jpI_at, e5, jpI_ne n45, jpI_at, e4, jpI_at, y2, y1, y62]
          exact ⟨rfl, by rw [show 240 + 3 * s + 1 = 240 + 3 * s + 1 from rfl], rfl⟩
        · rw [e6, jpI_ne n46, jpI_ne n56, jpI_off hq, e5, jpI_ne n45, jpI_off hq, jpI_ne n56.symm, e4, jpI_off hq, jpI_ne n45.symm, jpI_ne n46.symm, a14, a15, a16]
          exact ⟨fun l => h.1 ⟨by omega, l.2⟩, fun l => h.2 (fun q => l ⟨by omega, q.2⟩)⟩
    · have c5 := (not_congr (i_lt e1 rfl)).mp c5
      unfold f_X12_again_b167
      intro x14 e14
      refine ih (p + 1) x14 I3 L3 w3 (f.trans wJ.1 wJ.2.1 (f03.mono (by decide))) (by rw [t3]; omega) (nx x14 e14) (by omega) (fun s hs => ?_)
      have h := e3 s hs
      rw [a14, a15, a16]
      refine ⟨fun l => h.1 ⟨?_, l.2⟩, fun l => h.2 (fun q => l ⟨by omega, q.2⟩)⟩
      have : s ≠ p := fun e => by subst e; exact c5 l.2
      omega
theorem pg_L83 {Z : jZ} {J : jI} (wJ : WD Z J) (v0 : Nat) (v1 : Int32) (k0 : jk Z v0 12) (u62 : Nat) (h62 : jr Z v0 62 = some u62) (k62 : jk Z u62 14) (u5 : Nat) (h5 : jr Z v0 5 = some u5) (k5 : jk Z u5 14) (u14 u15 u16 u65 : Nat) (h14 : jr Z v0 14 = some u14) (k14 : jk Z u14 14) (h15 : jr Z v0 15 = some u15) (k15 : jk Z u15 14) (h16 : jr Z v0 16 = some u16) (k16 : jk Z u16 14) (h65 : jr Z v0 65 = some u65) (k65 : jk Z u65 14) (i : Nat) (hi : i < 2) (ev : v1.toInt = (i : Int)) {Q : Int32 → jI → jL → Prop}
    (hQ : ∀ (I : jI) (L : jL), WD Z I → FR ((12, 5) :: Wpg) Z J Z I → PG2 I J u14 u15 u16 u62 u65 i → Q (1 : Int32) I L) :
    ∀ (n p : Nat) (v2 : Int32) (I : jI) (L : jL), WD Z I → FR ((12, 5) :: Wpg) Z J Z I → (I v0 66).toInt = 266 * (i : Int) + ((48 + p : Nat) : Int) → v2.toInt = (p : Int) → p ≤ 192 → (I u14 = J u14 ∧ I u15 = J u15 ∧ I u16 = J u16) → 193 ≤ n + p → f_X12_again_L83 Z Q n v0 v1 v2 I L := by
  have z1 : (1 : Int32).toInt = 1 := rfl
  intro n
  induction n with
  | zero => intro p v2 I L w f t e1 e2 e3 e4; exfalso; omega
  | succ n ih =>
    intro p v2 I L w f t e1 e2 e3 e4
    have y62 : I u62 = J u62 := f.2.2.2 v0 12 62 u62 k0 h62 (by rw [k62.2]; rfl) rfl (by decide)
    unfold f_X12_again_L83
    refine ⟨fun c => ?_, fun c => ?_⟩
    · have c := (i_le (show (192 : Int32).toInt = 192 from rfl) e1).mp c
      have z0 : (0 : Int32).toInt = 0 := rfl
      have y65 : I u65 = J u65 := f.2.2.2 v0 12 65 u65 k0 h65 (by rw [k65.2]; rfl) rfl (by decide)
      refine ⟨7, pg_L108 w v0 v1 k0 u62 h62 k62 u14 u15 u16 u65 h14 k14 h15 k15 h16 k16 h65 k65 i hi ev (fun I' L' w' f' hp => ?_) 7 0 0 I L w FR.rf (by rw [t]; omega) z0 (by omega) (fun p hp => ⟨fun l => absurd l.1 (Nat.not_lt_zero p), fun _ => ⟨rfl, rfl, rfl⟩⟩)⟩
      refine hQ I' L' w' (f.trans wJ.1 wJ.2.1 (f'.mono (by decide))) (fun p hp6 => ?_)
      have h9 := hp p hp6
      rw [y62, y65, e3.1, e3.2.1, e3.2.2] at h9
      exact h9
    have c := (not_congr (i_le (show (192 : Int32).toInt = 192 from rfl) e1)).mp c
    have q := i_nat e1 (by omega)
    have q : v2.toNatClampNeg = p := by omega
    intro b52 e52
    cases h5.symm.trans e52
    refine ag_take w k0 h62 hi (by omega) t (fun I1 L1 w1 f1 t1 _ => ?_)
    refine ⟨vi_of e1 (by omega) (by omega), ?_⟩
    intro I61 e61 x62 e62
    rw [q, y62] at e61
    have w61 : WD Z I61 := by rw [e61]; exact WD_putA w1 12 5 k0 h5 k5 rfl rfl (by decide) trivial
    have f61 : FR ((12, 5) :: Wpg) Z J Z I61 := (f.trans wJ.1 wJ.2.1 (f1.mono (by decide))).trans wJ.1 wJ.2.1 (by rw [e61]; exact FR_upA w1.2.1 k0 h5 k5 rfl rfl (by decide))
    refine ih (p + 1) x62 I61 L1 w61 f61 ?_ ?_ (by omega) ?_ (by omega)
    · rw [e61, jpI_ne (ks_ne k0 k5 (by decide)), t1]; omega
    · rw [e62]; exact (i_add e1 z1 (by omega) (by omega)).trans (by omega)
    · have n5 : ∀ {j u}, jr Z v0 j = some u → jk Z u 14 → j ≠ 5 → jsr 12 j = false → u ≠ u5 := fun h k hj hs => ds_ne wJ.2.1 k0 h h5 hs rfl hj
      have ar : ∀ {j u}, jr Z v0 j = some u → jk Z u 14 → j ≠ 5 → jsr 12 j = false → (12, j) ∉ [((12 : Nat), (66 : Nat))] → I61 u = I u := fun {j u} h k hj hs hn => by
        rw [e61, jpI_ne (n5 h k hj hs)]
        exact f1.2.2.2 v0 12 j u k0 h (by rw [k.2]; rfl) hs hn
      exact ⟨(ar h14 k14 (by decide) rfl (by decide)).trans e3.1, (ar h15 k15 (by decide) rfl (by decide)).trans e3.2.1, (ar h16 k16 (by decide) rfl (by decide)).trans e3.2.2⟩
theorem pg_L49 {Z : jZ} {J : jI} (wJ : WD Z J) (v0 : Nat) (v1 : Int32) (k0 : jk Z v0 12) (u62 : Nat) (h62 : jr Z v0 62 = some u62) (k62 : jk Z u62 14) (u2 : Nat) (h2 : jr Z v0 2 = some u2) (k2 : jk Z u2 14) (u3 : Nat) (h3 : jr Z v0 3 = some u3) (k3 : jk Z u3 14) (u5 : Nat) (h5 : jr Z v0 5 = some u5) (k5 : jk Z u5 14) (u14 u15 u16 u65 : Nat) (h14 : jr Z v0 14 = some u14) (k14 : jk Z u14 14) (h15 : jr Z v0 15 = some u15) (k15 : jk Z u15 14) (h16 : jr Z v0 16 = some u16) (k16 : jk Z u16 14) (h65 : jr Z v0 65 = some u65) (k65 : jk Z u65 14) (i : Nat) (hi : i < 2) (ev : v1.toInt = (i : Int)) {Q : Int32 → jI → jL → Prop}
    (hQ : ∀ (I : jI) (L : jL), WD Z I → FR ((12, 2) :: (12, 3) :: (12, 5) :: Wpg) Z J Z I → PG2 I J u14 u15 u16 u62 u65 i → Q (1 : Int32) I L) :
    ∀ (n p : Nat) (v2 : Int32) (I : jI) (L : jL), WD Z I → FR ((12, 2) :: (12, 3) :: (12, 5) :: Wpg) Z J Z I → (I v0 66).toInt = 266 * (i : Int) + ((2 * p : Nat) : Int) → v2.toInt = (p : Int) → p ≤ 24 → (I u14 = J u14 ∧ I u15 = J u15 ∧ I u16 = J u16) → 25 ≤ n + p → f_X12_again_L49 Z Q n v0 v1 v2 I L := by
  have z1 : (1 : Int32).toInt = 1 := rfl
  have z0 : (0 : Int32).toInt = ((0 : Nat) : Int) := rfl
  intro n
  induction n with
  | zero => intro p v2 I L w f t e1 e2 e3 e4; exfalso; omega
  | succ n ih =>
    intro p v2 I L w f t e1 e2 e3 e4
    have y62 : I u62 = J u62 := f.2.2.2 v0 12 62 u62 k0 h62 (by rw [k62.2]; rfl) rfl (by decide)
    unfold f_X12_again_L49
    refine ⟨fun c => ?_, fun c => ?_⟩
    · have c := (i_le (show (24 : Int32).toInt = 24 from rfl) e1).mp c
      have y65 : I u65 = J u65 := f.2.2.2 v0 12 65 u65 k0 h65 (by rw [k65.2]; rfl) rfl (by decide)
      refine ⟨193, pg_L83 w v0 v1 k0 u62 h62 k62 u5 h5 k5 u14 u15 u16 u65 h14 k14 h15 k15 h16 k16 h65 k65 i hi ev (fun I' L' w' f' hp => ?_) 193 0 0 I L w FR.rf (by rw [t]; omega) z0 (by omega) ⟨rfl, rfl, rfl⟩ (by omega)⟩
      refine hQ I' L' w' (f.trans wJ.1 wJ.2.1 (f'.mono (fun p hp => List.mem_cons_of_mem _ (List.mem_cons_of_mem _ hp)))) (fun p hp6 => ?_)
      have h9 := hp p hp6
      rw [y62, y65, e3.1, e3.2.1, e3.2.2] at h9
      exact h9
    have c := (not_congr (i_le (show (24 : Int32).toInt = 24 from rfl) e1)).mp c
    have q := i_nat e1 (by omega)
    have q : v2.toNatClampNeg = p := by omega
    intro b65 e65
    cases h2.symm.trans e65
    refine ag_take w k0 h62 hi (by omega) t (fun I1 L1 w1 f1 t1 ok1 => ?_)
    refine ⟨vi_of e1 (by omega) (by omega), ?_⟩
    intro I74 e74
    rw [q] at e74
    have w74 : WD Z I74 := by rw [e74]; exact WD_putA w1 12 2 k0 h2 k2 rfl rfl (by decide) (ok1.1 (by omega) (by omega))
    have f74 : FR ((12, 2) :: (12, 3) :: (12, 5) :: Wpg) Z J Z I74 := (f.trans wJ.1 wJ.2.1 (f1.mono (by decide))).trans wJ.1 wJ.2.1 (by rw [e74]; exact FR_upA w1.2.1 k0 h2 k2 rfl rfl (by decide))
    have t74 : (I74 v0 66).toInt = 266 * (i : Int) + ((2 * p + 1 : Nat) : Int) := by rw [e74, jpI_ne (ks_ne k0 k2 (by decide)), t1]
    intro b75 e75
    cases h3.symm.trans e75
    refine ag_take w74 k0 h62 hi (by omega) t74 (fun I2 L2 w2 f2 t2 ok2 => ?_)
    refine ⟨vi_of e1 (by omega) (by omega), ?_⟩
    intro I84 e84 x85 e85
    rw [q] at e84
    have w84 : WD Z I84 := by rw [e84]; exact WD_putA w2 12 3 k0 h3 k3 rfl rfl (by decide) (ok2.2.1 (by omega) (by omega))
    have f84 : FR ((12, 2) :: (12, 3) :: (12, 5) :: Wpg) Z J Z I84 := (f74.trans wJ.1 wJ.2.1 (f2.mono (by decide))).trans wJ.1 wJ.2.1 (by rw [e84]; exact FR_upA w2.2.1 k0 h3 k3 rfl rfl (by decide))
    refine ih (p + 1) x85 I84 L2 w84 f84 ?_ ?_ (by omega) ?_ (by omega)
    · rw [e84, jpI_ne (ks_ne k0 k3 (by decide)), t2]; omega
    · rw [e85]; exact (i_add e1 z1 (by omega) (by omega)).trans (by omega)
    · have ar : ∀ {j u}, jr Z v0 j = some u → jk Z u 14 → j ≠ 2 → j ≠ 3 → jsr 12 j = false → (12, j) ∉ [((12 : Nat), (66 : Nat))] → I84 u = I u := fun {j u} h k hj hj3 hs hn => by
        rw [e84, jpI_ne (ds_ne wJ.2.1 k0 h h3 hs rfl hj3), f2.2.2.2 v0 12 j u k0 h (by rw [k.2]; rfl) hs hn, e74, jpI_ne (ds_ne wJ.2.1 k0 h h2 hs rfl hj)]
        exact f1.2.2.2 v0 12 j u k0 h (by rw [k.2]; rfl) hs hn
      exact ⟨(ar h14 k14 (by decide) (by decide) rfl (by decide)).trans e3.1, (ar h15 k15 (by decide) (by decide) rfl (by decide)).trans e3.2.1, (ar h16 k16 (by decide) (by decide) rfl (by decide)).trans e3.2.2⟩
/-- what again makes of the reference's pilgrims -/
def PGM (Z : jZ) (v0 : Nat) (v : Int32) (r : Int) (I I' : jI) : Prop := ∀ u14 u15 u16 u62 u65, jr Z v0 14 = some u14 → jr Z v0 15 = some u15 → jr Z v0 16 = some u16 → jr Z v0 62 = some u62 → jr Z v0 65 = some u65 → (r = 1 → PG2 I' I u14 u15 u16 u62 u65 v.toNatClampNeg) ∧ (¬ r = 1 → I' u14 = I u14 ∧ I' u15 = I u15 ∧ I' u16 = I u16)
theorem pl_X12_again {Z : jZ} {I : jI} {L : jL} (w : WD Z I) (v0 : Nat) (v1 : Int32) (k0 : jk Z v0 12) {Q : Int32 → jI → jL → Prop} (hQ : ∀ (r : Int32) (I' : jI) (L' : jL), WD Z I' → FR Ws_X12_again Z I Z I' → PGM Z v0 v1 r.toInt I I' → Q r I' L') : f_X12_again v0 v1 Z I L Q := by
  have z0 : (0 : Int32).toInt = 0 := rfl
  have z0' : (0 : Int32).toInt = ((0 : Nat) : Int) := rfl
  obtain ⟨u62, h62, k62, -⟩ := sh_f w.1 k0 (j := 62) (k := 14) (m := 532) rfl
  obtain ⟨u2, h2, k2, -⟩ := sh_f w.1 k0 (j := 2) (k := 14) (m := 24) rfl
  obtain ⟨u3, h3, k3, -⟩ := sh_f w.1 k0 (j := 3) (k := 14) (m := 24) rfl
  obtain ⟨u5, h5, k5, -⟩ := sh_f w.1 k0 (j := 5) (k := 14) (m := 192) rfl
  obtain ⟨u14, h14, k14, -⟩ := sh_f w.1 k0 (j := 14) (k := 14) (m := 6) rfl
  obtain ⟨u15, h15, k15, -⟩ := sh_f w.1 k0 (j := 15) (k := 14) (m := 6) rfl
  obtain ⟨u16, h16, k16, -⟩ := sh_f w.1 k0 (j := 16) (k := 14) (m := 6) rfl
  obtain ⟨u65, h65, k65, -⟩ := sh_f w.1 k0 (j := 65) (k := 14) (m := 2) rfl
  obtain ⟨u63, h63, k63, -⟩ := sh_f w.1 k0 (j := 63) (k := 16) (m := 2) rfl
  obtain ⟨u64, h64, k64, -⟩ := sh_f w.1 k0 (j := 64) (k := 14) (m := 2) rfl
  unfold f_X12_again
  intro I1 e1
  have w1 : WD Z I1 := by rw [e1]; exact WD_putF w 12 22 k0 (by decide) (by decide) trivial
  have f1 : FR [(12, 22)] Z I Z I1 := by rw [e1]; exact FR_putF k0 (by decide) List.mem_cons_self
  have bad : Q (0 : Int32) I1 L := hQ _ I1 L w1 (f1.mono (by decide)) (fun a4 a5 a6 a7 a8 g4 g5 g6 g7 g8 => by
    cases h14.symm.trans g4
    cases h15.symm.trans g5
    cases h16.symm.trans g6
    exact ⟨fun q => absurd q (by decide), fun _ => ⟨f1.2.2.2 v0 12 14 u14 k0 h14 (by rw [k14.2]; rfl) rfl (by decide), f1.2.2.2 v0 12 15 u15 k0 h15 (by rw [k15.2]; rfl) rfl (by decide), f1.2.2.2 v0 12 16 u16 k0 h16 (by rw [k16.2]; rfl) rfl (by decide)⟩⟩)
  refine s_X12_in w1 v1 0 1 (fun r hr => ⟨fun _ => bad, fun c => ?_⟩)
  have c := (not_congr (i_eq rfl z0)).mp c
  have z1 : (1 : Int32).toInt = 1 := rfl
  rw [z0, z1] at hr
  obtain ⟨i, ei⟩ : ∃ i : Nat, v1.toInt = (i : Int) := ⟨v1.toInt.toNat, by omega⟩
  have qi : v1.toNatClampNeg = i := by have := i_nat ei (by omega); omega
  intro b hb; cases h63.symm.trans hb
  refine ⟨vi_of ei (by omega) (by omega), fun _ => bad, fun _ => ?_⟩
  intro b hb; cases h64.symm.trans hb
  refine ⟨vi_of ei (by omega) (by omega), fun _ => ?_, fun _ => bad⟩
  intro I2 e2
  have w2 : WD Z I2 := by rw [e2]; exact WD_putF w1 12 66 k0 (by decide) (by decide) trivial
  have f2 : FR [(12, 66)] Z I1 Z I2 := by rw [e2]; exact FR_putF k0 (by decide) List.mem_cons_self
  have t2 : (I2 v0 66).toInt = 266 * (i : Int) + ((2 * 0 : Nat) : Int) := by
    rw [e2, jpI_at]
    exact (i_mul (show (266 : Int32).toInt = 266 from rfl) ei (by omega) (by omega)).trans (by omega)
  have f02 : FR [(12, 22), (12, 66)] Z I Z I2 := (f1.mono (by decide)).trans w.1 w.2.1 (f2.mono (by decide))
  refine ⟨25, pg_L49 w2 v0 v1 k0 u62 h62 k62 u2 h2 k2 u3 h3 k3 u5 h5 k5 u14 u15 u16 u65 h14 k14 h15 k15 h16 k16 h65 k65 i (by omega) ei (fun I3 L3 w3 f3 hp => ?_) 25 0 0 I2 L w2 FR.rf t2 z0' (by omega) ⟨rfl, rfl, rfl⟩ (by omega)⟩
  have ar : ∀ {j u}, jr Z v0 j = some u → jk Z u 14 → jsr 12 j = false → (12, j) ∉ [((12 : Nat), (22 : Nat)), (12, 66)] → I2 u = I u := fun {j u} h k hs hn => f02.2.2.2 v0 12 j u k0 h (by rw [k.2]; rfl) hs hn
  refine hQ 1 I3 L3 w3 ((f02.mono (by decide)).trans w.1 w.2.1 (f3.mono (by decide))) (fun a4 a5 a6 a7 a8 g4 g5 g6 g7 g8 => ?_)
  cases h14.symm.trans g4
  cases h15.symm.trans g5
  cases h16.symm.trans g6
  cases h62.symm.trans g7
  cases h65.symm.trans g8
  refine ⟨fun _ p hp6 => ?_, fun q => absurd rfl q⟩
  have h := hp p hp6
  rw [ar h62 k62 rfl (by decide), ar h65 k65 rfl (by decide), ar h14 k14 rfl (by decide), ar h15 k15 rfl (by decide), ar h16 k16 rfl (by decide)] at h
  rw [qi]
  exact h
/-! ===== places of both sides over all calls ===== -/
theorem PLB_fr {W : List (Nat × Nat)} {Z Z' : jZ} {I I' : jI} {v1 v2 uV t14 t15 t16 : Nat} (f : FR W Z I Z' I') (k1 : jk Z v1 11) (kV : jk Z uV 18) (k2 : jk Z v2 12) (hW : ∀ p ∈ ([(11, 4), (5, 5), (5, 6), (5, 7), (12, 0), (12, 14), (12, 15), (12, 16)] : List (Nat × Nat)), p ∉ W) (h : PLB Z I v1 v2 uV t14 t15 t16) : PLB Z' I' v1 v2 uV t14 t15 t16 := by
  obtain ⟨r, p5, p6, p7, ha⟩ := h
  have a4 : I' t14 = I t14 := f.2.2.2 v2 12 14 t14 k2 r.1 (by rw [r.2.1.2]; rfl) rfl (hW _ (by decide))
  have a5 : I' t15 = I t15 := f.2.2.2 v2 12 15 t15 k2 r.2.2.1 (by rw [r.2.2.2.1.2]; rfl) rfl (hW _ (by decide))
  have a6 : I' t16 = I t16 := f.2.2.2 v2 12 16 t16 k2 r.2.2.2.2.1 (by rw [r.2.2.2.2.2.2]; rfl) rfl (hW _ (by decide))
  refine ⟨RPr_x f k2 r, PRr_fr f k1 kV a4 (hW _ (by decide)) (hW _ (by decide)) p5, PRr_fr f k1 kV a5 (hW _ (by decide)) (hW _ (by decide)) p6, PRr_fr f k1 kV a6 (hW _ (by decide)) (hW _ (by decide)) p7, fun i hi => ?_⟩
  rw [f.2.2.1 v1 11 4 k1 (by decide) (hW _ (by decide))] at hi
  rw [a4, f.2.2.1 v2 12 0 k2 (by decide) (hW _ (by decide))]
  exact ha i hi
theorem PLB_pil {W : List (Nat × Nat)} {Z Z' : jZ} {I I' I2 : jI} {v1 v2 uV t14 t15 t16 : Nat} {a1 a2 a3 a4 r1 r2 : Int32} (h : PLB Z I v1 v2 uV t14 t15 t16) (w : WD Z I) (x : jext Z Z') (f : FRp Z I Z' I') (n : NPp Z I Z' I' v1 a1 a2 a3 a4 r1) (p : PSp v1 a1 a2 a3 a4 r1 I I') (f2 : FR W Z' I' Z' I2) (n2 : NQm Z' I' I2 v2 a1 a2 a3 a4 r2) (er : r1.toInt = r2.toInt) (e48 : (I v1 4).toInt = (I v2 8).toInt) (k1 : jk Z v1 11) (k2 : jk Z v2 12) (hA : jr Z v1 3 = some uV) (hW : ∀ p ∈ ([(11, 4), (5, 5), (5, 6), (5, 7), (12, 0)] : List (Nat × Nat)), p ∉ W) : PLB Z' I2 v1 v2 uV t14 t15 t16 := by
  obtain ⟨r, p5, p6, p7, ha⟩ := h
  have k1' := (x _ _ k1).1
  have k2' := (x _ _ k2).1
  have g : ∀ (j b : Nat), jr Z v2 j = some b → jr Z' v2 j = some b := fun j b e => (f.1 v2 12 j k2 (by decide)).trans e
  have q5 := PRr_pil (j := 5) (m := 14) p5 x f n p f2 n2 er e48 k1 k2 hA r.2.1 r.1 (by decide) (hW _ (by decide)) (hW _ (by decide)) (fun z h => h.2.2.2.2.2.1)
  refine ⟨⟨g 14 _ r.1, (x _ _ r.2.1).1, g 15 _ r.2.2.1, (x _ _ r.2.2.2.1).1, g 16 _ r.2.2.2.2.1, (x _ _ r.2.2.2.2.2).1⟩, q5, PRr_pil (j := 6) (m := 15) p6 x f n p f2 n2 er e48 k1 k2 hA r.2.2.2.1 r.2.2.1 (by decide) (hW _ (by decide)) (hW _ (by decide)) (fun z h => h.2.2.2.2.2.2.1), PRr_pil (j := 7) (m := 16) p7 x f n p f2 n2 er e48 k1 k2 hA r.2.2.2.2.2 r.2.2.2.2.1 (by decide) (hW _ (by decide)) (hW _ (by decide)) (fun z h => h.2.2.2.2.2.2.2), fun i hi => ?_⟩
  rw [f2.2.2.1 v1 11 4 k1' (by decide) (hW _ (by decide))] at hi
  have e0 : I2 v2 0 = I v2 0 := (f2.2.2.1 v2 12 0 k2' (by decide) (hW _ (by decide))).trans (f.2 v2 12 0 k2 (by decide))
  have n0 : 0 ≤ (I v2 0).toInt := (w.fld 12 0 k2 (by decide)).1
  rw [e0]
  have a14 : ∀ i, I' t14 i = I t14 i := fun i => f.2 t14 14 i r.2.1 (by omega)
  rcases n with ⟨hr, rfl, rfl⟩ | ⟨hr, hn⟩
  · rcases n2 with ⟨-, ho⟩ | ⟨hr2, -⟩
    · rw [ho t14 (kne r.2.1 k2 (by decide))]
      exact ha i hi
    · exact absurd (er.symm.trans hr) hr2
  · rcases n2 with ⟨hr2, -⟩ | ⟨-, ho⟩
    · exact absurd (er.trans hr2) hr
    · have eU := ho 14 t14 (by decide) (by decide) (g 14 _ r.1)
      have t : (I' v1 4).toInt = (I v1 4).toInt + 1 := by
        rcases p with ⟨h1, -⟩ | ⟨-, h2, -⟩
        · exact absurd h1 hr
        · exact h2
      have e8 : I' v2 8 = I v2 8 := f.2 v2 12 8 k2 (by decide)
      rw [eU]
      by_cases c : i = (I' v2 8).toNatClampNeg
      · have e9 : upd (I' t14) (I' v2 8).toNatClampNeg (pvm a1 a2 a3 a4 14) i = -1 := if_pos c
        rw [e9]
        have : (-1 : Int32).toInt = -1 := by decide
        omega
      · have e9 : upd (I' t14) (I' v2 8).toNatClampNeg (pvm a1 a2 a3 a4 14) i = I' t14 i := if_neg c
        rw [e9, a14 i]
        refine ha i ?_
        have h8 : (I' v2 8).toNatClampNeg = (I v2 8).toInt.toNat := by rw [e8]; rfl
        omega
/-! ===== the reference: stairs: where PILGRIMS are ===== -/
def Wsp : List (Nat × Nat) := [(12, 0), (12, 1), (12, 2), (12, 3), (12, 4), (12, 5), (12, 19), (12, 22), (12, 24), (12, 25), (12, 26), (12, 27), (12, 28)]
/-- where L131 is left -/
def PSG (B : Nat × Nat) (Q : Int32 → jZ → jI → jL → Prop) (v0 : Nat) (v1 : Int32) (Z : jZ) (I : jI) (L : jL) : Prop := ∀ I38 : jI, I38 = jpI I v0 7 ((I v0 7) + (1 : Int32)) → ∀ I39 : jI, I39 = jpI I38 v0 52 (0 : Int32) → ∃ m280 : Nat, f_X12_stairs_L280 B Q m280 v0 v1 (0 : Int32) Z I39 L
set_option maxHeartbeats 4000000 in
set_option maxRecDepth 100000 in
theorem lp_X12_stairs_L185 {B : Nat × Nat} {T : Nat} {Z0 : jZ} {I0 : jI} {Q : Int32 → jZ → jI → jL → Prop} (w0 : WD Z0 I0) (v0 : Nat) (kv0 : jk Z0 v0 12) (v1 : Int32) (v3 : Int32) (hQ : (∀ (r : Int32) (Z' : jZ) (I' : jI) (L' : jL), WD Z' I' → BUD B Z' T → FR Wsp Z0 I0 Z' I' → CP Z0 Z' → Q r Z' I' L') ∧ ∀ Z' I' L', WD Z' I' → BUD B Z' T → FR Wsp Z0 I0 Z' I' → CP Z0 Z' → PSG B Q v0 v1 Z' I' L') {K131 : Nat → Int32 → Int32 → jZ → jI → jL → Prop} {N131 : Int} (hK131 : ∀ (v3 : Int32) (Z : jZ) (I : jI) (L : jL), WD Z I → BUD B Z T → FR Wsp Z0 I0 Z I → CP Z0 Z →   (0 ≤ v3.toInt ∧ v3.toInt ≤ 24 ∧ v1.toInt ≤ 24) → 24 - v3.toInt < N131 → K131 v0 v1 v3 Z I L) : ∀ (n : Nat) (v4 : Int32) (Z : jZ) (I : jI) (L : jL), WD Z I → BUD B Z T → FR Wsp Z0 I0 Z I → CP Z0 Z →   (0 ≤ v3.toInt ∧ v3.toInt ≤ 23 ∧ v1.toInt ≤ 24 ∧ 0 ≤ v4.toInt ∧ v4.toInt ≤ 8) → 24 - v3.toInt ≤ N131 → 8 - v4.toInt < (n : Int) → f_X12_stairs_L185 B K131 Q n v0 v1 v3 v4 Z I L := by
  intro n
  induction n with
  | zero =>
    intro v4 Z I L w_I bd_Z q_I cp_Z   li hm131 me
    exfalso
    omega
  | succ n ih =>
    intro v4 Z I L w_I bd_Z q_I cp_Z   li hm131 me
    unfold f_X12_stairs_L185
    have rv4 := i_rng v4
    have rv1 := i_rng v1
    have rv3 := i_rng v3
    have kv0_0 := kv0
    have kv0 := (q_I.1 _ _ kv0).1
    have xq_I := q_I.1
    refine ⟨fun c41 => ?_, fun c41 => ?_⟩
    · skip
      first | (have t42 : (8) ≤ v4.toInt := (i_le (show (8 : Int32).toInt = 8 from rfl) rfl).mp c41) | (have t42 : (8 : Int32).toInt ≤ v4.toInt := (i_le rfl rfl).mp c41) | skip
      intro b43 eb43
      obtain ⟨x44, ex44, kb43, lb43⟩ := sh_f w_I.1 kv0 (j := 4) (k := 16) (m := 24) rfl
      cases eb43.symm.trans ex44
      intro b45 eb45
      obtain ⟨x46, ex46, kb45, lb45⟩ := sh_f w_I.1 kv0 (j := 28) (k := 14) (m := 120) rfl
      cases eb45.symm.trans ex46
      have o47 : vp_in (((5 : Int32) * v3) + (4 : Int32)) 120 := vi_of (i_add (i_mul (show (5 : Int32).toInt = 5 from rfl) rfl (by omega) (by omega)) (show (4 : Int32).toInt = 4 from rfl) (by omega) (by omega)) (by omega) (by omega)
      refine ⟨o47, ?_⟩
      have t49 := i_nat (x := (((5 : Int32) * v3) + (4 : Int32))) (i_add (i_mul (show (5 : Int32).toInt = 5 from rfl) rfl (by omega) (by omega)) (show (4 : Int32).toInt = 4 from rfl) (by omega) (by omega)) (by omega)
      have h48 : ((((5 : Int32) * v3) + (4 : Int32)).toNatClampNeg % 5 = 0 → 0 ≤ (I b45 (((5 : Int32) * v3) + (4 : Int32)).toNatClampNeg).toInt ∧ (I b45 (((5 : Int32) * v3) + (4 : Int32)).toNatClampNeg).toInt ≤ 30) ∧ ((((5 : Int32) * v3) + (4 : Int32)).toNatClampNeg % 5 = 1 → 0 ≤ (I b45 (((5 : Int32) * v3) + (4 : Int32)).toNatClampNeg).toInt ∧ (I b45 (((5 : Int32) * v3) + (4 : Int32)).toNatClampNeg).toInt ≤ 9) ∧ ((((5 : Int32) * v3) + (4 : Int32)).toNatClampNeg % 5 = 2 → 0 ≤ (I b45 (((5 : Int32) * v3) + (4 : Int32)).toNatClampNeg).toInt ∧ (I b45 (((5 : Int32) * v3) + (4 : Int32)).toNatClampNeg).toInt ≤ 20) := w_I.arr 12 28 kv0 eb45 kb45 rfl rfl _
      first | (have h481 := h48.1 (by omega)) | (have h481 := h48.2.1 (by omega)) | (have h481 := h48.2.2 (by omega)) | skip
      clear h48
      refine ⟨fun c50 => ?_, fun c50 => ?_⟩
      · skip
        first | (have t51 : ¬ ((I b45 (((5 : Int32) * v3) + (4 : Int32)).toNatClampNeg).toInt = (1)) := (not_congr (i_eq rfl (show (1 : Int32).toInt = 1 from rfl))).mp c50) | (have t51 : ¬ ((I b45 (((5 : Int32) * v3) + (4 : Int32)).toNatClampNeg).toInt = (1 : Int32).toInt) := (not_congr (i_eq rfl rfl)).mp c50) | skip
        unfold f_X12_stairs_b256
        have o52 : vp_in v3 (jlen Z b43) := vi_of rfl (by omega) (by omega)
        refine ⟨o52, ?_⟩
        intro I53 eI53
        have t54 : (0 : Int32).toInt = 0 := rfl
        have w_I53 : WD Z I53 := by rw [eI53]; exact WD_putA w_I 12 4 kv0 eb43 kb43 rfl rfl (by decide) trivial
        have f_I53 : FR [(12, 4)] Z I Z I53 := by rw [eI53]; exact FR_upA w_I.2.1 kv0 eb43 kb43 rfl rfl List.mem_cons_self
        have q_I53 : FR Wsp Z0 I0 Z I53 := q_I.trans w0.1 w0.2.1 (f_I53.mono (by decide))
        intro x55 ex55
        have rx55 := i_rng x55
        first | (have tx55 : x55.toInt = v3.toInt + (1) := by (rw [ex55]; exact (i_add rfl (show (1 : Int32).toInt = 1 from rfl) (by omega) (by omega)))) | skip
        exact hK131 x55 Z I53 L w_I53 bd_Z q_I53 cp_Z   (by omega)  (by omega)
      · skip
        first | (have t56 : (I b45 (((5 : Int32) * v3) + (4 : Int32)).toNatClampNeg).toInt = (1) := (i_eq rfl (show (1 : Int32).toInt = 1 from rfl)).mp c50) | (have t56 : (I b45 (((5 : Int32) * v3) + (4 : Int32)).toNatClampNeg).toInt = (1 : Int32).toInt := (i_eq rfl rfl).mp c50) | skip
        unfold f_X12_stairs_b256
        have o57 : vp_in v3 (jlen Z b43) := vi_of rfl (by omega) (by omega)
        refine ⟨o57, ?_⟩
        intro I58 eI58
        have t59 : (1 : Int32).toInt = 1 := rfl
        have w_I58 : WD Z I58 := by rw [eI58]; exact WD_putA w_I 12 4 kv0 eb43 kb43 rfl rfl (by decide) trivial
        have f_I58 : FR [(12, 4)] Z I Z I58 := by rw [eI58]; exact FR_upA w_I.2.1 kv0 eb43 kb43 rfl rfl List.mem_cons_self
        have q_I58 : FR Wsp Z0 I0 Z I58 := q_I.trans w0.1 w0.2.1 (f_I58.mono (by decide))
        intro x60 ex60
        have rx60 := i_rng x60
        first | (have tx60 : x60.toInt = v3.toInt + (1) := by (rw [ex60]; exact (i_add rfl (show (1 : Int32).toInt = 1 from rfl) (by omega) (by omega)))) | skip
        exact hK131 x60 Z I58 L w_I58 bd_Z q_I58 cp_Z   (by omega)  (by omega)
    · skip
      first | (have t61 : ¬ ((8) ≤ v4.toInt) := (not_congr (i_le (show (8 : Int32).toInt = 8 from rfl) rfl)).mp c41) | (have t61 : ¬ ((8 : Int32).toInt ≤ v4.toInt) := (not_congr (i_le rfl rfl)).mp c41) | skip
      intro b62 eb62
      obtain ⟨x63, ex63, kb62, lb62⟩ := sh_f w_I.1 kv0 (j := 5) (k := 14) (m := 192) rfl
      cases eb62.symm.trans ex63
      intro b64 eb64
      obtain ⟨x65, ex65, kb64, lb64⟩ := sh_f w_I.1 kv0 (j := 28) (k := 14) (m := 120) rfl
      cases eb64.symm.trans ex65
      have o66 : vp_in (((5 : Int32) * v3) + (3 : Int32)) 120 := vi_of (i_add (i_mul (show (5 : Int32).toInt = 5 from rfl) rfl (by omega) (by omega)) (show (3 : Int32).toInt = 3 from rfl) (by omega) (by omega)) (by omega) (by omega)
      refine ⟨o66, ?_⟩
      have t68 := i_nat (x := (((5 : Int32) * v3) + (3 : Int32))) (i_add (i_mul (show (5 : Int32).toInt = 5 from rfl) rfl (by omega) (by omega)) (show (3 : Int32).toInt = 3 from rfl) (by omega) (by omega)) (by omega)
      have h67 : ((((5 : Int32) * v3) + (3 : Int32)).toNatClampNeg % 5 = 0 → 0 ≤ (I b64 (((5 : Int32) * v3) + (3 : Int32)).toNatClampNeg).toInt ∧ (I b64 (((5 : Int32) * v3) + (3 : Int32)).toNatClampNeg).toInt ≤ 30) ∧ ((((5 : Int32) * v3) + (3 : Int32)).toNatClampNeg % 5 = 1 → 0 ≤ (I b64 (((5 : Int32) * v3) + (3 : Int32)).toNatClampNeg).toInt ∧ (I b64 (((5 : Int32) * v3) + (3 : Int32)).toNatClampNeg).toInt ≤ 9) ∧ ((((5 : Int32) * v3) + (3 : Int32)).toNatClampNeg % 5 = 2 → 0 ≤ (I b64 (((5 : Int32) * v3) + (3 : Int32)).toNatClampNeg).toInt ∧ (I b64 (((5 : Int32) * v3) + (3 : Int32)).toNatClampNeg).toInt ≤ 20) := w_I.arr 12 28 kv0 eb64 kb64 rfl rfl _
      first | (have h671 := h67.1 (by omega)) | (have h671 := h67.2.1 (by omega)) | (have h671 := h67.2.2 (by omega)) | skip
      clear h67
      refine ⟨fun c69 => ?_, fun c69 => ?_⟩
      · skip
        first | (have t70 : ¬ (v4.toInt = (I b64 (((5 : Int32) * v3) + (3 : Int32)).toNatClampNeg).toInt) := (not_congr (i_eq rfl rfl)).mp c69) | (have t70 : ¬ (v4.toInt = (I b64 (((5 : Int32) * v3) + (3 : Int32)).toNatClampNeg).toInt) := (not_congr (i_eq rfl rfl)).mp c69) | skip
        unfold f_X12_stairs_b225
        have o71 : vp_in (((8 : Int32) * v3) + v4) (jlen Z b62) := vi_of (i_add (i_mul (show (8 : Int32).toInt = 8 from rfl) rfl (by omega) (by omega)) rfl (by omega) (by omega)) (by omega) (by omega)
        refine ⟨o71, ?_⟩
        intro I72 eI72
        have t73 : (0 : Int32).toInt = 0 := rfl
        have w_I72 : WD Z I72 := by rw [eI72]; exact WD_putA w_I 12 5 kv0 eb62 kb62 rfl rfl (by decide) trivial
        have f_I72 : FR [(12, 5)] Z I Z I72 := by rw [eI72]; exact FR_upA w_I.2.1 kv0 eb62 kb62 rfl rfl List.mem_cons_self
        have q_I72 : FR Wsp Z0 I0 Z I72 := q_I.trans w0.1 w0.2.1 (f_I72.mono (by decide))
        intro x74 ex74
        have rx74 := i_rng x74
        first | (have tx74 : x74.toInt = v4.toInt + (1) := by (rw [ex74]; exact (i_add rfl (show (1 : Int32).toInt = 1 from rfl) (by omega) (by omega)))) | skip
        exact ih x74 Z I72 L w_I72 bd_Z q_I72 cp_Z   (by omega) (by omega) (by omega)
      · skip
        first | (have t75 : v4.toInt = (I b64 (((5 : Int32) * v3) + (3 : Int32)).toNatClampNeg).toInt := (i_eq rfl rfl).mp c69) | (have t75 : v4.toInt = (I b64 (((5 : Int32) * v3) + (3 : Int32)).toNatClampNeg).toInt := (i_eq rfl rfl).mp c69) | skip
        unfold f_X12_stairs_b225
        have o76 : vp_in (((8 : Int32) * v3) + v4) (jlen Z b62) := vi_of (i_add (i_mul (show (8 : Int32).toInt = 8 from rfl) rfl (by omega) (by omega)) rfl (by omega) (by omega)) (by omega) (by omega)
        refine ⟨o76, ?_⟩
        intro I77 eI77
        have t78 : (720 : Int32).toInt = 720 := rfl
        have w_I77 : WD Z I77 := by rw [eI77]; exact WD_putA w_I 12 5 kv0 eb62 kb62 rfl rfl (by decide) trivial
        have f_I77 : FR [(12, 5)] Z I Z I77 := by rw [eI77]; exact FR_upA w_I.2.1 kv0 eb62 kb62 rfl rfl List.mem_cons_self
        have q_I77 : FR Wsp Z0 I0 Z I77 := q_I.trans w0.1 w0.2.1 (f_I77.mono (by decide))
        intro x79 ex79
        have rx79 := i_rng x79
        first | (have tx79 : x79.toInt = v4.toInt + (1) := by (rw [ex79]; exact (i_add rfl (show (1 : Int32).toInt = 1 from rfl) (by omega) (by omega)))) | skip
        exact ih x79 Z I77 L w_I77 bd_Z q_I77 cp_Z   (by omega) (by omega) (by omega)
set_option maxHeartbeats 4000000 in
set_option maxRecDepth 100000 in
theorem lp_X12_stairs_L131 {B : Nat × Nat} {T : Nat} {Z0 : jZ} {I0 : jI} {Q : Int32 → jZ → jI → jL → Prop} (w0 : WD Z0 I0) (v0 : Nat) (kv0 : jk Z0 v0 12) (v1 : Int32) (hQ : (∀ (r : Int32) (Z' : jZ) (I' : jI) (L' : jL), WD Z' I' → BUD B Z' T → FR Wsp Z0 I0 Z' I' → CP Z0 Z' → Q r Z' I' L') ∧ ∀ Z' I' L', WD Z' I' → BUD B Z' T → FR Wsp Z0 I0 Z' I' → CP Z0 Z' → PSG B Q v0 v1 Z' I' L') : ∀ (n : Nat) (v3 : Int32) (Z : jZ) (I : jI) (L : jL), WD Z I → BUD B Z T → FR Wsp Z0 I0 Z I → CP Z0 Z →   (0 ≤ v3.toInt ∧ v3.toInt ≤ 24 ∧ v1.toInt ≤ 24) → 24 - v3.toInt < (n : Int) → f_X12_stairs_L131 B  Q n v0 v1 v3 Z I L := by
  intro n
  induction n with
  | zero =>
    intro v3 Z I L w_I bd_Z q_I cp_Z   li  me
    exfalso
    omega
  | succ n ih =>
    intro v3 Z I L w_I bd_Z q_I cp_Z   li  me
    unfold f_X12_stairs_L131
    have rv3 := i_rng v3
    have rv1 := i_rng v1
    have kv0_0 := kv0
    have kv0 := (q_I.1 _ _ kv0).1
    have xq_I := q_I.1
    refine ⟨fun c80 => ?_, fun c80 => ?_⟩
    · skip
      first | (have t81 : v1.toInt ≤ v3.toInt := (i_le rfl rfl).mp c80) | (have t81 : v1.toInt ≤ v3.toInt := (i_le rfl rfl).mp c80) | skip
      exact hQ.2 Z I L w_I bd_Z q_I cp_Z
    · skip
      first | (have t90 : ¬ (v1.toInt ≤ v3.toInt) := (not_congr (i_le rfl rfl)).mp c80) | (have t90 : ¬ (v1.toInt ≤ v3.toInt) := (not_congr (i_le rfl rfl)).mp c80) | skip
      intro b91 eb91
      obtain ⟨x92, ex92, kb91, lb91⟩ := sh_f w_I.1 kv0 (j := 1) (k := 14) (m := 24) rfl
      cases eb91.symm.trans ex92
      intro b93 eb93
      obtain ⟨x94, ex94, kb93, lb93⟩ := sh_f w_I.1 kv0 (j := 28) (k := 14) (m := 120) rfl
      cases eb93.symm.trans ex94
      have o95 : vp_in ((5 : Int32) * v3) 120 := vi_of (i_mul (show (5 : Int32).toInt = 5 from rfl) rfl (by omega) (by omega)) (by omega) (by omega)
      refine ⟨o95, ?_⟩
      have t97 := i_nat (x := ((5 : Int32) * v3)) (i_mul (show (5 : Int32).toInt = 5 from rfl) rfl (by omega) (by omega)) (by omega)
      have h96 : (((5 : Int32) * v3).toNatClampNeg % 5 = 0 → 0 ≤ (I b93 ((5 : Int32) * v3).toNatClampNeg).toInt ∧ (I b93 ((5 : Int32) * v3).toNatClampNeg).toInt ≤ 30) ∧ (((5 : Int32) * v3).toNatClampNeg % 5 = 1 → 0 ≤ (I b93 ((5 : Int32) * v3).toNatClampNeg).toInt ∧ (I b93 ((5 : Int32) * v3).toNatClampNeg).toInt ≤ 9) ∧ (((5 : Int32) * v3).toNatClampNeg % 5 = 2 → 0 ≤ (I b93 ((5 : Int32) * v3).toNatClampNeg).toInt ∧ (I b93 ((5 : Int32) * v3).toNatClampNeg).toInt ≤ 20) := w_I.arr 12 28 kv0 eb93 kb93 rfl rfl _
      first | (have h961 := h96.1 (by omega)) | (have h961 := h96.2.1 (by omega)) | (have h961 := h96.2.2 (by omega)) | skip
      clear h96
      have o98 : vp_in v3 24 := vi_of rfl (by omega) (by omega)
      refine ⟨o98, ?_⟩
      intro I99 eI99
      have w_I99 : WD Z I99 := by rw [eI99]; exact WD_putA w_I 12 1 kv0 eb91 kb91 rfl rfl (by decide) (by constructor <;> omega)
      have f_I99 : FR [(12, 1)] Z I Z I99 := by rw [eI99]; exact FR_upA w_I.2.1 kv0 eb91 kb91 rfl rfl List.mem_cons_self
      have q_I99 : FR Wsp Z0 I0 Z I99 := q_I.trans w0.1 w0.2.1 (f_I99.mono (by decide))
      intro b100 eb100
      obtain ⟨x101, ex101, kb100, lb100⟩ := sh_f w_I99.1 kv0 (j := 2) (k := 14) (m := 24) rfl
      cases eb100.symm.trans ex101
      intro b102 eb102
      obtain rfl : b93 = b102 := Option.some.inj (eb93.symm.trans eb102)
      have o103 : vp_in (((5 : Int32) * v3) + (1 : Int32)) 120 := vi_of (i_add (i_mul (show (5 : Int32).toInt = 5 from rfl) rfl (by omega) (by omega)) (show (1 : Int32).toInt = 1 from rfl) (by omega) (by omega)) (by omega) (by omega)
      refine ⟨o103, ?_⟩
      have t105 := i_nat (x := (((5 : Int32) * v3) + (1 : Int32))) (i_add (i_mul (show (5 : Int32).toInt = 5 from rfl) rfl (by omega) (by omega)) (show (1 : Int32).toInt = 1 from rfl) (by omega) (by omega)) (by omega)
      have h104 : ((((5 : Int32) * v3) + (1 : Int32)).toNatClampNeg % 5 = 0 → 0 ≤ (I99 b93 (((5 : Int32) * v3) + (1 : Int32)).toNatClampNeg).toInt ∧ (I99 b93 (((5 : Int32) * v3) + (1 : Int32)).toNatClampNeg).toInt ≤ 30) ∧ ((((5 : Int32) * v3) + (1 : Int32)).toNatClampNeg % 5 = 1 → 0 ≤ (I99 b93 (((5 : Int32) * v3) + (1 : Int32)).toNatClampNeg).toInt ∧ (I99 b93 (((5 : Int32) * v3) + (1 : Int32)).toNatClampNeg).toInt ≤ 9) ∧ ((((5 : Int32) * v3) + (1 : Int32)).toNatClampNeg % 5 = 2 → 0 ≤ (I99 b93 (((5 : Int32) * v3) + (1 : Int32)).toNatClampNeg).toInt ∧ (I99 b93 (((5 : Int32) * v3) + (1 : Int32)).toNatClampNeg).toInt ≤ 20) := w_I99.arr 12 28 kv0 eb93 kb93 rfl rfl _
      first | (have h1041 := h104.1 (by omega)) | (have h1041 := h104.2.1 (by omega)) | (have h1041 := h104.2.2 (by omega)) | skip
      clear h104
      have o106 : vp_in v3 24 := vi_of rfl (by omega) (by omega)
      refine ⟨o106, ?_⟩
      intro I107 eI107
      have w_I107 : WD Z I107 := by rw [eI107]; exact WD_putA w_I99 12 2 kv0 eb100 kb100 rfl rfl (by decide) (by constructor <;> omega)
      have f_I107 : FR [(12, 2)] Z I99 Z I107 := by rw [eI107]; exact FR_upA w_I99.2.1 kv0 eb100 kb100 rfl rfl List.mem_cons_self
      have q_I107 : FR Wsp Z0 I0 Z I107 := q_I99.trans w0.1 w0.2.1 (f_I107.mono (by decide))
      intro b108 eb108
      obtain ⟨x109, ex109, kb108, lb108⟩ := sh_f w_I107.1 kv0 (j := 3) (k := 14) (m := 24) rfl
      cases eb108.symm.trans ex109
      intro b110 eb110
      obtain rfl : b93 = b110 := Option.some.inj (eb93.symm.trans eb110)
      have o111 : vp_in (((5 : Int32) * v3) + (2 : Int32)) 120 := vi_of (i_add (i_mul (show (5 : Int32).toInt = 5 from rfl) rfl (by omega) (by omega)) (show (2 : Int32).toInt = 2 from rfl) (by omega) (by omega)) (by omega) (by omega)
      refine ⟨o111, ?_⟩
      have t113 := i_nat (x := (((5 : Int32) * v3) + (2 : Int32))) (i_add (i_mul (show (5 : Int32).toInt = 5 from rfl) rfl (by omega) (by omega)) (show (2 : Int32).toInt = 2 from rfl) (by omega) (by omega)) (by omega)
      have h112 : ((((5 : Int32) * v3) + (2 : Int32)).toNatClampNeg % 5 = 0 → 0 ≤ (I107 b93 (((5 : Int32) * v3) + (2 : Int32)).toNatClampNeg).toInt ∧ (I107 b93 (((5 : Int32) * v3) + (2 : Int32)).toNatClampNeg).toInt ≤ 30) ∧ ((((5 : Int32) * v3) + (2 : Int32)).toNatClampNeg % 5 = 1 → 0 ≤ (I107 b93 (((5 : Int32) * v3) + (2 : Int32)).toNatClampNeg).toInt ∧ (I107 b93 (((5 : Int32) * v3) + (2 : Int32)).toNatClampNeg).toInt ≤ 9) ∧ ((((5 : Int32) * v3) + (2 : Int32)).toNatClampNeg % 5 = 2 → 0 ≤ (I107 b93 (((5 : Int32) * v3) + (2 : Int32)).toNatClampNeg).toInt ∧ (I107 b93 (((5 : Int32) * v3) + (2 : Int32)).toNatClampNeg).toInt ≤ 20) := w_I107.arr 12 28 kv0 eb93 kb93 rfl rfl _
      first | (have h1121 := h112.1 (by omega)) | (have h1121 := h112.2.1 (by omega)) | (have h1121 := h112.2.2 (by omega)) | skip
      clear h112
      have o114 : vp_in v3 24 := vi_of rfl (by omega) (by omega)
      refine ⟨o114, ?_⟩
      intro I115 eI115
      have w_I115 : WD Z I115 := by rw [eI115]; exact WD_putA w_I107 12 3 kv0 eb108 kb108 rfl rfl (by decide) (by constructor <;> omega)
      have f_I115 : FR [(12, 3)] Z I107 Z I115 := by rw [eI115]; exact FR_upA w_I107.2.1 kv0 eb108 kb108 rfl rfl List.mem_cons_self
      have q_I115 : FR Wsp Z0 I0 Z I115 := q_I107.trans w0.1 w0.2.1 (f_I115.mono (by decide))
      have t116 : (0 : Int32).toInt = 0 := rfl
      exact ⟨(8 - (0 : Int32).toInt).toNat + 1, lp_X12_stairs_L185 w0 v0 kv0_0 v1 v3  hQ ih  _ (0 : Int32) Z I115 L w_I115 bd_Z q_I115 cp_Z   (by omega) (by omega) (by omega)⟩
set_option maxHeartbeats 4000000 in
set_option maxRecDepth 100000 in
theorem lp_X12_stairs_L39 {B : Nat × Nat} {T : Nat} {Z0 : jZ} {I0 : jI} {Q : Int32 → jZ → jI → jL → Prop} (w0 : WD Z0 I0) (v0 : Nat) (kv0 : jk Z0 v0 12) (hQ : (∀ (r : Int32) (Z' : jZ) (I' : jI) (L' : jL), WD Z' I' → BUD B Z' T → FR Wsp Z0 I0 Z' I' → CP Z0 Z' → Q r Z' I' L') ∧ ∀ (v1 : Int32), 2 ≤ v1.toInt → ∀ Z' I' L', WD Z' I' → BUD B Z' T → FR Wsp Z0 I0 Z' I' → CP Z0 Z' → PSG B Q v0 v1 Z' I' L') (uR : Nat) : ∀ (n : Nat) (v1 : Int32) (v2 : Int32) (Z : jZ) (I : jI) (L : jL), WD Z I → BUD B Z T → FR Wsp Z0 I0 Z I → CP Z0 Z →  jr Z v0 23 = some uR → jk Z uR 13 → (0 ≤ (I v0 26).toInt ∧ (I v0 26).toInt ≤ (I v0 24).toInt ∧ (I v0 26).toInt ≤ (I v0 25).toInt ∧ (I v0 24).toInt ≤ (jlen Z uR : Int) ∧ jlen Z uR ≤ 80 ∧ 0 ≤ v1.toInt ∧ v1.toInt ≤ 24) → (if (I v0 27).toInt = -1 then 2 * (25 - v1.toInt) + 1 else 0) < (n : Int) → f_X12_stairs_L39 B  Q n v0 v1 v2 Z I L := by
  intro n
  induction n with
  | zero =>
    intro v1 v2 Z I L w_I bd_Z q_I cp_Z  huR kuR li  me
    exfalso
    omega
  | succ n ih =>
    intro v1 v2 Z I L w_I bd_Z q_I cp_Z  huR kuR li  me
    unfold f_X12_stairs_L39
    have rv1 := i_rng v1
    have rv2 := i_rng v2
    have kv0_0 := kv0
    have kv0 := (q_I.1 _ _ kv0).1
    have xq_I := q_I.1
    refine ⟨fun c117 => ?_, fun c117 => ?_⟩
    · skip
      first | (have t118 : v2.toInt = (0) := (i_eq rfl (show (0 : Int32).toInt = 0 from rfl)).mp c117) | (have t118 : v2.toInt = (0 : Int32).toInt := (i_eq rfl rfl).mp c117) | skip
      unfold f_X12_stairs_b83
      refine ⟨fun c119 => ?_, fun c119 => ?_⟩
      · skip
        first | (have t120 : (I v0 24).toInt ≤ (I v0 26).toInt := (i_le rfl rfl).mp c119) | (have t120 : (I v0 24).toInt ≤ (I v0 26).toInt := (i_le rfl rfl).mp c119) | skip
        unfold f_X12_stairs_b102
        refine s_X12_fine w_I v0 kv0   (fun r121 p122 => ?_)
        have rr121 := i_rng r121
        refine ⟨fun c123 => ?_, fun c123 => ?_⟩
        · skip
          first | (have t124 : ¬ (r121.toInt = (0)) := (not_congr (i_eq rfl (show (0 : Int32).toInt = 0 from rfl))).mp c123) | (have t124 : ¬ (r121.toInt = (0 : Int32).toInt) := (not_congr (i_eq rfl rfl)).mp c123) | skip
          refine ⟨fun c125 => ?_, fun c125 => ?_⟩
          · skip
            first | (have t126 : (2) ≤ v1.toInt := (i_le (show (2 : Int32).toInt = 2 from rfl) rfl).mp c125) | (have t126 : (2 : Int32).toInt ≤ v1.toInt := (i_le rfl rfl).mp c125) | skip
            intro I127 eI127
            have w_I127 : WD Z I127 := by rw [eI127]; exact WD_putF w_I 12 0 kv0 (by decide) (by decide) (by constructor <;> omega)
            have f_I127 : FR [(12, 0)] Z I Z I127 := by rw [eI127]; exact FR_putF kv0 (by decide) List.mem_cons_self
            have q_I127 : FR Wsp Z0 I0 Z I127 := q_I.trans w0.1 w0.2.1 (f_I127.mono (by decide))
            have u128 : (I127 v0 24).toInt = (I v0 24).toInt := by rw [f_I127.2.2.1 v0 12 24 kv0 (by decide) (by decide)]
            have u129 : (I127 v0 25).toInt = (I v0 25).toInt := by rw [f_I127.2.2.1 v0 12 25 kv0 (by decide) (by decide)]
            have u130 : (I127 v0 26).toInt = (I v0 26).toInt := by rw [f_I127.2.2.1 v0 12 26 kv0 (by decide) (by decide)]
            have u131 : (I127 v0 27).toInt = (I v0 27).toInt := by rw [f_I127.2.2.1 v0 12 27 kv0 (by decide) (by decide)]
            first | (have u132 : (I127 v0 0).toInt = v1.toInt := by (rw [eI127, show jpI I v0 0 v1 v0 0 = v1 from jpI_at] <;> exact rfl)) | skip
            have t133 : (0 : Int32).toInt = 0 := rfl
            exact ⟨(24 - (0 : Int32).toInt).toNat + 1, lp_X12_stairs_L131 w0 v0 kv0_0 v1 ⟨hQ.1, hQ.2 v1 (by omega)⟩   _ (0 : Int32) Z I127 L w_I127 bd_Z q_I127 cp_Z   (by omega)  (by omega)⟩
          · skip
            first | (have t134 : ¬ ((2) ≤ v1.toInt) := (not_congr (i_le (show (2 : Int32).toInt = 2 from rfl) rfl)).mp c125) | (have t134 : ¬ ((2 : Int32).toInt ≤ v1.toInt) := (not_congr (i_le rfl rfl)).mp c125) | skip
            have t135 : (-100 : Int32).toInt = -100 := rfl
            exact hQ.1 (-100 : Int32) Z I L w_I bd_Z q_I cp_Z 
        · skip
          first | (have t136 : r121.toInt = (0) := (i_eq rfl (show (0 : Int32).toInt = 0 from rfl)).mp c123) | (have t136 : r121.toInt = (0 : Int32).toInt := (i_eq rfl rfl).mp c123) | skip
          try (have t137 : ((-1 : Int32) - (I v0 27)).toInt = ((-1) - (I v0 27).toInt) := (i_sub (show (-1 : Int32).toInt = -1 from rfl) rfl (by omega) (by omega)))
          exact hQ.1 ((-1 : Int32) - (I v0 27)) Z I L w_I bd_Z q_I cp_Z 
      · skip
        first | (have t138 : ¬ ((I v0 24).toInt ≤ (I v0 26).toInt) := (not_congr (i_le rfl rfl)).mp c119) | (have t138 : ¬ ((I v0 24).toInt ≤ (I v0 26).toInt) := (not_congr (i_le rfl rfl)).mp c119) | skip
        refine s_X12_fault w_I v0 (I v0 26) kv0   (fun  I140 L141 w_I140 f_I140 p139 => ?_)
        have q_I140 : FR Wsp Z0 I0 Z I140 := q_I.trans w0.1 w0.2.1 (f_I140.mono (by decide))
        have u142 : (I140 v0 24).toInt = (I v0 24).toInt := by rw [f_I140.2.2.1 v0 12 24 kv0 (by decide) (by decide)]
        have u143 : (I140 v0 25).toInt = (I v0 25).toInt := by rw [f_I140.2.2.1 v0 12 25 kv0 (by decide) (by decide)]
        have u144 : (I140 v0 26).toInt = (I v0 26).toInt := by rw [f_I140.2.2.1 v0 12 26 kv0 (by decide) (by decide)]
        unfold f_X12_stairs_b102
        refine s_X12_fine w_I140 v0 kv0   (fun r145 p146 => ?_)
        have rr145 := i_rng r145
        refine ⟨fun c147 => ?_, fun c147 => ?_⟩
        · skip
          first | (have t148 : ¬ (r145.toInt = (0)) := (not_congr (i_eq rfl (show (0 : Int32).toInt = 0 from rfl))).mp c147) | (have t148 : ¬ (r145.toInt = (0 : Int32).toInt) := (not_congr (i_eq rfl rfl)).mp c147) | skip
          refine ⟨fun c149 => ?_, fun c149 => ?_⟩
          · skip
            first | (have t150 : (2) ≤ v1.toInt := (i_le (show (2 : Int32).toInt = 2 from rfl) rfl).mp c149) | (have t150 : (2 : Int32).toInt ≤ v1.toInt := (i_le rfl rfl).mp c149) | skip
            intro I151 eI151
            have w_I151 : WD Z I151 := by rw [eI151]; exact WD_putF w_I140 12 0 kv0 (by decide) (by decide) (by constructor <;> omega)
            have f_I151 : FR [(12, 0)] Z I140 Z I151 := by rw [eI151]; exact FR_putF kv0 (by decide) List.mem_cons_self
            have q_I151 : FR Wsp Z0 I0 Z I151 := q_I140.trans w0.1 w0.2.1 (f_I151.mono (by decide))
            have u152 : (I151 v0 24).toInt = (I140 v0 24).toInt := by rw [f_I151.2.2.1 v0 12 24 kv0 (by decide) (by decide)]
            have u153 : (I151 v0 25).toInt = (I140 v0 25).toInt := by rw [f_I151.2.2.1 v0 12 25 kv0 (by decide) (by decide)]
            have u154 : (I151 v0 26).toInt = (I140 v0 26).toInt := by rw [f_I151.2.2.1 v0 12 26 kv0 (by decide) (by decide)]
            have u155 : (I151 v0 27).toInt = (I140 v0 27).toInt := by rw [f_I151.2.2.1 v0 12 27 kv0 (by decide) (by decide)]
            first | (have u156 : (I151 v0 0).toInt = v1.toInt := by (rw [eI151, show jpI I140 v0 0 v1 v0 0 = v1 from jpI_at] <;> exact rfl)) | skip
            have t157 : (0 : Int32).toInt = 0 := rfl
            exact ⟨(24 - (0 : Int32).toInt).toNat + 1, lp_X12_stairs_L131 w0 v0 kv0_0 v1 ⟨hQ.1, hQ.2 v1 (by omega)⟩   _ (0 : Int32) Z I151 L141 w_I151 bd_Z q_I151 cp_Z   (by omega)  (by omega)⟩
          · skip
            first | (have t158 : ¬ ((2) ≤ v1.toInt) := (not_congr (i_le (show (2 : Int32).toInt = 2 from rfl) rfl)).mp c149) | (have t158 : ¬ ((2 : Int32).toInt ≤ v1.toInt) := (not_congr (i_le rfl rfl)).mp c149) | skip
            have t159 : (-100 : Int32).toInt = -100 := rfl
            exact hQ.1 (-100 : Int32) Z I140 L141 w_I140 bd_Z q_I140 cp_Z 
        · skip
          first | (have t160 : r145.toInt = (0) := (i_eq rfl (show (0 : Int32).toInt = 0 from rfl)).mp c147) | (have t160 : r145.toInt = (0 : Int32).toInt := (i_eq rfl rfl).mp c147) | skip
          try (have t161 : ((-1 : Int32) - (I140 v0 27)).toInt = ((-1) - (I140 v0 27).toInt) := (i_sub (show (-1 : Int32).toInt = -1 from rfl) rfl (by omega) (by omega)))
          exact hQ.1 ((-1 : Int32) - (I140 v0 27)) Z I140 L141 w_I140 bd_Z q_I140 cp_Z 
    · skip
      first | (have t162 : ¬ (v2.toInt = (0)) := (not_congr (i_eq rfl (show (0 : Int32).toInt = 0 from rfl))).mp c117) | (have t162 : ¬ (v2.toInt = (0 : Int32).toInt) := (not_congr (i_eq rfl rfl)).mp c117) | skip
      refine s_X12_fine w_I v0 kv0   (fun r163 p164 => ?_)
      have rr163 := i_rng r163
      refine ⟨fun c165 => ?_, fun c165 => ?_⟩
      · skip
        first | (have t166 : r163.toInt = (0) := (i_eq rfl (show (0 : Int32).toInt = 0 from rfl)).mp c165) | (have t166 : r163.toInt = (0 : Int32).toInt := (i_eq rfl rfl).mp c165) | skip
        unfold f_X12_stairs_b83
        refine ⟨fun c167 => ?_, fun c167 => ?_⟩
        · skip
          first | (have t168 : (I v0 24).toInt ≤ (I v0 26).toInt := (i_le rfl rfl).mp c167) | (have t168 : (I v0 24).toInt ≤ (I v0 26).toInt := (i_le rfl rfl).mp c167) | skip
          unfold f_X12_stairs_b102
          refine s_X12_fine w_I v0 kv0   (fun r169 p170 => ?_)
          have rr169 := i_rng r169
          refine ⟨fun c171 => ?_, fun c171 => ?_⟩
          · skip
            first | (have t172 : ¬ (r169.toInt = (0)) := (not_congr (i_eq rfl (show (0 : Int32).toInt = 0 from rfl))).mp c171) | (have t172 : ¬ (r169.toInt = (0 : Int32).toInt) := (not_congr (i_eq rfl rfl)).mp c171) | skip
            refine ⟨fun c173 => ?_, fun c173 => ?_⟩
            · skip
              first | (have t174 : (2) ≤ v1.toInt := (i_le (show (2 : Int32).toInt = 2 from rfl) rfl).mp c173) | (have t174 : (2 : Int32).toInt ≤ v1.toInt := (i_le rfl rfl).mp c173) | skip
              intro I175 eI175
              have w_I175 : WD Z I175 := by rw [eI175]; exact WD_putF w_I 12 0 kv0 (by decide) (by decide) (by constructor <;> omega)
              have f_I175 : FR [(12, 0)] Z I Z I175 := by rw [eI175]; exact FR_putF kv0 (by decide) List.mem_cons_self
              have q_I175 : FR Wsp Z0 I0 Z I175 := q_I.trans w0.1 w0.2.1 (f_I175.mono (by decide))
              have u176 : (I175 v0 24).toInt = (I v0 24).toInt := by rw [f_I175.2.2.1 v0 12 24 kv0 (by decide) (by decide)]
              have u177 : (I175 v0 25).toInt = (I v0 25).toInt := by rw [f_I175.2.2.1 v0 12 25 kv0 (by decide) (by decide)]
              have u178 : (I175 v0 26).toInt = (I v0 26).toInt := by rw [f_I175.2.2.1 v0 12 26 kv0 (by decide) (by decide)]
              have u179 : (I175 v0 27).toInt = (I v0 27).toInt := by rw [f_I175.2.2.1 v0 12 27 kv0 (by decide) (by decide)]
              first | (have u180 : (I175 v0 0).toInt = v1.toInt := by (rw [eI175, show jpI I v0 0 v1 v0 0 = v1 from jpI_at] <;> exact rfl)) | skip
              have t181 : (0 : Int32).toInt = 0 := rfl
              exact ⟨(24 - (0 : Int32).toInt).toNat + 1, lp_X12_stairs_L131 w0 v0 kv0_0 v1 ⟨hQ.1, hQ.2 v1 (by omega)⟩   _ (0 : Int32) Z I175 L w_I175 bd_Z q_I175 cp_Z   (by omega)  (by omega)⟩
            · skip
              first | (have t182 : ¬ ((2) ≤ v1.toInt) := (not_congr (i_le (show (2 : Int32).toInt = 2 from rfl) rfl)).mp c173) | (have t182 : ¬ ((2 : Int32).toInt ≤ v1.toInt) := (not_congr (i_le rfl rfl)).mp c173) | skip
              have t183 : (-100 : Int32).toInt = -100 := rfl
              exact hQ.1 (-100 : Int32) Z I L w_I bd_Z q_I cp_Z 
          · skip
            first | (have t184 : r169.toInt = (0) := (i_eq rfl (show (0 : Int32).toInt = 0 from rfl)).mp c171) | (have t184 : r169.toInt = (0 : Int32).toInt := (i_eq rfl rfl).mp c171) | skip
            try (have t185 : ((-1 : Int32) - (I v0 27)).toInt = ((-1) - (I v0 27).toInt) := (i_sub (show (-1 : Int32).toInt = -1 from rfl) rfl (by omega) (by omega)))
            exact hQ.1 ((-1 : Int32) - (I v0 27)) Z I L w_I bd_Z q_I cp_Z 
        · skip
          first | (have t186 : ¬ ((I v0 24).toInt ≤ (I v0 26).toInt) := (not_congr (i_le rfl rfl)).mp c167) | (have t186 : ¬ ((I v0 24).toInt ≤ (I v0 26).toInt) := (not_congr (i_le rfl rfl)).mp c167) | skip
          refine s_X12_fault w_I v0 (I v0 26) kv0   (fun  I188 L189 w_I188 f_I188 p187 => ?_)
          have q_I188 : FR Wsp Z0 I0 Z I188 := q_I.trans w0.1 w0.2.1 (f_I188.mono (by decide))
          have u190 : (I188 v0 24).toInt = (I v0 24).toInt := by rw [f_I188.2.2.1 v0 12 24 kv0 (by decide) (by decide)]
          have u191 : (I188 v0 25).toInt = (I v0 25).toInt := by rw [f_I188.2.2.1 v0 12 25 kv0 (by decide) (by decide)]
          have u192 : (I188 v0 26).toInt = (I v0 26).toInt := by rw [f_I188.2.2.1 v0 12 26 kv0 (by decide) (by decide)]
          unfold f_X12_stairs_b102
          refine s_X12_fine w_I188 v0 kv0   (fun r193 p194 => ?_)
          have rr193 := i_rng r193
          refine ⟨fun c195 => ?_, fun c195 => ?_⟩
          · skip
            first | (have t196 : ¬ (r193.toInt = (0)) := (not_congr (i_eq rfl (show (0 : Int32).toInt = 0 from rfl))).mp c195) | (have t196 : ¬ (r193.toInt = (0 : Int32).toInt) := (not_congr (i_eq rfl rfl)).mp c195) | skip
            refine ⟨fun c197 => ?_, fun c197 => ?_⟩
            · skip
              first | (have t198 : (2) ≤ v1.toInt := (i_le (show (2 : Int32).toInt = 2 from rfl) rfl).mp c197) | (have t198 : (2 : Int32).toInt ≤ v1.toInt := (i_le rfl rfl).mp c197) | skip
              intro I199 eI199
              have w_I199 : WD Z I199 := by rw [eI199]; exact WD_putF w_I188 12 0 kv0 (by decide) (by decide) (by constructor <;> omega)
              have f_I199 : FR [(12, 0)] Z I188 Z I199 := by rw [eI199]; exact FR_putF kv0 (by decide) List.mem_cons_self
              have q_I199 : FR Wsp Z0 I0 Z I199 := q_I188.trans w0.1 w0.2.1 (f_I199.mono (by decide))
              have u200 : (I199 v0 24).toInt = (I188 v0 24).toInt := by rw [f_I199.2.2.1 v0 12 24 kv0 (by decide) (by decide)]
              have u201 : (I199 v0 25).toInt = (I188 v0 25).toInt := by rw [f_I199.2.2.1 v0 12 25 kv0 (by decide) (by decide)]
              have u202 : (I199 v0 26).toInt = (I188 v0 26).toInt := by rw [f_I199.2.2.1 v0 12 26 kv0 (by decide) (by decide)]
              have u203 : (I199 v0 27).toInt = (I188 v0 27).toInt := by rw [f_I199.2.2.1 v0 12 27 kv0 (by decide) (by decide)]
              first | (have u204 : (I199 v0 0).toInt = v1.toInt := by (rw [eI199, show jpI I188 v0 0 v1 v0 0 = v1 from jpI_at] <;> exact rfl)) | skip
              have t205 : (0 : Int32).toInt = 0 := rfl
              exact ⟨(24 - (0 : Int32).toInt).toNat + 1, lp_X12_stairs_L131 w0 v0 kv0_0 v1 ⟨hQ.1, hQ.2 v1 (by omega)⟩   _ (0 : Int32) Z I199 L189 w_I199 bd_Z q_I199 cp_Z   (by omega)  (by omega)⟩
            · skip
              first | (have t206 : ¬ ((2) ≤ v1.toInt) := (not_congr (i_le (show (2 : Int32).toInt = 2 from rfl) rfl)).mp c197) | (have t206 : ¬ ((2 : Int32).toInt ≤ v1.toInt) := (not_congr (i_le rfl rfl)).mp c197) | skip
              have t207 : (-100 : Int32).toInt = -100 := rfl
              exact hQ.1 (-100 : Int32) Z I188 L189 w_I188 bd_Z q_I188 cp_Z 
          · skip
            first | (have t208 : r193.toInt = (0) := (i_eq rfl (show (0 : Int32).toInt = 0 from rfl)).mp c195) | (have t208 : r193.toInt = (0 : Int32).toInt := (i_eq rfl rfl).mp c195) | skip
            try (have t209 : ((-1 : Int32) - (I188 v0 27)).toInt = ((-1) - (I188 v0 27).toInt) := (i_sub (show (-1 : Int32).toInt = -1 from rfl) rfl (by omega) (by omega)))
            exact hQ.1 ((-1 : Int32) - (I188 v0 27)) Z I188 L189 w_I188 bd_Z q_I188 cp_Z 
      · skip
        first | (have t210 : ¬ (r163.toInt = (0)) := (not_congr (i_eq rfl (show (0 : Int32).toInt = 0 from rfl))).mp c165) | (have t210 : ¬ (r163.toInt = (0 : Int32).toInt) := (not_congr (i_eq rfl rfl)).mp c165) | skip
        refine ⟨fun c211 => ?_, fun c211 => ?_⟩
        · skip
          first | (have t212 : ¬ (v1.toInt = (24)) := (not_congr (i_eq rfl (show (24 : Int32).toInt = 24 from rfl))).mp c211) | (have t212 : ¬ (v1.toInt = (24 : Int32).toInt) := (not_congr (i_eq rfl rfl)).mp c211) | skip
          refine s_X12_readLine w_I v0 v1 kv0 uR huR kuR (by omega) (by omega) (fun r213 I215 L216 w_I215 f_I215 p214 => ?_)
          have q_I215 : FR Wsp Z0 I0 Z I215 := q_I.trans w0.1 w0.2.1 (f_I215.mono (by decide))
          have u217 : (I215 v0 24).toInt = (I v0 24).toInt := by rw [f_I215.2.2.1 v0 12 24 kv0 (by decide) (by decide)]
          have u218 : (I215 v0 25).toInt = (I v0 25).toInt := by rw [f_I215.2.2.1 v0 12 25 kv0 (by decide) (by decide)]
          have rr213 := i_rng r213
          have t219 : (59 : Int32).toInt = 59 := rfl
          refine s_X12_passes w_I215 v0 (59 : Int32) kv0 uR huR kuR (by omega) (by omega) (fun r220 I222 L223 w_I222 f_I222 p221 => ?_)
          have q_I222 : FR Wsp Z0 I0 Z I222 := q_I215.trans w0.1 w0.2.1 (f_I222.mono (by decide))
          have u224 : (I222 v0 24).toInt = (I215 v0 24).toInt := by rw [f_I222.2.2.1 v0 12 24 kv0 (by decide) (by decide)]
          have u225 : (I222 v0 25).toInt = (I215 v0 25).toInt := by rw [f_I222.2.2.1 v0 12 25 kv0 (by decide) (by decide)]
          have u226 : (I222 v0 27).toInt = (I215 v0 27).toInt := by rw [f_I222.2.2.1 v0 12 27 kv0 (by decide) (by decide)]
          have rr220 := i_rng r220
          exact ih r213 r220 Z I222 L223 w_I222 bd_Z q_I222 cp_Z  huR kuR (by omega)  (by omega)
        · skip
          first | (have t227 : v1.toInt = (24) := (i_eq rfl (show (24 : Int32).toInt = 24 from rfl)).mp c211) | (have t227 : v1.toInt = (24 : Int32).toInt := (i_eq rfl rfl).mp c211) | skip
          refine s_X12_fault w_I v0 (I v0 26) kv0   (fun  I229 L230 w_I229 f_I229 p228 => ?_)
          have q_I229 : FR Wsp Z0 I0 Z I229 := q_I.trans w0.1 w0.2.1 (f_I229.mono (by decide))
          have u231 : (I229 v0 24).toInt = (I v0 24).toInt := by rw [f_I229.2.2.1 v0 12 24 kv0 (by decide) (by decide)]
          have u232 : (I229 v0 25).toInt = (I v0 25).toInt := by rw [f_I229.2.2.1 v0 12 25 kv0 (by decide) (by decide)]
          have u233 : (I229 v0 26).toInt = (I v0 26).toInt := by rw [f_I229.2.2.1 v0 12 26 kv0 (by decide) (by decide)]
          unfold f_X12_stairs_b83
          refine ⟨fun c234 => ?_, fun c234 => ?_⟩
          · skip
            first | (have t235 : (I229 v0 24).toInt ≤ (I229 v0 26).toInt := (i_le rfl rfl).mp c234) | (have t235 : (I229 v0 24).toInt ≤ (I229 v0 26).toInt := (i_le rfl rfl).mp c234) | skip
            unfold f_X12_stairs_b102
            refine s_X12_fine w_I229 v0 kv0   (fun r236 p237 => ?_)
            have rr236 := i_rng r236
            refine ⟨fun c238 => ?_, fun c238 => ?_⟩
            · skip
              first | (have t239 : ¬ (r236.toInt = (0)) := (not_congr (i_eq rfl (show (0 : Int32).toInt = 0 from rfl))).mp c238) | (have t239 : ¬ (r236.toInt = (0 : Int32).toInt) := (not_congr (i_eq rfl rfl)).mp c238) | skip
              refine ⟨fun c240 => ?_, fun c240 => ?_⟩
              · skip
                first | (have t241 : (2) ≤ v1.toInt := (i_le (show (2 : Int32).toInt = 2 from rfl) rfl).mp c240) | (have t241 : (2 : Int32).toInt ≤ v1.toInt := (i_le rfl rfl).mp c240) | skip
                intro I242 eI242
                have w_I242 : WD Z I242 := by rw [eI242]; exact WD_putF w_I229 12 0 kv0 (by decide) (by decide) (by constructor <;> omega)
                have f_I242 : FR [(12, 0)] Z I229 Z I242 := by rw [eI242]; exact FR_putF kv0 (by decide) List.mem_cons_self
                have q_I242 : FR Wsp Z0 I0 Z I242 := q_I229.trans w0.1 w0.2.1 (f_I242.mono (by decide))
                have u243 : (I242 v0 24).toInt = (I229 v0 24).toInt := by rw [f_I242.2.2.1 v0 12 24 kv0 (by decide) (by decide)]
                have u244 : (I242 v0 25).toInt = (I229 v0 25).toInt := by rw [f_I242.2.2.1 v0 12 25 kv0 (by decide) (by decide)]
                have u245 : (I242 v0 26).toInt = (I229 v0 26).toInt := by rw [f_I242.2.2.1 v0 12 26 kv0 (by decide) (by decide)]
                have u246 : (I242 v0 27).toInt = (I229 v0 27).toInt := by rw [f_I242.2.2.1 v0 12 27 kv0 (by decide) (by decide)]
                first | (have u247 : (I242 v0 0).toInt = v1.toInt := by (rw [eI242, show jpI I229 v0 0 v1 v0 0 = v1 from jpI_at] <;> exact rfl)) | skip
                have t248 : (0 : Int32).toInt = 0 := rfl
                exact ⟨(24 - (0 : Int32).toInt).toNat + 1, lp_X12_stairs_L131 w0 v0 kv0_0 v1 ⟨hQ.1, hQ.2 v1 (by omega)⟩   _ (0 : Int32) Z I242 L230 w_I242 bd_Z q_I242 cp_Z   (by omega)  (by omega)⟩
              · skip
                first | (have t249 : ¬ ((2) ≤ v1.toInt) := (not_congr (i_le (show (2 : Int32).toInt = 2 from rfl) rfl)).mp c240) | (have t249 : ¬ ((2 : Int32).toInt ≤ v1.toInt) := (not_congr (i_le rfl rfl)).mp c240) | skip
                have t250 : (-100 : Int32).toInt = -100 := rfl
                exact hQ.1 (-100 : Int32) Z I229 L230 w_I229 bd_Z q_I229 cp_Z 
            · skip
              first | (have t251 : r236.toInt = (0) := (i_eq rfl (show (0 : Int32).toInt = 0 from rfl)).mp c238) | (have t251 : r236.toInt = (0 : Int32).toInt := (i_eq rfl rfl).mp c238) | skip
              try (have t252 : ((-1 : Int32) - (I229 v0 27)).toInt = ((-1) - (I229 v0 27).toInt) := (i_sub (show (-1 : Int32).toInt = -1 from rfl) rfl (by omega) (by omega)))
              exact hQ.1 ((-1 : Int32) - (I229 v0 27)) Z I229 L230 w_I229 bd_Z q_I229 cp_Z 
          · skip
            first | (have t253 : ¬ ((I229 v0 24).toInt ≤ (I229 v0 26).toInt) := (not_congr (i_le rfl rfl)).mp c234) | (have t253 : ¬ ((I229 v0 24).toInt ≤ (I229 v0 26).toInt) := (not_congr (i_le rfl rfl)).mp c234) | skip
            refine s_X12_fault w_I229 v0 (I229 v0 26) kv0   (fun  I255 L256 w_I255 f_I255 p254 => ?_)
            have q_I255 : FR Wsp Z0 I0 Z I255 := q_I229.trans w0.1 w0.2.1 (f_I255.mono (by decide))
            have u257 : (I255 v0 24).toInt = (I229 v0 24).toInt := by rw [f_I255.2.2.1 v0 12 24 kv0 (by decide) (by decide)]
            have u258 : (I255 v0 25).toInt = (I229 v0 25).toInt := by rw [f_I255.2.2.1 v0 12 25 kv0 (by decide) (by decide)]
            have u259 : (I255 v0 26).toInt = (I229 v0 26).toInt := by rw [f_I255.2.2.1 v0 12 26 kv0 (by decide) (by decide)]
            unfold f_X12_stairs_b102
            refine s_X12_fine w_I255 v0 kv0   (fun r260 p261 => ?_)
            have rr260 := i_rng r260
            refine ⟨fun c262 => ?_, fun c262 => ?_⟩
            · skip
              first | (have t263 : ¬ (r260.toInt = (0)) := (not_congr (i_eq rfl (show (0 : Int32).toInt = 0 from rfl))).mp c262) | (have t263 : ¬ (r260.toInt = (0 : Int32).toInt) := (not_congr (i_eq rfl rfl)).mp c262) | skip
              refine ⟨fun c264 => ?_, fun c264 => ?_⟩
              · skip
                first | (have t265 : (2) ≤ v1.toInt := (i_le (show (2 : Int32).toInt = 2 from rfl) rfl).mp c264) | (have t265 : (2 : Int32).toInt ≤ v1.toInt := (i_le rfl rfl).mp c264) | skip
                intro I266 eI266
                have w_I266 : WD Z I266 := by rw [eI266]; exact WD_putF w_I255 12 0 kv0 (by decide) (by decide) (by constructor <;> omega)
                have f_I266 : FR [(12, 0)] Z I255 Z I266 := by rw [eI266]; exact FR_putF kv0 (by decide) List.mem_cons_self
                have q_I266 : FR Wsp Z0 I0 Z I266 := q_I255.trans w0.1 w0.2.1 (f_I266.mono (by decide))
                have u267 : (I266 v0 24).toInt = (I255 v0 24).toInt := by rw [f_I266.2.2.1 v0 12 24 kv0 (by decide) (by decide)]
                have u268 : (I266 v0 25).toInt = (I255 v0 25).toInt := by rw [f_I266.2.2.1 v0 12 25 kv0 (by decide) (by decide)]
                have u269 : (I266 v0 26).toInt = (I255 v0 26).toInt := by rw [f_I266.2.2.1 v0 12 26 kv0 (by decide) (by decide)]
                have u270 : (I266 v0 27).toInt = (I255 v0 27).toInt := by rw [f_I266.2.2.1 v0 12 27 kv0 (by decide) (by decide)]
                first | (have u271 : (I266 v0 0).toInt = v1.toInt := by (rw [eI266, show jpI I255 v0 0 v1 v0 0 = v1 from jpI_at] <;> exact rfl)) | skip
                have t272 : (0 : Int32).toInt = 0 := rfl
                exact ⟨(24 - (0 : Int32).toInt).toNat + 1, lp_X12_stairs_L131 w0 v0 kv0_0 v1 ⟨hQ.1, hQ.2 v1 (by omega)⟩   _ (0 : Int32) Z I266 L256 w_I266 bd_Z q_I266 cp_Z   (by omega)  (by omega)⟩
              · skip
                first | (have t273 : ¬ ((2) ≤ v1.toInt) := (not_congr (i_le (show (2 : Int32).toInt = 2 from rfl) rfl)).mp c264) | (have t273 : ¬ ((2 : Int32).toInt ≤ v1.toInt) := (not_congr (i_le rfl rfl)).mp c264) | skip
                have t274 : (-100 : Int32).toInt = -100 := rfl
                exact hQ.1 (-100 : Int32) Z I255 L256 w_I255 bd_Z q_I255 cp_Z 
            · skip
              first | (have t275 : r260.toInt = (0) := (i_eq rfl (show (0 : Int32).toInt = 0 from rfl)).mp c262) | (have t275 : r260.toInt = (0 : Int32).toInt := (i_eq rfl rfl).mp c262) | skip
              try (have t276 : ((-1 : Int32) - (I255 v0 27)).toInt = ((-1) - (I255 v0 27).toInt) := (i_sub (show (-1 : Int32).toInt = -1 from rfl) rfl (by omega) (by omega)))
              exact hQ.1 ((-1 : Int32) - (I255 v0 27)) Z I255 L256 w_I255 bd_Z q_I255 cp_Z 
set_option maxHeartbeats 4000000 in
set_option maxRecDepth 100000 in
theorem sp_X12_stairs {B : Nat × Nat} {T : Nat} {Z : jZ} {I : jI} {L : jL} (w_I : WD Z I) (bd_Z : BUD B Z T) (v0 : Nat) (kv0 : jk Z v0 12) {Q : Int32 → jZ → jI → jL → Prop} (hQ : (∀ (r : Int32) (Z' : jZ) (I' : jI) (L' : jL), WD Z' I' → BUD B Z' T → FR Wsp Z I Z' I' → CP Z Z' → Q r Z' I' L') ∧ ∀ (v1 : Int32), 2 ≤ v1.toInt → ∀ Z' I' L', WD Z' I' → BUD B Z' T → FR Wsp Z I Z' I' → CP Z Z' → PSG B Q v0 v1 Z' I' L') : f_X12_stairs B v0 Z I L Q := by
  unfold f_X12_stairs
  have q_I : FR Wsp Z I Z I := FR.rf
  have cp_Z : CP Z Z := CP.rf
  intro I277 eI277
  have t278 : (0 : Int32).toInt = 0 := rfl
  have w_I277 : WD Z I277 := by rw [eI277]; exact WD_putF w_I 12 22 kv0 (by decide) (by decide) trivial
  have f_I277 : FR [(12, 22)] Z I Z I277 := by rw [eI277]; exact FR_putF kv0 (by decide) List.mem_cons_self
  have q_I277 : FR Wsp Z I Z I277 := q_I.trans w_I.1 w_I.2.1 (f_I277.mono (by decide))
  first | (have u279 : (I277 v0 22).toInt = (0) := by (rw [eI277, show jpI I v0 22 (0 : Int32) v0 22 = (0 : Int32) from jpI_at] <;> exact (show (0 : Int32).toInt = 0 from rfl))) | skip
  intro b280 eb280
  obtain ⟨x281, ex281, kb280, lb280⟩ := sh_f w_I277.1 kv0 (j := 18) (k := 13) (m := 80) rfl
  cases eb280.symm.trans ex281
  have t283 : 0 ≤ (I277 v0 19).toInt ∧ (I277 v0 19).toInt ≤ 80 := w_I277.fld 12 19 kv0 (by decide)
  have t284 : (76 : Int32).toInt = 76 := rfl
  refine s_X12_begin w_I277 bd_Z v0 b280 (I277 v0 19) (76 : Int32) kv0 kb280 v0 12 18 kv0 eb280  (fun  Z288 I286 L287 w_I286 bd_Z288 f_I286 c_Z288 p285 => ?_)
  have q_I286 : FR Wsp Z I Z288 I286 := q_I277.trans w_I.1 w_I.2.1 (f_I286.mono (by decide))
  have cp_Z288 : CP Z Z288 := cp_Z.trans q_I277.1 c_Z288
  have x_Z288 := f_I286.1
  have k289 := (f_I286.1 _ _ kv0).1
  have k290 := (f_I286.1 _ _ kb280).1
  have l291 := (f_I286.1 _ _ kb280).2.trans lb280
  have k292 := (f_I286.1 _ _ kv0).1
  have e293 := (f_I286.2.1 v0 12 18 kv0 (by decide) (by decide)).trans eb280
  have u294 : (I286 v0 22).toInt = (I277 v0 22).toInt := by rw [f_I286.2.2.1 v0 12 22 kv0 (by decide) (by decide)]
  have u295 : (I286 v0 19).toInt = (I277 v0 19).toInt := by rw [f_I286.2.2.1 v0 12 19 kv0 (by decide) (by decide)]
  obtain ⟨p285_0, p285_1⟩ := p285
  have k296 := (f_I286.1 _ _ kb280).1
  have l297 := (f_I286.1 _ _ kb280).2
  have k298 := (f_I286.1 _ _ kv0).1
  have l299 := (f_I286.1 _ _ kb280).2.trans lb280
  intro I300 eI300
  have t301 : (0 : Int32).toInt = 0 := rfl
  have w_I300 : WD Z288 I300 := by rw [eI300]; exact WD_putF w_I286 12 19 k289 (by decide) (by decide) (by constructor <;> omega)
  have f_I300 : FR [(12, 19)] Z288 I286 Z288 I300 := by rw [eI300]; exact FR_putF k289 (by decide) List.mem_cons_self
  have q_I300 : FR Wsp Z I Z288 I300 := q_I286.trans w_I.1 w_I.2.1 (f_I300.mono (by decide))
  have u302 : (I300 v0 22).toInt = (I286 v0 22).toInt := by rw [f_I300.2.2.1 v0 12 22 k289 (by decide) (by decide)]
  have u303 : (I300 v0 24).toInt = (I286 v0 24).toInt := by rw [f_I300.2.2.1 v0 12 24 k298 (by decide) (by decide)]
  have u304 : (I300 v0 25).toInt = (I286 v0 25).toInt := by rw [f_I300.2.2.1 v0 12 25 k298 (by decide) (by decide)]
  have u305 : (I300 v0 26).toInt = (I286 v0 26).toInt := by rw [f_I300.2.2.1 v0 12 26 k298 (by decide) (by decide)]
  have u306 : (I300 v0 27).toInt = (I286 v0 27).toInt := by rw [f_I300.2.2.1 v0 12 27 k298 (by decide) (by decide)]
  first | (have u307 : (I300 v0 19).toInt = (0) := by (rw [eI300, show jpI I286 v0 19 (0 : Int32) v0 19 = (0 : Int32) from jpI_at] <;> exact (show (0 : Int32).toInt = 0 from rfl))) | skip
  refine ⟨fun c308 => ?_, fun c308 => ?_⟩
  · skip
    first | (have t309 : (I300 v0 24).toInt ≤ (0) := (i_le rfl (show (0 : Int32).toInt = 0 from rfl)).mp c308) | (have t309 : (I300 v0 24).toInt ≤ (0 : Int32).toInt := (i_le rfl rfl).mp c308) | skip
    unfold f_X12_stairs_b38
    have t310 : (0 : Int32).toInt = 0 := rfl
    have t311 : (0 : Int32).toInt = 0 := rfl
    exact ⟨((if (I300 v0 27).toInt = -1 then 2 * (25 - (0 : Int32).toInt) + 1 else 0)).toNat + 1, lp_X12_stairs_L39 w_I v0 kv0   hQ  b280 _ (0 : Int32) (0 : Int32) Z288 I300 L287 w_I300 bd_Z288 q_I300 cp_Z288  p285_0 k296 (by omega)  (by omega)⟩
  · skip
    first | (have t312 : ¬ ((I300 v0 24).toInt ≤ (0)) := (not_congr (i_le rfl (show (0 : Int32).toInt = 0 from rfl))).mp c308) | (have t312 : ¬ ((I300 v0 24).toInt ≤ (0 : Int32).toInt) := (not_congr (i_le rfl rfl)).mp c308) | skip
    unfold f_X12_stairs_b38
    have t313 : (0 : Int32).toInt = 0 := rfl
    have t314 : (1 : Int32).toInt = 1 := rfl
    exact ⟨((if (I300 v0 27).toInt = -1 then 2 * (25 - (0 : Int32).toInt) + 1 else 0)).toNat + 1, lp_X12_stairs_L39 w_I v0 kv0   hQ  b280 _ (0 : Int32) (1 : Int32) Z288 I300 L287 w_I300 bd_Z288 q_I300 cp_Z288  p285_0 k296 (by omega)  (by omega)⟩
/-- after stairs of the reference -/
def PLS12 (I I' : jI) (v0 t9 t10 t14 t15 t16 : Nat) : Prop := (I' v0 7 = I v0 7 ∧ I' t14 = I t14 ∧ I' t15 = I t15 ∧ I' t16 = I t16) ∨ (I' v0 7 = I v0 7 + 1 ∧ ∀ p : Nat, (p : Int) < (I v0 8).toInt → I' t14 p = -1 ∧ I' t15 p = I t9 p ∧ I' t16 p = I t10 p)
theorem ps_L301 {B : Nat × Nat} {Z : jZ} {J : jI} (wJ : WD Z J) (v0 : Nat) (v1 : Int32) (k0 : jk Z v0 12) (t9 t10 t14 t15 t16 np : Nat) (h9 : jr Z v0 9 = some t9) (k9 : jk Z t9 14) (h10 : jr Z v0 10 = some t10) (k10 : jk Z t10 14) (h14 : jr Z v0 14 = some t14) (k14 : jk Z t14 14) (h15 : jr Z v0 15 = some t15) (k15 : jk Z t15 14) (h16 : jr Z v0 16 = some t16) (k16 : jk Z t16 14) (en : (J v0 8).toInt = (np : Int)) {Q : Int32 → jZ → jI → jL → Prop}
    (hQ : ∀ (I : jI) (L : jL), WD Z I → FR [(12, 14), (12, 15), (12, 16)] Z J Z I → (∀ p, p < np → I t14 p = -1 ∧ I t15 p = J t9 p ∧ I t16 p = J t10 p) → Q v1 Z I L) :
    ∀ (n p : Nat) (v3 : Int32) (I : jI) (L : jL), np + 1 ≤ n + p → p ≤ np → v3.toInt = (p : Int) → WD Z I → FR [(12, 14), (12, 15), (12, 16)] Z J Z I → (∀ s, s < p → I t14 s = -1 ∧ I t15 s = J t9 s ∧ I t16 s = J t10 s) → f_X12_stairs_L301 B Q n v0 v1 v3 Z I L := by
  have z1 : (1 : Int32).toInt = 1 := rfl
  have n6 : 0 ≤ (J v0 8).toInt ∧ (J v0 8).toInt ≤ 6 := wJ.fld 12 8 k0 (by decide)
  have n45 : t14 ≠ t15 := ds_ne wJ.2.1 k0 h14 h15 rfl rfl (by decide)
  have n46 : t14 ≠ t16 := ds_ne wJ.2.1 k0 h14 h16 rfl rfl (by decide)
  have n56 : t15 ≠ t16 := ds_ne wJ.2.1 k0 h15 h16 rfl rfl (by decide)
  have m94 : t9 ≠ t14 := ds_ne wJ.2.1 k0 h9 h14 rfl rfl (by decide)
  have m95 : t10 ≠ t15 := ds_ne wJ.2.1 k0 h10 h15 rfl rfl (by decide)
  have m96 : t10 ≠ t14 := ds_ne wJ.2.1 k0 h10 h14 rfl rfl (by decide)
  intro n
  induction n with
  | zero => intro p v3 I L hk hi; omega
  | succ n ih =>
    intro p v3 I L hk hi e3 w f hT
    have e8 : (I v0 8).toInt = (np : Int) := by rw [f.2.2.1 v0 12 8 k0 (by decide) (by decide)]; exact en
    have n3 : v3.toNatClampNeg = p := by have := i_nat e3 (by omega); omega
    have a9 : I t9 = J t9 := f.2.2.2 v0 12 9 t9 k0 h9 (by rw [k9.2]; rfl) rfl (by decide)
    have a10 : I t10 = J t10 := f.2.2.2 v0 12 10 t10 k0 h10 (by rw [k10.2]; rfl) rfl (by decide)
    unfold f_X12_stairs_L301
    refine ⟨fun c => ?_, fun c => ?_⟩
    · have c := (i_le e8 e3).mp c
      exact hQ I L w f (fun s hs => hT s (by omega))
    have c := (not_congr (i_le e8 e3)).mp c
    have vi : vp_in v3 6 := vi_of e3 (by omega) (by omega)
    intro b hb; cases h14.symm.trans hb
    refine ⟨vi, fun I4 e4 => ?_⟩
    intro b hb; cases h15.symm.trans hb
    intro b hb; cases h9.symm.trans hb
    refine ⟨vi, vi, fun I9 e9 => ?_⟩
    intro b hb; cases h16.symm.trans hb
    intro b hb; cases h10.symm.trans hb
    refine ⟨vi, vi, fun I14 e14 x15 e15 => ?_⟩
    rw [n3] at e4 e9 e14
    have w4 : WD Z I4 := by rw [e4]; exact WD_putA w 12 14 k0 h14 k14 rfl rfl (by decide) (by constructor <;> decide)
    have w9 : WD Z I9 := by rw [e9]; exact WD_putA w4 12 15 k0 h15 k15 rfl rfl (by decide) trivial
    have w14 : WD Z I14 := by rw [e14]; exact WD_putA w9 12 16 k0 h16 k16 rfl rfl (by decide) trivial
    have f4 : FR [(12, 14), (12, 15), (12, 16)] Z I Z I4 := by rw [e4]; exact FR_upA w.2.1 k0 h14 k14 rfl rfl (by decide)
    have f9 : FR [(12, 14), (12, 15), (12, 16)] Z I4 Z I9 := by rw [e9]; exact FR_upA w4.2.1 k0 h15 k15 rfl rfl (by decide)
    have f14 : FR [(12, 14), (12, 15), (12, 16)] Z I9 Z I14 := by rw [e14]; exact FR_upA w9.2.1 k0 h16 k16 rfl rfl (by decide)
    refine ih (p + 1) x15 I14 L (by omega) (by omega) (by rw [e15]; exact (i_add e3 z1 (by omega) (by omega)).trans (by omega)) w14 (((f.trans wJ.1 wJ.2.1 f4).trans wJ.1 wJ.2.1 f9).trans wJ.1 wJ.2.1 f14) (fun s hs => ?_)
    have y9 : I4 t9 p = J t9 p := by rw [e4, jpI_ne m94, a9]
    have y10 : I9 t10 p = J t10 p := by rw [e9, jpI_ne m95, e4, jpI_ne m96, a10]
    rw [y9] at e9
    rw [y10] at e14
    by_cases c9 : s = p
    · subst c9
      refine ⟨?_, ?_, ?_⟩
      · rw [e14, jpI_ne n46, e9, jpI_ne n45, e4, jpI_at]
      · rw [e14, jpI_ne n56, e9, jpI_at]
      · rw [e14, jpI_at]
    · have h := hT s (by omega)
      refine ⟨?_, ?_, ?_⟩
      · rw [e14, jpI_ne n46, e9, jpI_ne n45, e4, jpI_off c9]; exact h.1
      · rw [e14, jpI_ne n56, e9, jpI_off c9, e4, jpI_ne n45.symm]; exact h.2.1
      · rw [e14, jpI_off c9, e9, jpI_ne n56.symm, e4, jpI_ne n46.symm]; exact h.2.2
theorem ps_L280 {B : Nat × Nat} {Z : jZ} {J : jI} (wJ : WD Z J) (v0 : Nat) (v1 : Int32) (k0 : jk Z v0 12) (t9 t10 t14 t15 t16 np : Nat) (h9 : jr Z v0 9 = some t9) (k9 : jk Z t9 14) (h10 : jr Z v0 10 = some t10) (k10 : jk Z t10 14) (h14 : jr Z v0 14 = some t14) (k14 : jk Z t14 14) (h15 : jr Z v0 15 = some t15) (k15 : jk Z t15 14) (h16 : jr Z v0 16 = some t16) (k16 : jk Z t16 14) (en : (J v0 8).toInt = (np : Int)) {Q : Int32 → jZ → jI → jL → Prop}
    (hQ : ∀ (I : jI) (L : jL), WD Z I → FR [(12, 14), (12, 15), (12, 16), (12, 17)] Z J Z I → (∀ p, p < np → I t14 p = -1 ∧ I t15 p = J t9 p ∧ I t16 p = J t10 p) → Q v1 Z I L) :
    ∀ (n p : Nat) (v3 : Int32) (I : jI) (L : jL), 9 ≤ n + p → p ≤ 8 → v3.toInt = (p : Int) → WD Z I → FR [(12, 17)] Z J Z I → f_X12_stairs_L280 B Q n v0 v1 v3 Z I L := by
  have z1 : (1 : Int32).toInt = 1 := rfl
  have z8 : (8 : Int32).toInt = 8 := rfl
  have n6 : 0 ≤ (J v0 8).toInt ∧ (J v0 8).toInt ≤ 6 := wJ.fld 12 8 k0 (by decide)
  obtain ⟨t17, h17, k17, -⟩ := sh_f wJ.1 k0 (j := 17) (k := 14) (m := 8) rfl
  intro n
  induction n with
  | zero => intro p v3 I L hk hi; omega
  | succ n ih =>
    intro p v3 I L hk hi e3 w f
    have n3 : v3.toNatClampNeg = p := by have := i_nat e3 (by omega); omega
    unfold f_X12_stairs_L280
    refine ⟨fun c => ?_, fun c => ?_⟩
    · have a9 : I t9 = J t9 := f.2.2.2 v0 12 9 t9 k0 h9 (by rw [k9.2]; rfl) rfl (by decide)
      have a10 : I t10 = J t10 := f.2.2.2 v0 12 10 t10 k0 h10 (by rw [k10.2]; rfl) rfl (by decide)
      refine ⟨np + 1, ps_L301 w v0 v1 k0 t9 t10 t14 t15 t16 np h9 k9 h10 k10 h14 k14 h15 k15 h16 k16 (by rw [f.2.2.1 v0 12 8 k0 (by decide) (by decide)]; exact en) (fun I' L' w' f' h => ?_) (np + 1) 0 0 I L (by omega) (by omega) rfl w FR.rf (fun s hs => absurd hs (Nat.not_lt_zero s))⟩
      rw [a9, a10] at h
      exact hQ I' L' w' ((f.mono (by decide)).trans wJ.1 wJ.2.1 (f'.mono (by decide))) h
    have c := (not_congr (i_le z8 e3)).mp c
    intro b hb; cases h17.symm.trans hb
    refine ⟨vi_of e3 (by omega) (by omega), fun I4 e4 x5 e5 => ?_⟩
    have w4 : WD Z I4 := by rw [e4]; exact WD_putA w 12 17 k0 h17 k17 rfl rfl (by decide) trivial
    have f4 : FR [(12, 17)] Z I Z I4 := by rw [e4]; exact FR_upA w.2.1 k0 h17 k17 rfl rfl (by decide)
    exact ih (p + 1) x5 I4 L (by omega) (by omega) (by rw [e5]; exact (i_add e3 z1 (by omega) (by omega)).trans (by omega)) w4 (f.trans wJ.1 wJ.2.1 f4)
theorem pl_X12_stairs {B : Nat × Nat} {T : Nat} {Z : jZ} {I : jI} {L : jL} (w : WD Z I) (bd : BUD B Z T) (v0 : Nat) (k0 : jk Z v0 12) (t9 t10 t14 t15 t16 : Nat) (h9 : jr Z v0 9 = some t9) (k9 : jk Z t9 14) (h10 : jr Z v0 10 = some t10) (k10 : jk Z t10 14) (h14 : jr Z v0 14 = some t14) (k14 : jk Z t14 14) (h15 : jr Z v0 15 = some t15) (k15 : jk Z t15 14) (h16 : jr Z v0 16 = some t16) (k16 : jk Z t16 14) {Q : Int32 → jZ → jI → jL → Prop}
    (hQ : ∀ (r : Int32) (Z' : jZ) (I' : jI) (L' : jL), PLS12 I I' v0 t9 t10 t14 t15 t16 → Q r Z' I' L') : f_X12_stairs B v0 Z I L Q := by
  have n6 : 0 ≤ (I v0 8).toInt ∧ (I v0 8).toInt ≤ 6 := w.fld 12 8 k0 (by decide)
  obtain ⟨np, en⟩ : ∃ np : Nat, (I v0 8).toInt = (np : Int) := ⟨(I v0 8).toInt.toNat, by omega⟩
  refine sp_X12_stairs w bd v0 k0 ⟨fun r Z' I' L' w' _ f' _ => hQ r Z' I' L' (Or.inl ⟨f'.2.2.1 v0 12 7 k0 (by decide) (by decide), f'.2.2.2 v0 12 14 t14 k0 h14 (by rw [k14.2]; rfl) rfl (by decide), f'.2.2.2 v0 12 15 t15 k0 h15 (by rw [k15.2]; rfl) rfl (by decide), f'.2.2.2 v0 12 16 t16 k0 h16 (by rw [k16.2]; rfl) rfl (by decide)⟩), fun v1 h2 Z1 I1 L1 w1 bd1 f1 cp1 => ?_⟩
  intro I38 e38 I39 e39
  have k1 := (f1.1 _ _ k0).1
  have w38 : WD Z1 I38 := by rw [e38]; exact WD_putF w1 12 7 k1 (by decide) (by decide) trivial
  have w39 : WD Z1 I39 := by rw [e39]; exact WD_putF w38 12 52 k1 (by decide) (by decide) (by constructor <;> decide)
  have f38 : FR [(12, 7), (12, 52)] Z1 I1 Z1 I38 := by rw [e38]; exact FR_putF k1 (by decide) (by decide)
  have f39 : FR [(12, 7), (12, 52)] Z1 I38 Z1 I39 := by rw [e39]; exact FR_putF k1 (by decide) (by decide)
  have f13 := f38.trans w1.1 w1.2.1 f39
  have g : ∀ (j b : Nat), jr Z v0 j = some b → j ≠ 23 → jr Z1 v0 j = some b := fun j b e hj => (f1.2.1 v0 12 j k0 (fun q => absurd q.1 (by decide)) (fun q => hj q.2)).trans e
  have e7 : I39 v0 7 = I v0 7 + 1 := by
    rw [e39, jpI_o (by decide), e38, jpI_at, f1.2.2.1 v0 12 7 k0 (by decide) (by decide)]
  have a9 : I39 t9 = I t9 := (f13.2.2.2 v0 12 9 t9 k1 (g 9 _ h9 (by decide)) (by rw [((f1.1 _ _ k9).1).2]; rfl) rfl (by decide)).trans (f1.2.2.2 v0 12 9 t9 k0 h9 (by rw [k9.2]; rfl) rfl (by decide))
  have a10 : I39 t10 = I t10 := (f13.2.2.2 v0 12 10 t10 k1 (g 10 _ h10 (by decide)) (by rw [((f1.1 _ _ k10).1).2]; rfl) rfl (by decide)).trans (f1.2.2.2 v0 12 10 t10 k0 h10 (by rw [k10.2]; rfl) rfl (by decide))
  have e8 : (I39 v0 8).toInt = (np : Int) := by rw [f13.2.2.1 v0 12 8 k1 (by decide) (by decide), f1.2.2.1 v0 12 8 k0 (by decide) (by decide)]; exact en
  refine ⟨9, ps_L280 w39 v0 v1 k1 t9 t10 t14 t15 t16 np (g 9 _ h9 (by decide)) (f1.1 _ _ k9).1 (g 10 _ h10 (by decide)) (f1.1 _ _ k10).1 (g 14 _ h14 (by decide)) (f1.1 _ _ k14).1 (g 15 _ h15 (by decide)) (f1.1 _ _ k15).1 (g 16 _ h16 (by decide)) (f1.1 _ _ k16).1 e8 (fun I4 L4 w4 f4 h => ?_) 9 0 0 I39 L1 (by omega) (by omega) rfl w39 FR.rf⟩
  rw [a9, a10] at h
  exact hQ v1 Z1 I4 L4 (Or.inr ⟨(f4.2.2.1 v0 12 7 k1 (by decide) (by decide)).trans e7, fun p hp => h p (by omega)⟩)
/-! ===== pilgrims that are kept, both sides ===== -/
def KPL (Z : jZ) (I : jI) (uS u62 u65 : Nat) (n : Int) : Prop := ∀ i b a4 a5 a6, i < 2 → jr Z uS i = some b → ¬ I b 8 = 0 → jr Z b 4 = some a4 → jr Z b 5 = some a5 → jr Z b 6 = some a6 → I b 7 = I u65 i ∧ (I b 7).toInt ≤ 6 ∧ ∀ p : Nat, (p : Int) < (I b 7).toInt → I a4 p = I u62 (266 * i + (240 + 3 * p)) ∧ I a5 p = I u62 (266 * i + (240 + 3 * p + 1)) ∧ I a6 p = I u62 (266 * i + (240 + 3 * p + 2)) ∧ (I a4 p).toInt < n
def WKL : List (Nat × Nat) := [(2, 4), (2, 5), (2, 6), (2, 7), (2, 8), (12, 62), (12, 65)]
theorem KPL_fr {W : List (Nat × Nat)} {Z Z' : jZ} {I I' : jI} {uS v2 u62 u65 : Nat} {n m : Int} (f : FR W Z I Z' I') (sh : SH Z) (kS : jk Z uS 17) (lS : jlen Z uS = 2) (k2 : jk Z v2 12) (h62 : jr Z v2 62 = some u62) (k62 : jk Z u62 14) (h65 : jr Z v2 65 = some u65) (k65 : jk Z u65 14) (hW : ∀ p ∈ WKL, p ∉ W) (em : m = n) (h : KPL Z I uS u62 u65 n) : KPL Z' I' uS u62 u65 m := by
  subst em
  intro i b a4 a5 a6 hi hb hh h4 h5 h6
  rw [f.2.1 uS 17 i kS (by omega) (by omega)] at hb
  obtain ⟨y, ey, kb⟩ := sh.2.2.1 uS kS i (by rw [lS]; exact hi)
  cases hb.symm.trans ey
  rw [f.2.1 b 2 4 kb (by omega) (by omega)] at h4
  rw [f.2.1 b 2 5 kb (by omega) (by omega)] at h5
  rw [f.2.1 b 2 6 kb (by omega) (by omega)] at h6
  obtain ⟨x4, ex4, k4, -⟩ := sh_f sh kb (j := 4) (k := 14) (m := 6) rfl
  cases h4.symm.trans ex4
  obtain ⟨x5, ex5, k5, -⟩ := sh_f sh kb (j := 5) (k := 14) (m := 6) rfl
  cases h5.symm.trans ex5
  obtain ⟨x6, ex6, k6, -⟩ := sh_f sh kb (j := 6) (k := 14) (m := 6) rfl
  cases h6.symm.trans ex6
  rw [f.2.2.1 b 2 8 kb (by decide) (hW _ (by decide))] at hh
  rw [f.2.2.1 b 2 7 kb (by decide) (hW _ (by decide)), f.2.2.2 b 2 4 a4 kb h4 (by rw [k4.2]; rfl) rfl (hW _ (by decide)), f.2.2.2 b 2 5 a5 kb h5 (by rw [k5.2]; rfl) rfl (hW _ (by decide)), f.2.2.2 b 2 6 a6 kb h6 (by rw [k6.2]; rfl) rfl (hW _ (by decide)), f.2.2.2 v2 12 62 u62 k2 h62 (by rw [k62.2]; rfl) rfl (hW _ (by decide)), f.2.2.2 v2 12 65 u65 k2 h65 (by rw [k65.2]; rfl) rfl (hW _ (by decide))]
  exact h i b a4 a5 a6 hi hb hh h4 h5 h6
theorem KPL_frp {Z Z' : jZ} {I I' : jI} {uS u62 u65 : Nat} {n m : Int} (f : FRp Z I Z' I') (sh : SH Z) (kS : jk Z uS 17) (lS : jlen Z uS = 2) (k62 : jk Z u62 14) (k65 : jk Z u65 14) (em : m = n) (h : KPL Z I uS u62 u65 n) : KPL Z' I' uS u62 u65 m := by
  subst em
  intro i b a4 a5 a6 hi hb hh h4 h5 h6
  rw [f.1 uS 17 i kS (by decide)] at hb
  obtain ⟨y, ey, kb⟩ := sh.2.2.1 uS kS i (by rw [lS]; exact hi)
  cases hb.symm.trans ey
  rw [f.1 b 2 4 kb (by decide)] at h4
  rw [f.1 b 2 5 kb (by decide)] at h5
  rw [f.1 b 2 6 kb (by decide)] at h6
  obtain ⟨x4, ex4, k4, -⟩ := sh_f sh kb (j := 4) (k := 14) (m := 6) rfl
  cases h4.symm.trans ex4
  obtain ⟨x5, ex5, k5, -⟩ := sh_f sh kb (j := 5) (k := 14) (m := 6) rfl
  cases h5.symm.trans ex5
  obtain ⟨x6, ex6, k6, -⟩ := sh_f sh kb (j := 6) (k := 14) (m := 6) rfl
  cases h6.symm.trans ex6
  rw [f.2 b 2 8 kb (by decide)] at hh
  have ar : ∀ a, jk Z a 14 → I' a = I a := fun a ka => funext fun i => f.2 a 14 i ka (by omega)
  rw [f.2 b 2 7 kb (by decide), ar a4 k4, ar a5 k5, ar a6 k6, ar u62 k62, ar u65 k65]
  exact h i b a4 a5 a6 hi hb hh h4 h5 h6
theorem KPL_stairs {Z Z2 : jZ} {I0 I1 I2 : jI} {uS v2 u62 u65 : Nat} {r1 r2 : Int} {n m : Int} (f1 : FR Ws_X11_stairs Z I0 Z I1) (f2 : FR Ws_X12_stairs Z I1 Z2 I2) (sh : SH Z) (kS : jk Z uS 17) (lS : jlen Z uS = 2) (k2 : jk Z v2 12) (h62 : jr Z v2 62 = some u62) (k62 : jk Z u62 14) (h65 : jr Z v2 65 = some u65) (k65 : jk Z u65 14) (er : r1 = r2)
    (p1 : (r1 < 0 → ∀ b, jk Z b 2 → I1 b 8 = I0 b 8) ∧ (0 ≤ r1 → ∀ i b, i < 2 → jr Z uS i = some b → I1 b 8 = 0)) (em : r2 < 0 → m = n) (h : KPL Z I0 uS u62 u65 n) : KPL Z2 I2 uS u62 u65 m := by
  intro i b a4 a5 a6 hi hb hh h4 h5 h6
  rw [f2.2.1 uS 17 i kS (by omega) (by omega)] at hb
  obtain ⟨y, ey, kb⟩ := sh.2.2.1 uS kS i (by rw [lS]; exact hi)
  cases hb.symm.trans ey
  rw [f2.2.1 b 2 4 kb (by omega) (by omega)] at h4
  rw [f2.2.1 b 2 5 kb (by omega) (by omega)] at h5
  rw [f2.2.1 b 2 6 kb (by omega) (by omega)] at h6
  obtain ⟨x4, ex4, k4, -⟩ := sh_f sh kb (j := 4) (k := 14) (m := 6) rfl
  cases h4.symm.trans ex4
  obtain ⟨x5, ex5, k5, -⟩ := sh_f sh kb (j := 5) (k := 14) (m := 6) rfl
  cases h5.symm.trans ex5
  obtain ⟨x6, ex6, k6, -⟩ := sh_f sh kb (j := 6) (k := 14) (m := 6) rfl
  cases h6.symm.trans ex6
  rw [f2.2.2.1 b 2 8 kb (by decide) (by decide)] at hh
  by_cases c : 0 ≤ r1
  · exact absurd (p1.2 c i b hi hb) hh
  · rw [p1.1 (by omega) b kb] at hh
    rw [em (by omega), f2.2.2.1 b 2 7 kb (by decide) (by decide), f1.2.2.1 b 2 7 kb (by decide) (by decide), f2.2.2.2 b 2 4 a4 kb h4 (by rw [k4.2]; rfl) rfl (by decide), f1.2.2.2 b 2 4 a4 kb h4 (by rw [k4.2]; rfl) rfl (by decide), f2.2.2.2 b 2 5 a5 kb h5 (by rw [k5.2]; rfl) rfl (by decide), f1.2.2.2 b 2 5 a5 kb h5 (by rw [k5.2]; rfl) rfl (by decide), f2.2.2.2 b 2 6 a6 kb h6 (by rw [k6.2]; rfl) rfl (by decide), f1.2.2.2 b 2 6 a6 kb h6 (by rw [k6.2]; rfl) rfl (by decide), f2.2.2.2 v2 12 62 u62 k2 h62 (by rw [k62.2]; rfl) rfl (by decide), f1.2.2.2 v2 12 62 u62 k2 h62 (by rw [k62.2]; rfl) rfl (by decide), f2.2.2.2 v2 12 65 u65 k2 h65 (by rw [k65.2]; rfl) rfl (by decide), f1.2.2.2 v2 12 65 u65 k2 h65 (by rw [k65.2]; rfl) rfl (by decide)]
    exact h i b a4 a5 a6 hi hb hh h4 h5 h6
theorem kS_p3 {st as pa wh kl pl ea : Nat → Int32} {p : Nat} (h : p < 6) : kSrc st as pa wh kl pl ea (240 + 3 * p) = wh p ∧ kSrc st as pa wh kl pl ea (240 + 3 * p + 1) = kl p ∧ kSrc st as pa wh kl pl ea (240 + 3 * p + 2) = pl p := by
  unfold kSrc
  refine ⟨?_, ?_, ?_⟩
  · rw [if_neg (by omega), if_neg (by omega), if_pos (by omega), if_pos (by omega), show (240 + 3 * p - 240) / 3 = p by omega]
  · rw [if_neg (by omega), if_neg (by omega), if_pos (by omega), if_neg (by omega), if_pos (by omega), show (240 + 3 * p + 1 - 240) / 3 = p by omega]
  · rw [if_neg (by omega), if_neg (by omega), if_pos (by omega), if_neg (by omega), if_neg (by omega), show (240 + 3 * p + 2 - 240) / 3 = p by omega]
/-- where PILGRIMS of both sides are: pilgrim by pilgrim -/
def PAT (Z : jZ) (I J : jI) (uA t14 t15 t16 p : Nat) (n : Int) : Prop := ∃ q, jr Z uA p = some q ∧ jk Z q 5 ∧ I q 5 = J t14 p ∧ I q 6 = J t15 p ∧ I q 7 = J t16 p ∧ (J t14 p).toInt < n
theorem PLB_at {Z : jZ} {I : jI} {v1 v2 uA t14 t15 t16 p : Nat} (h : PLB Z I v1 v2 uA t14 t15 t16) (hp : (p : Int) < (I v1 4).toInt) : PAT Z I I uA t14 t15 t16 p (I v2 0).toInt := by
  obtain ⟨-, p5, p6, p7, ha⟩ := h
  obtain ⟨q, hq, kq, e5⟩ := p5 p hp
  obtain ⟨q', hq', -, e6⟩ := p6 p hp
  cases hq.symm.trans hq'
  obtain ⟨q', hq', -, e7⟩ := p7 p hp
  cases hq.symm.trans hq'
  exact ⟨q, hq, kq, e5, e6, e7, ha p hp⟩
theorem PLB_of {Z : jZ} {I : jI} {v1 v2 uA t14 t15 t16 : Nat} (r : RPr Z v2 t14 t15 t16) (h : ∀ p : Nat, (p : Int) < (I v1 4).toInt → PAT Z I I uA t14 t15 t16 p (I v2 0).toInt) : PLB Z I v1 v2 uA t14 t15 t16 :=
  ⟨r, fun p hp => (h p hp).elim fun q a => ⟨q, a.1, a.2.1, a.2.2.1⟩, fun p hp => (h p hp).elim fun q a => ⟨q, a.1, a.2.1, a.2.2.2.1⟩, fun p hp => (h p hp).elim fun q a => ⟨q, a.1, a.2.1, a.2.2.2.2.1⟩, fun p hp => (h p hp).elim fun q a => a.2.2.2.2.2⟩
set_option maxHeartbeats 1000000 in
theorem KPL_keep {Z : jZ} {I0 I1 I2 : jI} {v1 v2 uA uS u62 u65 uK uC t14 t15 t16 : Nat} {v : Int32} {r1 r2 : Int} (w : WD Z I0) (f1 : FR Ws_X11_keep Z I0 Z I1) (f2 : FR Ws_X12_keep Z I1 Z I2) (k1 : jk Z v1 11) (kS : jk Z uS 17) (lS : jlen Z uS = 2) (k2 : jk Z v2 12) (h62 : jr Z v2 62 = some u62) (k62 : jk Z u62 14) (h65 : jr Z v2 65 = some u65) (k65 : jk Z u65 14) (e48 : (I0 v1 4).toInt = (I0 v2 8).toInt)
    (p1 : KP11 Z uS v r1 I0 I1) (q1 : KBP Z I0 I1 v1 uA uS v r1) (p2 : KP12 v2 uK uC v r2 I1 I2) (q2 : KPM Z v2 v r2 I1 I2) (hp : PLB Z I0 v1 v2 uA t14 t15 t16) (h : KPL Z I0 uS u62 u65 (I0 v2 0).toInt) : KPL Z I2 uS u62 u65 (I2 v2 0).toInt := by
  intro i b a4 a5 a6 hi hb hh h4 h5 h6
  have n6 : 0 ≤ (I0 v1 4).toInt ∧ (I0 v1 4).toInt ≤ 6 := w.fld 11 4 k1 (by decide)
  obtain ⟨y, ey, kb⟩ := w.1.2.2.1 uS kS i (by rw [lS]; exact hi)
  cases hb.symm.trans ey
  obtain ⟨x4, ex4, k4, -⟩ := sh_f w.1 kb (j := 4) (k := 14) (m := 6) rfl
  cases h4.symm.trans ex4
  obtain ⟨x5, ex5, k5, -⟩ := sh_f w.1 kb (j := 5) (k := 14) (m := 6) rfl
  cases h5.symm.trans ex5
  obtain ⟨x6, ex6, k6, -⟩ := sh_f w.1 kb (j := 6) (k := 14) (m := 6) rfl
  cases h6.symm.trans ex6
  obtain ⟨u2, h2, -⟩ := sh_f w.1 k2 (j := 2) (k := 14) (m := 24) rfl
  obtain ⟨u3, h3, -⟩ := sh_f w.1 k2 (j := 3) (k := 14) (m := 24) rfl
  obtain ⟨u5, h5', -⟩ := sh_f w.1 k2 (j := 5) (k := 14) (m := 192) rfl
  obtain ⟨u17, h17, -⟩ := sh_f w.1 k2 (j := 17) (k := 14) (m := 8) rfl
  obtain ⟨h14, k14, h15, k15, h16, k16⟩ := hp.1
  have g2 := q2 u62 u65 u2 u3 u5 t14 t15 t16 u17 h62 h65 h2 h3 h5' h14 h15 h16 h17
  have m14 : I1 t14 = I0 t14 := f1.2.2.2 v2 12 14 t14 k2 h14 (by rw [k14.2]; rfl) rfl (by decide)
  have m15 : I1 t15 = I0 t15 := f1.2.2.2 v2 12 15 t15 k2 h15 (by rw [k15.2]; rfl) rfl (by decide)
  have m16 : I1 t16 = I0 t16 := f1.2.2.2 v2 12 16 t16 k2 h16 (by rw [k16.2]; rfl) rfl (by decide)
  have eK : I1 u62 = I0 u62 := f1.2.2.2 v2 12 62 u62 k2 h62 (by rw [k62.2]; rfl) rfl (by decide)
  have eL : I1 u65 = I0 u65 := f1.2.2.2 v2 12 65 u65 k2 h65 (by rw [k65.2]; rfl) rfl (by decide)
  have e0 : I2 v2 0 = I0 v2 0 := (f2.2.2.1 v2 12 0 k2 (by decide) (by decide)).trans (f1.2.2.1 v2 12 0 k2 (by decide) (by decide))
  have e8 : I1 v2 8 = I0 v1 4 := (f1.2.2.1 v2 12 8 k2 (by decide) (by decide)).trans ((i_eq rfl rfl).mpr e48.symm)
  have y7 : I2 b 7 = I1 b 7 := f2.2.2.1 b 2 7 kb (by decide) (by decide)
  have y4 : I2 a4 = I1 a4 := f2.2.2.2 b 2 4 a4 kb h4 (by rw [k4.2]; rfl) rfl (by decide)
  have y5 : I2 a5 = I1 a5 := f2.2.2.2 b 2 5 a5 kb h5 (by rw [k5.2]; rfl) rfl (by decide)
  have y6 : I2 a6 = I1 a6 := f2.2.2.2 b 2 6 a6 kb h6 (by rw [k6.2]; rfl) rfl (by decide)
  rw [f2.2.2.1 b 2 8 kb (by decide) (by decide)] at hh
  rw [y7, y4, y5, y6, e0]
  rcases p1 with ⟨hr, hv, z1⟩ | ⟨hr, hv, z1⟩
  · have hr2 : r2 = 1 := by
      rcases p2 with ⟨h9, -⟩ | ⟨-, h9, -⟩
      · exact h9
      · exact absurd hv h9
    obtain ⟨k1', k2', k3', k4'⟩ := g2.1 hr2
    have n1 := i_nat (x := v) rfl hv.1
    have g1 := q1.1 hr i b a4 a5 a6 hi hb h4 h5 h6
    by_cases c : i = v.toNatClampNeg
    · obtain ⟨s7, sp⟩ := g1.1 c
      rw [s7]
      refine ⟨by rw [c, k3', e8], n6.2, fun p hp9 => ?_⟩
      obtain ⟨q, hq, kq, c5, c6, c7, c8⟩ := PLB_at hp hp9
      obtain ⟨d4, d5, d6⟩ := sp p q hp9 hq
      obtain ⟨s1, s2, s3⟩ := kS_p3 (st := I1 u2) (as := I1 u3) (pa := I1 u5) (wh := I1 t14) (kl := I1 t15) (pl := I1 t16) (ea := I1 u17) (p := p) (by omega)
      rw [c, k1' (240 + 3 * p) (by omega), k1' (240 + 3 * p + 1) (by omega), k1' (240 + 3 * p + 2) (by omega), s1, s2, s3, m14, m15, m16, d4, d5, d6, c5]
      exact ⟨rfl, c6, c7, c8⟩
    · obtain ⟨s7, s4, s5, s6⟩ := g1.2 c
      rw [(z1 i b hi hb).2 c] at hh
      rw [s7, s4, s5, s6, k4' i c, eL]
      obtain ⟨o7, o8, op⟩ := h i b a4 a5 a6 hi hb hh h4 h5 h6
      refine ⟨o7, o8, fun p hp9 => ?_⟩
      rw [k2' (266 * i + (240 + 3 * p)) (by omega), k2' (266 * i + (240 + 3 * p + 1)) (by omega), k2' (266 * i + (240 + 3 * p + 2)) (by omega), eK]
      exact op p hp9
  · have hr2 : r2 = 0 := by
      rcases p2 with ⟨-, h9, -⟩ | ⟨h9, -⟩
      · exact absurd h9 hv
      · exact h9
    have e1 := q1.2 (by omega)
    rw [z1 b kb] at hh
    rw [(g2.2 hr2).1, (g2.2 hr2).2, e1]
    exact h i b a4 a5 a6 hi hb hh h4 h5 h6
set_option maxHeartbeats 1000000 in
theorem PLB_again {Z : jZ} {I0 I1 I2 : jI} {v1 v2 uA uS u62 u65 t14 t15 t16 : Nat} {v : Int32} {r1 r2 : Int} (w : WD Z I0) (f1 : FR Ws_X11_again Z I0 Z I1) (f2 : FR Ws_X12_again Z I1 Z I2) (k1 : jk Z v1 11) (kS : jk Z uS 17) (lS : jlen Z uS = 2) (k2 : jk Z v2 12) (h62 : jr Z v2 62 = some u62) (k62 : jk Z u62 14) (h65 : jr Z v2 65 = some u65) (k65 : jk Z u65 14) (er : r1 = r2)
    (p1 : YN r1 (AG11 Z I0 uS v)) (q1 : AGP Z I0 I1 v1 uA uS v r1) (q2 : PGM Z v2 v r2 I1 I2) (hp : PLB Z I0 v1 v2 uA t14 t15 t16) (h : KPL Z I0 uS u62 u65 (I0 v2 0).toInt) : PLB Z I2 v1 v2 uA t14 t15 t16 := by
  subst er
  have n6 : 0 ≤ (I0 v1 4).toInt ∧ (I0 v1 4).toInt ≤ 6 := w.fld 11 4 k1 (by decide)
  obtain ⟨h14, k14, h15, k15, h16, k16⟩ := hp.1
  have m14 : I1 t14 = I0 t14 := f1.2.2.2 v2 12 14 t14 k2 h14 (by rw [k14.2]; rfl) rfl (by decide)
  have m15 : I1 t15 = I0 t15 := f1.2.2.2 v2 12 15 t15 k2 h15 (by rw [k15.2]; rfl) rfl (by decide)
  have m16 : I1 t16 = I0 t16 := f1.2.2.2 v2 12 16 t16 k2 h16 (by rw [k16.2]; rfl) rfl (by decide)
  have eK : I1 u62 = I0 u62 := f1.2.2.2 v2 12 62 u62 k2 h62 (by rw [k62.2]; rfl) rfl (by decide)
  have eL : I1 u65 = I0 u65 := f1.2.2.2 v2 12 65 u65 k2 h65 (by rw [k65.2]; rfl) rfl (by decide)
  have e0 : I2 v2 0 = I0 v2 0 := (f2.2.2.1 v2 12 0 k2 (by decide) (by decide)).trans (f1.2.2.1 v2 12 0 k2 (by decide) (by decide))
  have e4 : I2 v1 4 = I0 v1 4 := (f2.2.2.1 v1 11 4 k1 (by decide) (by decide)).trans (f1.2.2.1 v1 11 4 k1 (by decide) (by decide))
  refine PLB_of hp.1 (fun p hp9 => ?_)
  rw [e4] at hp9
  rw [e0]
  obtain ⟨q, hq, kq, c5, c6, c7, c8⟩ := PLB_at hp hp9
  have z5 : I2 q 5 = I1 q 5 := f2.2.2.1 q 5 5 kq (by decide) (by decide)
  have z6 : I2 q 6 = I1 q 6 := f2.2.2.1 q 5 6 kq (by decide) (by decide)
  have z7 : I2 q 7 = I1 q 7 := f2.2.2.1 q 5 7 kq (by decide) (by decide)
  have g2 := q2 t14 t15 t16 u62 u65 h14 h15 h16 h62 h65
  refine ⟨q, hq, kq, ?_⟩
  rw [z5, z6, z7]
  rcases p1 with ⟨hr, hv, b, hb, hh⟩ | ⟨hr, -⟩
  · obtain ⟨y, ey, kb⟩ := w.1.2.2.1 uS kS v.toNatClampNeg (by have n1 := i_nat (x := v) rfl hv.1; rw [lS]; omega)
    cases hb.symm.trans ey
    obtain ⟨a4, h4, k4, -⟩ := sh_f w.1 kb (j := 4) (k := 14) (m := 6) rfl
    obtain ⟨a5, h5, k5, -⟩ := sh_f w.1 kb (j := 5) (k := 14) (m := 6) rfl
    obtain ⟨a6, h6, k6, -⟩ := sh_f w.1 kb (j := 6) (k := 14) (m := 6) rfl
    have g1 := q1.1 hr b a4 a5 a6 hb h4 h5 h6 p q hp9 hq
    have g3 := g2.1 hr p (by omega)
    have n1 := i_nat (x := v) rfl hv.1
    obtain ⟨o7, -, op⟩ := h v.toNatClampNeg b a4 a5 a6 (by omega) hb hh h4 h5 h6
    rw [eL, ← o7, eK, m14, m15, m16] at g3
    by_cases c : (p : Int) < (I0 b 7).toInt
    · obtain ⟨d5, d6, d7⟩ := g1.1 c
      obtain ⟨s5, s6, s7⟩ := g3.1 c
      obtain ⟨o4, o5, o6, o0⟩ := op p c
      rw [d5, d6, d7, s5, s6, s7, ← o4]
      exact ⟨rfl, o5, o6, o0⟩
    · obtain ⟨d5, d6, d7⟩ := g1.2 c
      obtain ⟨s5, s6, s7⟩ := g3.2 c
      rw [d5, d6, d7, s5, s6, s7]
      exact ⟨c5, c6, c7, c8⟩
  · have nr : ¬ r1 = 1 := by omega
    obtain ⟨d5, d6, d7⟩ := q1.2 nr q kq
    obtain ⟨s5, s6, s7⟩ := g2.2 nr
    rw [d5, d6, d7, s5, s6, s7, m14, m15, m16]
    exact ⟨c5, c6, c7, c8⟩
/-- after stairs of the class -/
def PLS11 (Z : jZ) (I I' : jI) (uA n : Nat) (r : Int) : Prop := (0 ≤ r → TLD Z I' uA n) ∧ (r < 0 → ∀ q, jk Z q 5 → TRI I' I q)
set_option maxHeartbeats 1000000 in
theorem PLB_stairs {Z Z2 : jZ} {I0 I1 I2 : jI} {v1 v2 uF uA t9 t10 t11 t12 t14 t15 t16 : Nat} {r1 r2 : Int} (w : WD Z I0) (f1 : FR Ws_X11_stairs Z I0 Z I1) (f2 : FR Ws_X12_stairs Z I1 Z2 I2) (k1 : jk Z v1 11) (kA : jk Z uA 18) (k2 : jk Z v2 12) (er : r1 = r2) (e48 : (I0 v1 4).toInt = (I0 v2 8).toInt) (b7 : 0 ≤ (I1 v2 7).toInt ∧ (I1 v2 7).toInt ≤ 1000) (n0 : 0 ≤ (I2 v2 0).toInt)
    (q1 : PLS11 Z I0 I1 uA (I0 v1 4).toInt.toNat r1) (q2 : PLS12 I1 I2 v2 t9 t10 t14 t15 t16) (p7 : (0 ≤ r2 → (I2 v2 7).toInt = (I1 v2 7).toInt + 1) ∧ (r2 < 0 → (I2 v2 7).toInt = (I1 v2 7).toInt)) (em : r2 < 0 → (I2 v2 0).toInt = (I0 v2 0).toInt) (hb : PB Z I0 v1 uF v2 uA t9 t10 t11 t12) (hp : PLB Z I0 v1 v2 uA t14 t15 t16) : PLB Z2 I2 v1 v2 uA t14 t15 t16 := by
  subst er
  have z1 : (1 : Int32).toInt = 1 := rfl
  have n6 : 0 ≤ (I0 v1 4).toInt ∧ (I0 v1 4).toInt ≤ 6 := w.fld 11 4 k1 (by decide)
  obtain ⟨h14, k14, h15, k15, h16, k16⟩ := hp.1
  have m14 : I1 t14 = I0 t14 := f1.2.2.2 v2 12 14 t14 k2 h14 (by rw [k14.2]; rfl) rfl (by decide)
  have m15 : I1 t15 = I0 t15 := f1.2.2.2 v2 12 15 t15 k2 h15 (by rw [k15.2]; rfl) rfl (by decide)
  have m16 : I1 t16 = I0 t16 := f1.2.2.2 v2 12 16 t16 k2 h16 (by rw [k16.2]; rfl) rfl (by decide)
  obtain ⟨⟨h9, k9, h10, k10, -⟩, c9, c10, -⟩ := hb
  have m9 : I1 t9 = I0 t9 := f1.2.2.2 v2 12 9 t9 k2 h9 (by rw [k9.2]; rfl) rfl (by decide)
  have m10 : I1 t10 = I0 t10 := f1.2.2.2 v2 12 10 t10 k2 h10 (by rw [k10.2]; rfl) rfl (by decide)
  have e8 : (I1 v2 8).toInt = (I0 v1 4).toInt := by rw [f1.2.2.1 v2 12 8 k2 (by decide) (by decide)]; exact e48.symm
  have e4 : I2 v1 4 = I0 v1 4 := (f2.2.2.1 v1 11 4 k1 (by decide) (by decide)).trans (f1.2.2.1 v1 11 4 k1 (by decide) (by decide))
  refine PLB_of (RPr_x f2 k2 hp.1) (fun p hp9 => ?_)
  rw [e4] at hp9
  obtain ⟨q, hq, kq, c5, c6, c7, c8⟩ := PLB_at hp hp9
  obtain ⟨q9, hq9, -, a9⟩ := c9 p hp9
  cases hq.symm.trans hq9
  obtain ⟨q9, hq9, -, a10⟩ := c10 p hp9
  cases hq.symm.trans hq9
  have z5 : I2 q 5 = I1 q 5 := f2.2.2.1 q 5 5 kq (by decide) (by decide)
  have z6 : I2 q 6 = I1 q 6 := f2.2.2.1 q 5 6 kq (by decide) (by decide)
  have z7 : I2 q 7 = I1 q 7 := f2.2.2.1 q 5 7 kq (by decide) (by decide)
  refine ⟨q, (f2.2.1 uA 18 p kA (by omega) (by omega)).trans hq, (f2.1 _ _ kq).1, ?_⟩
  rw [z5, z6, z7]
  by_cases c : 0 ≤ r1
  · have t := q1.1 c p q (by omega) hq
    have y0 : I1 q 0 = I0 q 0 := f1.2.2.1 q 5 0 kq (by decide) (by decide)
    have y1 : I1 q 1 = I0 q 1 := f1.2.2.1 q 5 1 kq (by decide) (by decide)
    have t7 := p7.1 c
    rcases q2 with ⟨s7, -⟩ | ⟨-, s⟩
    · rw [s7] at t7
      omega
    · obtain ⟨s4, s5, s6⟩ := s p (by omega)
      rw [s4, s5, s6, t.1, t.2.1, t.2.2, y0, y1, m9, m10]
      have zm : (-1 : Int32).toInt = -1 := rfl
      exact ⟨rfl, a9, a10, by omega⟩
  · have t := q1.2 (by omega) q kq
    have t7 := p7.2 (by omega)
    rcases q2 with ⟨-, s4, s5, s6⟩ | ⟨s7, -⟩
    · rw [s4, s5, s6, t.1, t.2.1, t.2.2, m14, m15, m16, em (by omega)]
      exact ⟨c5, c6, c7, c8⟩
    · have := i_add (x := I1 v2 7) (y := 1) rfl z1 (by omega) (by omega)
      rw [s7] at t7
      omega
/-- what is kept of pilgrims, in a bundle -/
def PK (Z : jZ) (I : jI) (v2 uS u62 u65 : Nat) : Prop := jr Z v2 65 = some u65 ∧ jk Z u65 14 ∧ KPL Z I uS u62 u65 (I v2 0).toInt
def WPK : List (Nat × Nat) := [(2, 4), (2, 5), (2, 6), (2, 7), (2, 8), (12, 62), (12, 65), (12, 0)]
theorem PK_fr {W : List (Nat × Nat)} {Z Z' : jZ} {I I' : jI} {v2 uS u62 u65 : Nat} (f : FR W Z I Z' I') (wo : WD Z I) (k2 : jk Z v2 12) (kS : jk Z uS 17) (lS : jlen Z uS = 2) (h62 : jr Z v2 62 = some u62) (k62 : jk Z u62 14) (hW : ∀ p ∈ WPK, p ∉ W) (h : PK Z I v2 uS u62 u65) : PK Z' I' v2 uS u62 u65 := by
  obtain ⟨h65, k65, c⟩ := h
  exact ⟨(f.2.1 v2 12 65 k2 (by decide) (by decide)).trans h65, (f.1 _ _ k65).1, KPL_fr f wo.1 kS lS k2 h62 k62 h65 k65 (fun p hp => hW p (List.mem_append_left [(12, 0)] hp)) (congrArg Int32.toInt (f.2.2.1 v2 12 0 k2 (by decide) (hW _ (by decide)))) c⟩
theorem PK_frp {Z Z' : jZ} {I I' : jI} {v2 uS u62 u65 : Nat} (f : FRp Z I Z' I') (x : jext Z Z') (wo : WD Z I) (k2 : jk Z v2 12) (kS : jk Z uS 17) (lS : jlen Z uS = 2) (k62 : jk Z u62 14) (h : PK Z I v2 uS u62 u65) : PK Z' I' v2 uS u62 u65 := by
  obtain ⟨h65, k65, c⟩ := h
  exact ⟨(f.1 v2 12 65 k2 (by decide)).trans h65, (x _ _ k65).1, KPL_frp f wo.1 kS lS k62 k65 (congrArg Int32.toInt (f.2 v2 12 0 k2 (by decide))) c⟩
theorem PK_stairs {Z Z2 : jZ} {I0 I1 I2 : jI} {uS v2 u62 u65 : Nat} {r1 r2 : Int} (f1 : FR Ws_X11_stairs Z I0 Z I1) (f2 : FR Ws_X12_stairs Z I1 Z2 I2) (sh : SH Z) (kS : jk Z uS 17) (lS : jlen Z uS = 2) (k2 : jk Z v2 12) (h62 : jr Z v2 62 = some u62) (k62 : jk Z u62 14) (er : r1 = r2)
    (p1 : (r1 < 0 → ∀ b, jk Z b 2 → I1 b 8 = I0 b 8) ∧ (0 ≤ r1 → ∀ i b, i < 2 → jr Z uS i = some b → I1 b 8 = 0)) (em : r2 < 0 → (I2 v2 0).toInt = (I0 v2 0).toInt) (h : PK Z I0 v2 uS u62 u65) : PK Z2 I2 v2 uS u62 u65 := by
  obtain ⟨h65, k65, c⟩ := h
  exact ⟨(f2.2.1 v2 12 65 k2 (by decide) (by decide)).trans h65, (f2.1 _ _ k65).1, KPL_stairs f1 f2 sh kS lS k2 h62 k62 h65 k65 er p1 em c⟩
/-- an empty world -/
theorem PL_new {Z : jZ} {I : jI} {L : jL} {q1 q2 uS u62 uA : Nat} (w : WD Z I) (k1 : jk Z q1 11) (k2 : jk Z q2 12) (kS : jk Z uS 17) (lS : jlen Z uS = 2) (hN : ∀ a c, jk Z a c → fr1 I L a c) : ∃ t14 t15 t16 u65 : Nat, PLB Z I q1 q2 uA t14 t15 t16 ∧ PK Z I q2 uS u62 u65 := by
  have no4 : ∀ s : Nat, (s : Int) < (I q1 4).toInt → False := fun s hs => by
    rw [(hN q1 11 k1).1, show (jz 11 4).toInt = 0 from rfl] at hs
    omega
  obtain ⟨t14, a14, b14, -⟩ := sh_f w.1 k2 (j := 14) (k := 14) (m := 6) rfl
  obtain ⟨t15, a15, b15, -⟩ := sh_f w.1 k2 (j := 15) (k := 14) (m := 6) rfl
  obtain ⟨t16, a16, b16, -⟩ := sh_f w.1 k2 (j := 16) (k := 14) (m := 6) rfl
  obtain ⟨u65, a65, b65, -⟩ := sh_f w.1 k2 (j := 65) (k := 14) (m := 2) rfl
  refine ⟨t14, t15, t16, u65, PLB_of ⟨a14, b14, a15, b15, a16, b16⟩ (fun p hp => (no4 p hp).elim), a65, b65, fun i b a4 a5 a6 hi hb hh h4 h5 h6 => ?_⟩
  obtain ⟨y, ey, kb⟩ := w.1.2.2.1 uS kS i (by rw [lS]; exact hi)
  cases hb.symm.trans ey
  exact absurd (by rw [(hN b 2 kb).1]; rfl) hh
/-! ===== what is shown twice holds at once ===== -/
set_option maxHeartbeats 4000000 in
theorem and_X12_stairs_L301 {B : Nat × Nat} {Q1 Q2 Q3 : Int32 → jZ → jI → jL → Prop} (hq : ∀ (x0 : Int32) (x1 : jZ) (x2 : jI) (x3 : jL), Q1 x0 x1 x2 x3 → Q2 x0 x1 x2 x3 → Q3 x0 x1 x2 x3) : ∀ (n m : Nat) (v0 : Nat) (v1 : Int32) (v3 : Int32) (Z : jZ) (I : jI) (L : jL), f_X12_stairs_L301 B Q1 n v0 v1 v3 Z I L → f_X12_stairs_L301 B Q2 m v0 v1 v3 Z I L → f_X12_stairs_L301 B Q3 n v0 v1 v3 Z I L := by
  intro n
  induction n with
  | zero => intro m v0 v1 v3 Z I L h1 h2; exact h1.elim
  | succ n ih =>
    intro m v0 v1 v3 Z I L h1 h2
    cases m with
    | zero => exact h2.elim
    | succ m =>
      unfold f_X12_stairs_L301 at h1 h2 ⊢
      refine ⟨fun c => ?_, fun c => ?_⟩
      · have h1 := h1.1 c
        have h2 := h2.1 c
        exact hq _ _ _ _ h1 h2
      · have h1 := h1.2 c
        have h2 := h2.2 c
        intro b2 eb2
        have h1 := h1 b2 eb2
        have h2 := h2 b2 eb2
        refine ⟨h1.1, ?_⟩
        have h1 := h1.2
        have h2 := h2.2
        intro I4 eI4
        have h1 := h1 I4 eI4
        have h2 := h2 I4 eI4
        intro b5 eb5
        have h1 := h1 b5 eb5
        have h2 := h2 b5 eb5
        intro b6 eb6
        have h1 := h1 b6 eb6
        have h2 := h2 b6 eb6
        refine ⟨h1.1, ?_⟩
        have h1 := h1.2
        have h2 := h2.2
        refine ⟨h1.1, ?_⟩
        have h1 := h1.2
        have h2 := h2.2
        intro I9 eI9
        have h1 := h1 I9 eI9
        have h2 := h2 I9 eI9
        intro b10 eb10
        have h1 := h1 b10 eb10
        have h2 := h2 b10 eb10
        intro b11 eb11
        have h1 := h1 b11 eb11
        have h2 := h2 b11 eb11
        refine ⟨h1.1, ?_⟩
        have h1 := h1.2
        have h2 := h2.2
        refine ⟨h1.1, ?_⟩
        have h1 := h1.2
        have h2 := h2.2
        intro I14 eI14
        have h1 := h1 I14 eI14
        have h2 := h2 I14 eI14
        intro x15 ex15
        have h1 := h1 x15 ex15
        have h2 := h2 x15 ex15
        exact ih _ _ _ _ _ _ _ h1 h2
set_option maxHeartbeats 4000000 in
theorem and_X12_stairs_L280 {B : Nat × Nat} {Q1 Q2 Q3 : Int32 → jZ → jI → jL → Prop} (hq : ∀ (x0 : Int32) (x1 : jZ) (x2 : jI) (x3 : jL), Q1 x0 x1 x2 x3 → Q2 x0 x1 x2 x3 → Q3 x0 x1 x2 x3) : ∀ (n m : Nat) (v0 : Nat) (v1 : Int32) (v3 : Int32) (Z : jZ) (I : jI) (L : jL), f_X12_stairs_L280 B Q1 n v0 v1 v3 Z I L → f_X12_stairs_L280 B Q2 m v0 v1 v3 Z I L → f_X12_stairs_L280 B Q3 n v0 v1 v3 Z I L := by
  intro n
  induction n with
  | zero => intro m v0 v1 v3 Z I L h1 h2; exact h1.elim
  | succ n ih =>
    intro m v0 v1 v3 Z I L h1 h2
    cases m with
    | zero => exact h2.elim
    | succ m =>
      unfold f_X12_stairs_L280 at h1 h2 ⊢
      refine ⟨fun c => ?_, fun c => ?_⟩
      · have h1 := h1.1 c
        have h2 := h2.1 c
        obtain ⟨n1, h1⟩ := h1
        obtain ⟨n2, h2⟩ := h2
        exact ⟨n1, and_X12_stairs_L301  hq n1 n2 _ _ _ _ _ _ h1 h2⟩
      · have h1 := h1.2 c
        have h2 := h2.2 c
        intro b18 eb18
        have h1 := h1 b18 eb18
        have h2 := h2 b18 eb18
        refine ⟨h1.1, ?_⟩
        have h1 := h1.2
        have h2 := h2.2
        intro I20 eI20
        have h1 := h1 I20 eI20
        have h2 := h2 I20 eI20
        intro x21 ex21
        have h1 := h1 x21 ex21
        have h2 := h2 x21 ex21
        exact ih _ _ _ _ _ _ _ h1 h2
set_option maxHeartbeats 4000000 in
theorem and_X12_stairs_L185 {B : Nat × Nat} {K131 K131b K131c : Nat → Int32 → Int32 → jZ → jI → jL → Prop} {Q1 Q2 Q3 : Int32 → jZ → jI → jL → Prop} (hK131 : ∀ (x0 : Nat) (x1 : Int32) (x2 : Int32) (x3 : jZ) (x4 : jI) (x5 : jL), K131 x0 x1 x2 x3 x4 x5 → K131b x0 x1 x2 x3 x4 x5 → K131c x0 x1 x2 x3 x4 x5) (hq : ∀ (x0 : Int32) (x1 : jZ) (x2 : jI) (x3 : jL), Q1 x0 x1 x2 x3 → Q2 x0 x1 x2 x3 → Q3 x0 x1 x2 x3) : ∀ (n m : Nat) (v0 : Nat) (v1 : Int32) (v3 : Int32) (v4 : Int32) (Z : jZ) (I : jI) (L : jL), f_X12_stairs_L185 B K131 Q1 n v0 v1 v3 v4 Z I L → f_X12_stairs_L185 B K131b Q2 m v0 v1 v3 v4 Z I L → f_X12_stairs_L185 B K131c Q3 n v0 v1 v3 v4 Z I L := by
  intro n
  induction n with
  | zero => intro m v0 v1 v3 v4 Z I L h1 h2; exact h1.elim
  | succ n ih =>
    intro m v0 v1 v3 v4 Z I L h1 h2
    cases m with
    | zero => exact h2.elim
    | succ m =>
      unfold f_X12_stairs_L185 at h1 h2 ⊢
      refine ⟨fun c => ?_, fun c => ?_⟩
      · have h1 := h1.1 c
        have h2 := h2.1 c
        intro b29 eb29
        have h1 := h1 b29 eb29
        have h2 := h2 b29 eb29
        intro b30 eb30
        have h1 := h1 b30 eb30
        have h2 := h2 b30 eb30
        refine ⟨h1.1, ?_⟩
        have h1 := h1.2
        have h2 := h2.2
        refine ⟨fun c => ?_, fun c => ?_⟩
        · have h1 := h1.1 c
          have h2 := h2.1 c
          unfold f_X12_stairs_b256 at h1 h2 ⊢
          refine ⟨h1.1, ?_⟩
          have h1 := h1.2
          have h2 := h2.2
          intro I23 eI23
          have h1 := h1 I23 eI23
          have h2 := h2 I23 eI23
          intro x24 ex24
          have h1 := h1 x24 ex24
          have h2 := h2 x24 ex24
          exact hK131 _ _ _ _ _ _ h1 h2
        · have h1 := h1.2 c
          have h2 := h2.2 c
          unfold f_X12_stairs_b256 at h1 h2 ⊢
          refine ⟨h1.1, ?_⟩
          have h1 := h1.2
          have h2 := h2.2
          intro I23 eI23
          have h1 := h1 I23 eI23
          have h2 := h2 I23 eI23
          intro x24 ex24
          have h1 := h1 x24 ex24
          have h2 := h2 x24 ex24
          exact hK131 _ _ _ _ _ _ h1 h2
      · have h1 := h1.2 c
        have h2 := h2.2 c
        intro b33 eb33
        have h1 := h1 b33 eb33
        have h2 := h2 b33 eb33
        intro b34 eb34
        have h1 := h1 b34 eb34
        have h2 := h2 b34 eb34
        refine ⟨h1.1, ?_⟩
        have h1 := h1.2
        have h2 := h2.2
        refine ⟨fun c => ?_, fun c => ?_⟩
        · have h1 := h1.1 c
          have h2 := h2.1 c
          unfold f_X12_stairs_b225 at h1 h2 ⊢
          refine ⟨h1.1, ?_⟩
          have h1 := h1.2
          have h2 := h2.2
          intro I26 eI26
          have h1 := h1 I26 eI26
          have h2 := h2 I26 eI26
          intro x27 ex27
          have h1 := h1 x27 ex27
          have h2 := h2 x27 ex27
          exact ih _ _ _ _ _ _ _ _ h1 h2
        · have h1 := h1.2 c
          have h2 := h2.2 c
          unfold f_X12_stairs_b225 at h1 h2 ⊢
          refine ⟨h1.1, ?_⟩
          have h1 := h1.2
          have h2 := h2.2
          intro I26 eI26
          have h1 := h1 I26 eI26
          have h2 := h2 I26 eI26
          intro x27 ex27
          have h1 := h1 x27 ex27
          have h2 := h2 x27 ex27
          exact ih _ _ _ _ _ _ _ _ h1 h2
set_option maxHeartbeats 4000000 in
theorem and_X12_stairs_L131 {B : Nat × Nat} {Q1 Q2 Q3 : Int32 → jZ → jI → jL → Prop} (hq : ∀ (x0 : Int32) (x1 : jZ) (x2 : jI) (x3 : jL), Q1 x0 x1 x2 x3 → Q2 x0 x1 x2 x3 → Q3 x0 x1 x2 x3) : ∀ (n m : Nat) (v0 : Nat) (v1 : Int32) (v3 : Int32) (Z : jZ) (I : jI) (L : jL), f_X12_stairs_L131 B Q1 n v0 v1 v3 Z I L → f_X12_stairs_L131 B Q2 m v0 v1 v3 Z I L → f_X12_stairs_L131 B Q3 n v0 v1 v3 Z I L := by
  intro n
  induction n with
  | zero => intro m v0 v1 v3 Z I L h1 h2; exact h1.elim
  | succ n ih =>
    intro m v0 v1 v3 Z I L h1 h2
    cases m with
    | zero => exact h2.elim
    | succ m =>
      unfold f_X12_stairs_L131 at h1 h2 ⊢
      refine ⟨fun c => ?_, fun c => ?_⟩
      · have h1 := h1.1 c
        have h2 := h2.1 c
        intro I38 eI38
        have h1 := h1 I38 eI38
        have h2 := h2 I38 eI38
        intro I39 eI39
        have h1 := h1 I39 eI39
        have h2 := h2 I39 eI39
        obtain ⟨n1, h1⟩ := h1
        obtain ⟨n2, h2⟩ := h2
        exact ⟨n1, and_X12_stairs_L280  hq n1 n2 _ _ _ _ _ _ h1 h2⟩
      · have h1 := h1.2 c
        have h2 := h2.2 c
        intro b41 eb41
        have h1 := h1 b41 eb41
        have h2 := h2 b41 eb41
        intro b42 eb42
        have h1 := h1 b42 eb42
        have h2 := h2 b42 eb42
        refine ⟨h1.1, ?_⟩
        have h1 := h1.2
        have h2 := h2.2
        refine ⟨h1.1, ?_⟩
        have h1 := h1.2
        have h2 := h2.2
        intro I45 eI45
        have h1 := h1 I45 eI45
        have h2 := h2 I45 eI45
        intro b46 eb46
        have h1 := h1 b46 eb46
        have h2 := h2 b46 eb46
        intro b47 eb47
        have h1 := h1 b47 eb47
        have h2 := h2 b47 eb47
        refine ⟨h1.1, ?_⟩
        have h1 := h1.2
        have h2 := h2.2
        refine ⟨h1.1, ?_⟩
        have h1 := h1.2
        have h2 := h2.2
        intro I50 eI50
        have h1 := h1 I50 eI50
        have h2 := h2 I50 eI50
        intro b51 eb51
        have h1 := h1 b51 eb51
        have h2 := h2 b51 eb51
        intro b52 eb52
        have h1 := h1 b52 eb52
        have h2 := h2 b52 eb52
        refine ⟨h1.1, ?_⟩
        have h1 := h1.2
        have h2 := h2.2
        refine ⟨h1.1, ?_⟩
        have h1 := h1.2
        have h2 := h2.2
        intro I55 eI55
        have h1 := h1 I55 eI55
        have h2 := h2 I55 eI55
        obtain ⟨n1, h1⟩ := h1
        obtain ⟨n2, h2⟩ := h2
        exact ⟨n1, and_X12_stairs_L185 (fun _ _ _ _ _ _ a b => ih _ _ _ _ _ _ _ a b) hq n1 n2 _ _ _ _ _ _ _ h1 h2⟩
set_option maxHeartbeats 4000000 in
theorem and_X12_readLine_L109 {Z : jZ} {Q1 Q2 Q3 : Int32 → jI → jL → Prop} (hq : ∀ (x0 : Int32) (x1 : jI) (x2 : jL), Q1 x0 x1 x2 → Q2 x0 x1 x2 → Q3 x0 x1 x2) : ∀ (n m : Nat) (v0 : Nat) (v1 : Int32) (v2 : Int32) (v3 : Int32) (v4 : Int32) (v5 : Int32) (v6 : Int32) (v7 : Int32) (v8 : Int32) (I : jI) (L : jL), f_X12_readLine_L109 Z Q1 n v0 v1 v2 v3 v4 v5 v6 v7 v8 I L → f_X12_readLine_L109 Z Q2 m v0 v1 v2 v3 v4 v5 v6 v7 v8 I L → f_X12_readLine_L109 Z Q3 n v0 v1 v2 v3 v4 v5 v6 v7 v8 I L := by
  intro n
  induction n with
  | zero => intro m v0 v1 v2 v3 v4 v5 v6 v7 v8 I L h1 h2; exact h1.elim
  | succ n ih =>
    intro m v0 v1 v2 v3 v4 v5 v6 v7 v8 I L h1 h2
    cases m with
    | zero => exact h2.elim
    | succ m =>
      unfold f_X12_readLine_L109 at h1 h2 ⊢
      refine ⟨fun c => ?_, fun c => ?_⟩
      · have h1 := h1.1 c
        have h2 := h2.1 c
        exact hq _ _ _ h1 h2
      · have h1 := h1.2 c
        have h2 := h2.2 c
        intro x2 ex2
        have h1 := h1 x2 ex2
        have h2 := h2 x2 ex2
        intro b3 eb3
        have h1 := h1 b3 eb3
        have h2 := h2 b3 eb3
        refine ⟨h1.1, ?_⟩
        have h1 := h1.2
        have h2 := h2.2
        intro I5 eI5
        have h1 := h1 I5 eI5
        have h2 := h2 I5 eI5
        intro b6 eb6
        have h1 := h1 b6 eb6
        have h2 := h2 b6 eb6
        refine ⟨h1.1, ?_⟩
        have h1 := h1.2
        have h2 := h2.2
        intro I8 eI8
        have h1 := h1 I8 eI8
        have h2 := h2 I8 eI8
        intro b9 eb9
        have h1 := h1 b9 eb9
        have h2 := h2 b9 eb9
        refine ⟨h1.1, ?_⟩
        have h1 := h1.2
        have h2 := h2.2
        intro I11 eI11
        have h1 := h1 I11 eI11
        have h2 := h2 I11 eI11
        intro b12 eb12
        have h1 := h1 b12 eb12
        have h2 := h2 b12 eb12
        refine ⟨h1.1, ?_⟩
        have h1 := h1.2
        have h2 := h2.2
        intro I14 eI14
        have h1 := h1 I14 eI14
        have h2 := h2 I14 eI14
        intro b15 eb15
        have h1 := h1 b15 eb15
        have h2 := h2 b15 eb15
        refine ⟨h1.1, ?_⟩
        have h1 := h1.2
        have h2 := h2.2
        intro I17 eI17
        have h1 := h1 I17 eI17
        have h2 := h2 I17 eI17
        intro x18 ex18
        have h1 := h1 x18 ex18
        have h2 := h2 x18 ex18
        exact ih _ _ _ _ _ _ _ _ _ _ _ _ h1 h2
set_option maxHeartbeats 4000000 in
theorem and_X12_readLine {v0 : Nat} {v1 : Int32} {Z : jZ} {I : jI} {L : jL} {Q1 Q2 Q3 : Int32 → jI → jL → Prop} (h1 : f_X12_readLine v0 v1 Z I L Q1) (h2 : f_X12_readLine v0 v1 Z I L Q2) (hq : ∀ (x0 : Int32) (x1 : jI) (x2 : jL), Q1 x0 x1 x2 → Q2 x0 x1 x2 → Q3 x0 x1 x2) : f_X12_readLine v0 v1 Z I L Q3 := by
  unfold f_X12_readLine at h1 h2 ⊢
  refine and_X12_number h1 h2 (fun r49 I45 L46 h1 h2 => ?_)
  refine and_X12_need h1 h2 (fun I52 L53 h1 h2 => ?_)
  refine and_X12_number h1 h2 (fun r62 I58 L59 h1 h2 => ?_)
  refine and_X12_need h1 h2 (fun I65 L66 h1 h2 => ?_)
  refine and_X12_number h1 h2 (fun r75 I71 L72 h1 h2 => ?_)
  refine and_X12_need h1 h2 (fun I78 L79 h1 h2 => ?_)
  refine and_X12_number h1 h2 (fun r88 I84 L85 h1 h2 => ?_)
  refine and_X12_passes h1 h2 (fun r95 I91 L92 h1 h2 => ?_)
  refine ⟨fun c => ?_, fun c => ?_⟩
  · have h1 := h1.1 c
    have h2 := h2.1 c
    unfold f_X12_readLine_b70 at h1 h2 ⊢
    refine and_X12_passes h1 h2 (fun r34 I30 L31 h1 h2 => ?_)
    refine ⟨fun c => ?_, fun c => ?_⟩
    · have h1 := h1.1 c
      have h2 := h2.1 c
      unfold f_X12_readLine_b95 at h1 h2 ⊢
      refine and_X12_fine h1 h2 (fun r25 I21 L22 h1 h2 => ?_)
      refine ⟨fun c => ?_, fun c => ?_⟩
      · have h1 := h1.1 c
        have h2 := h2.1 c
        obtain ⟨n1, h1⟩ := h1
        obtain ⟨n2, h2⟩ := h2
        exact ⟨n1, and_X12_readLine_L109  hq n1 n2 _ _ _ _ _ _ _ _ _ _ _ h1 h2⟩
      · have h1 := h1.2 c
        have h2 := h2.2 c
        exact hq _ _ _ h1 h2
    · have h1 := h1.2 c
      have h2 := h2.2 c
      refine and_X12_number h1 h2 (fun r42 I38 L39 h1 h2 => ?_)
      unfold f_X12_readLine_b95 at h1 h2 ⊢
      refine and_X12_fine h1 h2 (fun r25 I21 L22 h1 h2 => ?_)
      refine ⟨fun c => ?_, fun c => ?_⟩
      · have h1 := h1.1 c
        have h2 := h2.1 c
        obtain ⟨n1, h1⟩ := h1
        obtain ⟨n2, h2⟩ := h2
        exact ⟨n1, and_X12_readLine_L109  hq n1 n2 _ _ _ _ _ _ _ _ _ _ _ h1 h2⟩
      · have h1 := h1.2 c
        have h2 := h2.2 c
        exact hq _ _ _ h1 h2
  · have h1 := h1.2 c
    have h2 := h2.2 c
    unfold f_X12_readLine_b70 at h1 h2 ⊢
    refine and_X12_passes h1 h2 (fun r34 I30 L31 h1 h2 => ?_)
    refine ⟨fun c => ?_, fun c => ?_⟩
    · have h1 := h1.1 c
      have h2 := h2.1 c
      unfold f_X12_readLine_b95 at h1 h2 ⊢
      refine and_X12_fine h1 h2 (fun r25 I21 L22 h1 h2 => ?_)
      refine ⟨fun c => ?_, fun c => ?_⟩
      · have h1 := h1.1 c
        have h2 := h2.1 c
        obtain ⟨n1, h1⟩ := h1
        obtain ⟨n2, h2⟩ := h2
        exact ⟨n1, and_X12_readLine_L109  hq n1 n2 _ _ _ _ _ _ _ _ _ _ _ h1 h2⟩
      · have h1 := h1.2 c
        have h2 := h2.2 c
        exact hq _ _ _ h1 h2
    · have h1 := h1.2 c
      have h2 := h2.2 c
      refine and_X12_number h1 h2 (fun r42 I38 L39 h1 h2 => ?_)
      unfold f_X12_readLine_b95 at h1 h2 ⊢
      refine and_X12_fine h1 h2 (fun r25 I21 L22 h1 h2 => ?_)
      refine ⟨fun c => ?_, fun c => ?_⟩
      · have h1 := h1.1 c
        have h2 := h2.1 c
        obtain ⟨n1, h1⟩ := h1
        obtain ⟨n2, h2⟩ := h2
        exact ⟨n1, and_X12_readLine_L109  hq n1 n2 _ _ _ _ _ _ _ _ _ _ _ h1 h2⟩
      · have h1 := h1.2 c
        have h2 := h2.2 c
        exact hq _ _ _ h1 h2
set_option maxHeartbeats 4000000 in
theorem and_X12_stairs_L39 {B : Nat × Nat} {Q1 Q2 Q3 : Int32 → jZ → jI → jL → Prop} (hq : ∀ (x0 : Int32) (x1 : jZ) (x2 : jI) (x3 : jL), Q1 x0 x1 x2 x3 → Q2 x0 x1 x2 x3 → Q3 x0 x1 x2 x3) : ∀ (n m : Nat) (v0 : Nat) (v1 : Int32) (v2 : Int32) (Z : jZ) (I : jI) (L : jL), f_X12_stairs_L39 B Q1 n v0 v1 v2 Z I L → f_X12_stairs_L39 B Q2 m v0 v1 v2 Z I L → f_X12_stairs_L39 B Q3 n v0 v1 v2 Z I L := by
  intro n
  induction n with
  | zero => intro m v0 v1 v2 Z I L h1 h2; exact h1.elim
  | succ n ih =>
    intro m v0 v1 v2 Z I L h1 h2
    cases m with
    | zero => exact h2.elim
    | succ m =>
      unfold f_X12_stairs_L39 at h1 h2 ⊢
      refine ⟨fun c => ?_, fun c => ?_⟩
      · have h1 := h1.1 c
        have h2 := h2.1 c
        unfold f_X12_stairs_b83 at h1 h2 ⊢
        refine ⟨fun c => ?_, fun c => ?_⟩
        · have h1 := h1.1 c
          have h2 := h2.1 c
          unfold f_X12_stairs_b102 at h1 h2 ⊢
          refine and_X12_fine h1 h2 (fun r63 I59 L60 h1 h2 => ?_)
          refine ⟨fun c => ?_, fun c => ?_⟩
          · have h1 := h1.1 c
            have h2 := h2.1 c
            refine ⟨fun c => ?_, fun c => ?_⟩
            · have h1 := h1.1 c
              have h2 := h2.1 c
              intro I66 eI66
              have h1 := h1 I66 eI66
              have h2 := h2 I66 eI66
              obtain ⟨n1, h1⟩ := h1
              obtain ⟨n2, h2⟩ := h2
              exact ⟨n1, and_X12_stairs_L131  hq n1 n2 _ _ _ _ _ _ h1 h2⟩
            · have h1 := h1.2 c
              have h2 := h2.2 c
              exact hq _ _ _ _ h1 h2
          · have h1 := h1.2 c
            have h2 := h2.2 c
            exact hq _ _ _ _ h1 h2
        · have h1 := h1.2 c
          have h2 := h2.2 c
          refine and_X12_fault h1 h2 (fun I71 L72 h1 h2 => ?_)
          unfold f_X12_stairs_b102 at h1 h2 ⊢
          refine and_X12_fine h1 h2 (fun r63 I59 L60 h1 h2 => ?_)
          refine ⟨fun c => ?_, fun c => ?_⟩
          · have h1 := h1.1 c
            have h2 := h2.1 c
            refine ⟨fun c => ?_, fun c => ?_⟩
            · have h1 := h1.1 c
              have h2 := h2.1 c
              intro I66 eI66
              have h1 := h1 I66 eI66
              have h2 := h2 I66 eI66
              obtain ⟨n1, h1⟩ := h1
              obtain ⟨n2, h2⟩ := h2
              exact ⟨n1, and_X12_stairs_L131  hq n1 n2 _ _ _ _ _ _ h1 h2⟩
            · have h1 := h1.2 c
              have h2 := h2.2 c
              exact hq _ _ _ _ h1 h2
          · have h1 := h1.2 c
            have h2 := h2.2 c
            exact hq _ _ _ _ h1 h2
      · have h1 := h1.2 c
        have h2 := h2.2 c
        refine and_X12_fine h1 h2 (fun r82 I78 L79 h1 h2 => ?_)
        refine ⟨fun c => ?_, fun c => ?_⟩
        · have h1 := h1.1 c
          have h2 := h2.1 c
          unfold f_X12_stairs_b83 at h1 h2 ⊢
          refine ⟨fun c => ?_, fun c => ?_⟩
          · have h1 := h1.1 c
            have h2 := h2.1 c
            unfold f_X12_stairs_b102 at h1 h2 ⊢
            refine and_X12_fine h1 h2 (fun r63 I59 L60 h1 h2 => ?_)
            refine ⟨fun c => ?_, fun c => ?_⟩
            · have h1 := h1.1 c
              have h2 := h2.1 c
              refine ⟨fun c => ?_, fun c => ?_⟩
              · have h1 := h1.1 c
                have h2 := h2.1 c
                intro I66 eI66
                have h1 := h1 I66 eI66
                have h2 := h2 I66 eI66
                obtain ⟨n1, h1⟩ := h1
                obtain ⟨n2, h2⟩ := h2
                exact ⟨n1, and_X12_stairs_L131  hq n1 n2 _ _ _ _ _ _ h1 h2⟩
              · have h1 := h1.2 c
                have h2 := h2.2 c
                exact hq _ _ _ _ h1 h2
            · have h1 := h1.2 c
              have h2 := h2.2 c
              exact hq _ _ _ _ h1 h2
          · have h1 := h1.2 c
            have h2 := h2.2 c
            refine and_X12_fault h1 h2 (fun I71 L72 h1 h2 => ?_)
            unfold f_X12_stairs_b102 at h1 h2 ⊢
            refine and_X12_fine h1 h2 (fun r63 I59 L60 h1 h2 => ?_)
            refine ⟨fun c => ?_, fun c => ?_⟩
            · have h1 := h1.1 c
              have h2 := h2.1 c
              refine ⟨fun c => ?_, fun c => ?_⟩
              · have h1 := h1.1 c
                have h2 := h2.1 c
                intro I66 eI66
                have h1 := h1 I66 eI66
                have h2 := h2 I66 eI66
                obtain ⟨n1, h1⟩ := h1
                obtain ⟨n2, h2⟩ := h2
                exact ⟨n1, and_X12_stairs_L131  hq n1 n2 _ _ _ _ _ _ h1 h2⟩
              · have h1 := h1.2 c
                have h2 := h2.2 c
                exact hq _ _ _ _ h1 h2
            · have h1 := h1.2 c
              have h2 := h2.2 c
              exact hq _ _ _ _ h1 h2
        · have h1 := h1.2 c
          have h2 := h2.2 c
          refine ⟨fun c => ?_, fun c => ?_⟩
          · have h1 := h1.1 c
            have h2 := h2.1 c
            refine and_X12_readLine h1 h2 (fun r91 I87 L88 h1 h2 => ?_)
            refine and_X12_passes h1 h2 (fun r98 I94 L95 h1 h2 => ?_)
            exact ih _ _ _ _ _ _ _ h1 h2
          · have h1 := h1.2 c
            have h2 := h2.2 c
            refine and_X12_fault h1 h2 (fun I101 L102 h1 h2 => ?_)
            unfold f_X12_stairs_b83 at h1 h2 ⊢
            refine ⟨fun c => ?_, fun c => ?_⟩
            · have h1 := h1.1 c
              have h2 := h2.1 c
              unfold f_X12_stairs_b102 at h1 h2 ⊢
              refine and_X12_fine h1 h2 (fun r63 I59 L60 h1 h2 => ?_)
              refine ⟨fun c => ?_, fun c => ?_⟩
              · have h1 := h1.1 c
                have h2 := h2.1 c
                refine ⟨fun c => ?_, fun c => ?_⟩
                · have h1 := h1.1 c
                  have h2 := h2.1 c
                  intro I66 eI66
                  have h1 := h1 I66 eI66
                  have h2 := h2 I66 eI66
                  obtain ⟨n1, h1⟩ := h1
                  obtain ⟨n2, h2⟩ := h2
                  exact ⟨n1, and_X12_stairs_L131  hq n1 n2 _ _ _ _ _ _ h1 h2⟩
                · have h1 := h1.2 c
                  have h2 := h2.2 c
                  exact hq _ _ _ _ h1 h2
              · have h1 := h1.2 c
                have h2 := h2.2 c
                exact hq _ _ _ _ h1 h2
            · have h1 := h1.2 c
              have h2 := h2.2 c
              refine and_X12_fault h1 h2 (fun I71 L72 h1 h2 => ?_)
              unfold f_X12_stairs_b102 at h1 h2 ⊢
              refine and_X12_fine h1 h2 (fun r63 I59 L60 h1 h2 => ?_)
              refine ⟨fun c => ?_, fun c => ?_⟩
              · have h1 := h1.1 c
                have h2 := h2.1 c
                refine ⟨fun c => ?_, fun c => ?_⟩
                · have h1 := h1.1 c
                  have h2 := h2.1 c
                  intro I66 eI66
                  have h1 := h1 I66 eI66
                  have h2 := h2 I66 eI66
                  obtain ⟨n1, h1⟩ := h1
                  obtain ⟨n2, h2⟩ := h2
                  exact ⟨n1, and_X12_stairs_L131  hq n1 n2 _ _ _ _ _ _ h1 h2⟩
                · have h1 := h1.2 c
                  have h2 := h2.2 c
                  exact hq _ _ _ _ h1 h2
              · have h1 := h1.2 c
                have h2 := h2.2 c
                exact hq _ _ _ _ h1 h2
set_option maxHeartbeats 4000000 in
theorem and_X12_stairs {B : Nat × Nat} {v0 : Nat} {Z : jZ} {I : jI} {L : jL} {Q1 Q2 Q3 : Int32 → jZ → jI → jL → Prop} (h1 : f_X12_stairs B v0 Z I L Q1) (h2 : f_X12_stairs B v0 Z I L Q2) (hq : ∀ (x0 : Int32) (x1 : jZ) (x2 : jI) (x3 : jL), Q1 x0 x1 x2 x3 → Q2 x0 x1 x2 x3 → Q3 x0 x1 x2 x3) : f_X12_stairs B v0 Z I L Q3 := by
  unfold f_X12_stairs at h1 h2 ⊢
  intro I106 eI106
  have h1 := h1 I106 eI106
  have h2 := h2 I106 eI106
  intro b107 eb107
  have h1 := h1 b107 eb107
  have h2 := h2 b107 eb107
  refine and_X12_begin h1 h2 (fun Z109 I110 L111 h1 h2 => ?_)
  intro I115 eI115
  have h1 := h1 I115 eI115
  have h2 := h2 I115 eI115
  refine ⟨fun c => ?_, fun c => ?_⟩
  · have h1 := h1.1 c
    have h2 := h2.1 c
    unfold f_X12_stairs_b38 at h1 h2 ⊢
    obtain ⟨n1, h1⟩ := h1
    obtain ⟨n2, h2⟩ := h2
    exact ⟨n1, and_X12_stairs_L39  hq n1 n2 _ _ _ _ _ _ h1 h2⟩
  · have h1 := h1.2 c
    have h2 := h2.2 c
    unfold f_X12_stairs_b38 at h1 h2 ⊢
    obtain ⟨n1, h1⟩ := h1
    obtain ⟨n2, h2⟩ := h2
    exact ⟨n1, and_X12_stairs_L39  hq n1 n2 _ _ _ _ _ _ h1 h2⟩
set_option maxHeartbeats 4000000 in
theorem and_X12_take {v0 : Nat} {Z : jZ} {I : jI} {L : jL} {Q1 Q2 Q3 : Int32 → jI → jL → Prop} (h1 : f_X12_take v0 Z I L Q1) (h2 : f_X12_take v0 Z I L Q2) (hq : ∀ (x0 : Int32) (x1 : jI) (x2 : jL), Q1 x0 x1 x2 → Q2 x0 x1 x2 → Q3 x0 x1 x2) : f_X12_take v0 Z I L Q3 := by
  unfold f_X12_take at h1 h2 ⊢
  intro I1 eI1
  have h1 := h1 I1 eI1
  have h2 := h2 I1 eI1
  intro b2 eb2
  have h1 := h1 b2 eb2
  have h2 := h2 b2 eb2
  refine ⟨h1.1, ?_⟩
  have h1 := h1.2
  have h2 := h2.2
  exact hq _ _ _ h1 h2
set_option maxHeartbeats 4000000 in
theorem and_X12_again_L175 {Z : jZ} {Q1 Q2 Q3 : Int32 → jI → jL → Prop} (hq : ∀ (x0 : Int32) (x1 : jI) (x2 : jL), Q1 x0 x1 x2 → Q2 x0 x1 x2 → Q3 x0 x1 x2) : ∀ (n m : Nat) (v0 : Nat) (v2 : Int32) (I : jI) (L : jL), f_X12_again_L175 Z Q1 n v0 v2 I L → f_X12_again_L175 Z Q2 m v0 v2 I L → f_X12_again_L175 Z Q3 n v0 v2 I L := by
  intro n
  induction n with
  | zero => intro m v0 v2 I L h1 h2; exact h1.elim
  | succ n ih =>
    intro m v0 v2 I L h1 h2
    cases m with
    | zero => exact h2.elim
    | succ m =>
      unfold f_X12_again_L175 at h1 h2 ⊢
      refine ⟨fun c => ?_, fun c => ?_⟩
      · have h1 := h1.1 c
        have h2 := h2.1 c
        intro I2 eI2
        have h1 := h1 I2 eI2
        have h2 := h2 I2 eI2
        exact hq _ _ _ h1 h2
      · have h1 := h1.2 c
        have h2 := h2.2 c
        intro b3 eb3
        have h1 := h1 b3 eb3
        have h2 := h2 b3 eb3
        refine and_X12_take h1 h2 (fun r10 I6 L7 h1 h2 => ?_)
        refine ⟨h1.1, ?_⟩
        have h1 := h1.2
        have h2 := h2.2
        intro I12 eI12
        have h1 := h1 I12 eI12
        have h2 := h2 I12 eI12
        intro x13 ex13
        have h1 := h1 x13 ex13
        have h2 := h2 x13 ex13
        exact ih _ _ _ _ _ h1 h2
set_option maxHeartbeats 4000000 in
theorem and_X12_again_L108 {Z : jZ} {Q1 Q2 Q3 : Int32 → jI → jL → Prop} (hq : ∀ (x0 : Int32) (x1 : jI) (x2 : jL), Q1 x0 x1 x2 → Q2 x0 x1 x2 → Q3 x0 x1 x2) : ∀ (n m : Nat) (v0 : Nat) (v1 : Int32) (v2 : Int32) (I : jI) (L : jL), f_X12_again_L108 Z Q1 n v0 v1 v2 I L → f_X12_again_L108 Z Q2 m v0 v1 v2 I L → f_X12_again_L108 Z Q3 n v0 v1 v2 I L := by
  intro n
  induction n with
  | zero => intro m v0 v1 v2 I L h1 h2; exact h1.elim
  | succ n ih =>
    intro m v0 v1 v2 I L h1 h2
    cases m with
    | zero => exact h2.elim
    | succ m =>
      unfold f_X12_again_L108 at h1 h2 ⊢
      refine ⟨fun c => ?_, fun c => ?_⟩
      · have h1 := h1.1 c
        have h2 := h2.1 c
        obtain ⟨n1, h1⟩ := h1
        obtain ⟨n2, h2⟩ := h2
        exact ⟨n1, and_X12_again_L175  hq n1 n2 _ _ _ _ h1 h2⟩
      · have h1 := h1.2 c
        have h2 := h2.2 c
        refine and_X12_take h1 h2 (fun r23 I19 L20 h1 h2 => ?_)
        refine and_X12_take h1 h2 (fun r30 I26 L27 h1 h2 => ?_)
        refine and_X12_take h1 h2 (fun r37 I33 L34 h1 h2 => ?_)
        intro b38 eb38
        have h1 := h1 b38 eb38
        have h2 := h2 b38 eb38
        refine ⟨h1.1, ?_⟩
        have h1 := h1.2
        have h2 := h2.2
        refine ⟨fun c => ?_, fun c => ?_⟩
        · have h1 := h1.1 c
          have h2 := h2.1 c
          intro b41 eb41
          have h1 := h1 b41 eb41
          have h2 := h2 b41 eb41
          refine ⟨h1.1, ?_⟩
          have h1 := h1.2
          have h2 := h2.2
          intro I43 eI43
          have h1 := h1 I43 eI43
          have h2 := h2 I43 eI43
          intro b44 eb44
          have h1 := h1 b44 eb44
          have h2 := h2 b44 eb44
          refine ⟨h1.1, ?_⟩
          have h1 := h1.2
          have h2 := h2.2
          intro I46 eI46
          have h1 := h1 I46 eI46
          have h2 := h2 I46 eI46
          intro b47 eb47
          have h1 := h1 b47 eb47
          have h2 := h2 b47 eb47
          refine ⟨h1.1, ?_⟩
          have h1 := h1.2
          have h2 := h2.2
          intro I49 eI49
          have h1 := h1 I49 eI49
          have h2 := h2 I49 eI49
          unfold f_X12_again_b167 at h1 h2 ⊢
          intro x14 ex14
          have h1 := h1 x14 ex14
          have h2 := h2 x14 ex14
          exact ih _ _ _ _ _ _ h1 h2
        · have h1 := h1.2 c
          have h2 := h2.2 c
          unfold f_X12_again_b167 at h1 h2 ⊢
          intro x14 ex14
          have h1 := h1 x14 ex14
          have h2 := h2 x14 ex14
          exact ih _ _ _ _ _ _ h1 h2
set_option maxHeartbeats 4000000 in
theorem and_X12_again_L83 {Z : jZ} {Q1 Q2 Q3 : Int32 → jI → jL → Prop} (hq : ∀ (x0 : Int32) (x1 : jI) (x2 : jL), Q1 x0 x1 x2 → Q2 x0 x1 x2 → Q3 x0 x1 x2) : ∀ (n m : Nat) (v0 : Nat) (v1 : Int32) (v2 : Int32) (I : jI) (L : jL), f_X12_again_L83 Z Q1 n v0 v1 v2 I L → f_X12_again_L83 Z Q2 m v0 v1 v2 I L → f_X12_again_L83 Z Q3 n v0 v1 v2 I L := by
  intro n
  induction n with
  | zero => intro m v0 v1 v2 I L h1 h2; exact h1.elim
  | succ n ih =>
    intro m v0 v1 v2 I L h1 h2
    cases m with
    | zero => exact h2.elim
    | succ m =>
      unfold f_X12_again_L83 at h1 h2 ⊢
      refine ⟨fun c => ?_, fun c => ?_⟩
      · have h1 := h1.1 c
        have h2 := h2.1 c
        obtain ⟨n1, h1⟩ := h1
        obtain ⟨n2, h2⟩ := h2
        exact ⟨n1, and_X12_again_L108  hq n1 n2 _ _ _ _ _ h1 h2⟩
      · have h1 := h1.2 c
        have h2 := h2.2 c
        intro b52 eb52
        have h1 := h1 b52 eb52
        have h2 := h2 b52 eb52
        refine and_X12_take h1 h2 (fun r59 I55 L56 h1 h2 => ?_)
        refine ⟨h1.1, ?_⟩
        have h1 := h1.2
        have h2 := h2.2
        intro I61 eI61
        have h1 := h1 I61 eI61
        have h2 := h2 I61 eI61
        intro x62 ex62
        have h1 := h1 x62 ex62
        have h2 := h2 x62 ex62
        exact ih _ _ _ _ _ _ h1 h2
set_option maxHeartbeats 4000000 in
theorem and_X12_again_L49 {Z : jZ} {Q1 Q2 Q3 : Int32 → jI → jL → Prop} (hq : ∀ (x0 : Int32) (x1 : jI) (x2 : jL), Q1 x0 x1 x2 → Q2 x0 x1 x2 → Q3 x0 x1 x2) : ∀ (n m : Nat) (v0 : Nat) (v1 : Int32) (v2 : Int32) (I : jI) (L : jL), f_X12_again_L49 Z Q1 n v0 v1 v2 I L → f_X12_again_L49 Z Q2 m v0 v1 v2 I L → f_X12_again_L49 Z Q3 n v0 v1 v2 I L := by
  intro n
  induction n with
  | zero => intro m v0 v1 v2 I L h1 h2; exact h1.elim
  | succ n ih =>
    intro m v0 v1 v2 I L h1 h2
    cases m with
    | zero => exact h2.elim
    | succ m =>
      unfold f_X12_again_L49 at h1 h2 ⊢
      refine ⟨fun c => ?_, fun c => ?_⟩
      · have h1 := h1.1 c
        have h2 := h2.1 c
        obtain ⟨n1, h1⟩ := h1
        obtain ⟨n2, h2⟩ := h2
        exact ⟨n1, and_X12_again_L83  hq n1 n2 _ _ _ _ _ h1 h2⟩
      · have h1 := h1.2 c
        have h2 := h2.2 c
        intro b65 eb65
        have h1 := h1 b65 eb65
        have h2 := h2 b65 eb65
        refine and_X12_take h1 h2 (fun r72 I68 L69 h1 h2 => ?_)
        refine ⟨h1.1, ?_⟩
        have h1 := h1.2
        have h2 := h2.2
        intro I74 eI74
        have h1 := h1 I74 eI74
        have h2 := h2 I74 eI74
        intro b75 eb75
        have h1 := h1 b75 eb75
        have h2 := h2 b75 eb75
        refine and_X12_take h1 h2 (fun r82 I78 L79 h1 h2 => ?_)
        refine ⟨h1.1, ?_⟩
        have h1 := h1.2
        have h2 := h2.2
        intro I84 eI84
        have h1 := h1 I84 eI84
        have h2 := h2 I84 eI84
        intro x85 ex85
        have h1 := h1 x85 ex85
        have h2 := h2 x85 ex85
        exact ih _ _ _ _ _ _ h1 h2
set_option maxHeartbeats 4000000 in
theorem and_X12_again {v0 : Nat} {v1 : Int32} {Z : jZ} {I : jI} {L : jL} {Q1 Q2 Q3 : Int32 → jI → jL → Prop} (h1 : f_X12_again v0 v1 Z I L Q1) (h2 : f_X12_again v0 v1 Z I L Q2) (hq : ∀ (x0 : Int32) (x1 : jI) (x2 : jL), Q1 x0 x1 x2 → Q2 x0 x1 x2 → Q3 x0 x1 x2) : f_X12_again v0 v1 Z I L Q3 := by
  unfold f_X12_again at h1 h2 ⊢
  intro I86 eI86
  have h1 := h1 I86 eI86
  have h2 := h2 I86 eI86
  refine and_X12_in h1 h2 (fun r93 I89 L90 h1 h2 => ?_)
  refine ⟨fun c => ?_, fun c => ?_⟩
  · have h1 := h1.1 c
    have h2 := h2.1 c
    exact hq _ _ _ h1 h2
  · have h1 := h1.2 c
    have h2 := h2.2 c
    intro b95 eb95
    have h1 := h1 b95 eb95
    have h2 := h2 b95 eb95
    refine ⟨h1.1, ?_⟩
    have h1 := h1.2
    have h2 := h2.2
    refine ⟨fun c => ?_, fun c => ?_⟩
    · have h1 := h1.1 c
      have h2 := h2.1 c
      exact hq _ _ _ h1 h2
    · have h1 := h1.2 c
      have h2 := h2.2 c
      intro b98 eb98
      have h1 := h1 b98 eb98
      have h2 := h2 b98 eb98
      refine ⟨h1.1, ?_⟩
      have h1 := h1.2
      have h2 := h2.2
      refine ⟨fun c => ?_, fun c => ?_⟩
      · have h1 := h1.1 c
        have h2 := h2.1 c
        intro I101 eI101
        have h1 := h1 I101 eI101
        have h2 := h2 I101 eI101
        obtain ⟨n1, h1⟩ := h1
        obtain ⟨n2, h2⟩ := h2
        exact ⟨n1, and_X12_again_L49  hq n1 n2 _ _ _ _ _ h1 h2⟩
      · have h1 := h1.2 c
        have h2 := h2.2 c
        exact hq _ _ _ h1 h2
set_option maxHeartbeats 4000000 in
theorem and_X2_putStairs {v0 : Nat} {v1 : Nat} {Z : jZ} {I : jI} {L : jL} {Q1 Q2 Q3 : jI → jL → Prop} (h1 : f_X2_putStairs v0 v1 Z I L Q1) (h2 : f_X2_putStairs v0 v1 Z I L Q2) (hq : ∀ (x0 : jI) (x1 : jL), Q1 x0 x1 → Q2 x0 x1 → Q3 x0 x1) : f_X2_putStairs v0 v1 Z I L Q3 := by
  unfold f_X2_putStairs at h1 h2 ⊢
  intro b1 eb1
  have h1 := h1 b1 eb1
  have h2 := h2 b1 eb1
  intro b2 eb2
  have h1 := h1 b2 eb2
  have h2 := h2 b2 eb2
  refine ⟨h1.1, ?_⟩
  have h1 := h1.2
  have h2 := h2.2
  intro I4 eI4
  have h1 := h1 I4 eI4
  have h2 := h2 I4 eI4
  intro b5 eb5
  have h1 := h1 b5 eb5
  have h2 := h2 b5 eb5
  intro b6 eb6
  have h1 := h1 b6 eb6
  have h2 := h2 b6 eb6
  refine ⟨h1.1, ?_⟩
  have h1 := h1.2
  have h2 := h2.2
  intro I8 eI8
  have h1 := h1 I8 eI8
  have h2 := h2 I8 eI8
  intro b9 eb9
  have h1 := h1 b9 eb9
  have h2 := h2 b9 eb9
  intro b10 eb10
  have h1 := h1 b10 eb10
  have h2 := h2 b10 eb10
  intro b11 eb11
  have h1 := h1 b11 eb11
  have h2 := h2 b11 eb11
  refine ⟨h1.1, ?_⟩
  have h1 := h1.2
  have h2 := h2.2
  intro I13 eI13
  have h1 := h1 I13 eI13
  have h2 := h2 I13 eI13
  exact hq _ _ h1 h2
set_option maxHeartbeats 4000000 in
theorem and_X2_putPilgrim {v0 : Nat} {v1 : Int32} {v2 : Nat} {Z : jZ} {I : jI} {L : jL} {Q1 Q2 Q3 : jI → jL → Prop} (h1 : f_X2_putPilgrim v0 v1 v2 Z I L Q1) (h2 : f_X2_putPilgrim v0 v1 v2 Z I L Q2) (hq : ∀ (x0 : jI) (x1 : jL), Q1 x0 x1 → Q2 x0 x1 → Q3 x0 x1) : f_X2_putPilgrim v0 v1 v2 Z I L Q3 := by
  unfold f_X2_putPilgrim at h1 h2 ⊢
  refine ⟨fun c => ?_, fun c => ?_⟩
  · have h1 := h1.1 c
    have h2 := h2.1 c
    exact hq _ _ h1 h2
  · have h1 := h1.2 c
    have h2 := h2.2 c
    refine ⟨fun c => ?_, fun c => ?_⟩
    · have h1 := h1.1 c
      have h2 := h2.1 c
      exact hq _ _ h1 h2
    · have h1 := h1.2 c
      have h2 := h2.2 c
      intro b3 eb3
      have h1 := h1 b3 eb3
      have h2 := h2 b3 eb3
      refine ⟨h1.1, ?_⟩
      have h1 := h1.2
      have h2 := h2.2
      intro I5 eI5
      have h1 := h1 I5 eI5
      have h2 := h2 I5 eI5
      intro b6 eb6
      have h1 := h1 b6 eb6
      have h2 := h2 b6 eb6
      refine ⟨h1.1, ?_⟩
      have h1 := h1.2
      have h2 := h2.2
      intro I8 eI8
      have h1 := h1 I8 eI8
      have h2 := h2 I8 eI8
      intro b9 eb9
      have h1 := h1 b9 eb9
      have h2 := h2 b9 eb9
      refine ⟨h1.1, ?_⟩
      have h1 := h1.2
      have h2 := h2.2
      intro I11 eI11
      have h1 := h1 I11 eI11
      have h2 := h2 I11 eI11
      exact hq _ _ h1 h2
set_option maxHeartbeats 4000000 in
theorem and_X11_keep_L55 {Z : jZ} {Q1 Q2 Q3 : Int32 → jI → jL → Prop} (hq : ∀ (x0 : Int32) (x1 : jI) (x2 : jL), Q1 x0 x1 x2 → Q2 x0 x1 x2 → Q3 x0 x1 x2) : ∀ (n m : Nat) (v0 : Nat) (v2 : Nat) (v3 : Int32) (I : jI) (L : jL), f_X11_keep_L55 Z Q1 n v0 v2 v3 I L → f_X11_keep_L55 Z Q2 m v0 v2 v3 I L → f_X11_keep_L55 Z Q3 n v0 v2 v3 I L := by
  intro n
  induction n with
  | zero => intro m v0 v2 v3 I L h1 h2; exact h1.elim
  | succ n ih =>
    intro m v0 v2 v3 I L h1 h2
    cases m with
    | zero => exact h2.elim
    | succ m =>
      unfold f_X11_keep_L55 at h1 h2 ⊢
      refine ⟨fun c => ?_, fun c => ?_⟩
      · have h1 := h1.1 c
        have h2 := h2.1 c
        intro I3 eI3
        have h1 := h1 I3 eI3
        have h2 := h2 I3 eI3
        exact hq _ _ _ h1 h2
      · have h1 := h1.2 c
        have h2 := h2.2 c
        refine and_X11_find h1 h2 (fun r10 I6 L7 h1 h2 => ?_)
        refine ⟨fun c => ?_, fun b11 c => ?_⟩
        · have h1 := h1.1 c
          have h2 := h2.1 c
          unfold f_X11_keep_b82 at h1 h2 ⊢
          intro x1 ex1
          have h1 := h1 x1 ex1
          have h2 := h2 x1 ex1
          exact ih _ _ _ _ _ _ h1 h2
        · have h1 := h1.2 b11 c
          have h2 := h2.2 b11 c
          refine and_X2_putPilgrim h1 h2 (fun I15 L16 h1 h2 => ?_)
          unfold f_X11_keep_b82 at h1 h2 ⊢
          intro x1 ex1
          have h1 := h1 x1 ex1
          have h2 := h2 x1 ex1
          exact ih _ _ _ _ _ _ h1 h2
set_option maxHeartbeats 4000000 in
theorem and_X11_keep {v0 : Nat} {v1 : Int32} {Z : jZ} {I : jI} {L : jL} {Q1 Q2 Q3 : Int32 → jI → jL → Prop} (h1 : f_X11_keep v0 v1 Z I L Q1) (h2 : f_X11_keep v0 v1 Z I L Q2) (hq : ∀ (x0 : Int32) (x1 : jI) (x2 : jL), Q1 x0 x1 x2 → Q2 x0 x1 x2 → Q3 x0 x1 x2) : f_X11_keep v0 v1 Z I L Q3 := by
  unfold f_X11_keep at h1 h2 ⊢
  refine ⟨fun c => ?_, fun c => ?_⟩
  · have h1 := h1.1 c
    have h2 := h2.1 c
    exact hq _ _ _ h1 h2
  · have h1 := h1.2 c
    have h2 := h2.2 c
    intro b20 eb20
    have h1 := h1 b20 eb20
    have h2 := h2 b20 eb20
    refine ⟨fun c => ?_, fun c => ?_⟩
    · have h1 := h1.1 c
      have h2 := h2.1 c
      intro b22 eb22
      have h1 := h1 b22 eb22
      have h2 := h2 b22 eb22
      refine ⟨h1.1, ?_⟩
      have h1 := h1.2
      have h2 := h2.2
      intro b24 eb24
      have h1 := h1 b24 eb24
      have h2 := h2 b24 eb24
      intro b25 eb25
      have h1 := h1 b25 eb25
      have h2 := h2 b25 eb25
      refine and_X2_putStairs h1 h2 (fun I28 L29 h1 h2 => ?_)
      intro b32 eb32
      have h1 := h1 b32 eb32
      have h2 := h2 b32 eb32
      intro b33 eb33
      have h1 := h1 b33 eb33
      have h2 := h2 b33 eb33
      refine ⟨h1.1, ?_⟩
      have h1 := h1.2
      have h2 := h2.2
      intro I35 eI35
      have h1 := h1 I35 eI35
      have h2 := h2 I35 eI35
      intro I36 eI36
      have h1 := h1 I36 eI36
      have h2 := h2 I36 eI36
      obtain ⟨n1, h1⟩ := h1
      obtain ⟨n2, h2⟩ := h2
      exact ⟨n1, and_X11_keep_L55  hq n1 n2 _ _ _ _ _ h1 h2⟩
    · have h1 := h1.2 c
      have h2 := h2.2 c
      exact hq _ _ _ h1 h2
set_option maxHeartbeats 4000000 in
theorem and_X4_shareInto_L2 {Z : jZ} {Q1 Q2 Q3 : jI → jL → Prop} (hq : ∀ (x0 : jI) (x1 : jL), Q1 x0 x1 → Q2 x0 x1 → Q3 x0 x1) : ∀ (n m : Nat) (v0 : Nat) (v1 : Int32) (v2 : Nat) (v3 : Int32) (I : jI) (L : jL), f_X4_shareInto_L2 Z Q1 n v0 v1 v2 v3 I L → f_X4_shareInto_L2 Z Q2 m v0 v1 v2 v3 I L → f_X4_shareInto_L2 Z Q3 n v0 v1 v2 v3 I L := by
  intro n
  induction n with
  | zero => intro m v0 v1 v2 v3 I L h1 h2; exact h1.elim
  | succ n ih =>
    intro m v0 v1 v2 v3 I L h1 h2
    cases m with
    | zero => exact h2.elim
    | succ m =>
      unfold f_X4_shareInto_L2 at h1 h2 ⊢
      refine ⟨fun c => ?_, fun c => ?_⟩
      · have h1 := h1.1 c
        have h2 := h2.1 c
        exact hq _ _ h1 h2
      · have h1 := h1.2 c
        have h2 := h2.2 c
        refine ⟨fun c => ?_, fun c => ?_⟩
        · have h1 := h1.1 c
          have h2 := h2.1 c
          exact hq _ _ h1 h2
        · have h1 := h1.2 c
          have h2 := h2.2 c
          refine and_X4_shareOf h1 h2 (fun r9 I5 L6 h1 h2 => ?_)
          refine ⟨h1.1, ?_⟩
          have h1 := h1.2
          have h2 := h2.2
          intro I11 eI11
          have h1 := h1 I11 eI11
          have h2 := h2 I11 eI11
          intro x12 ex12
          have h1 := h1 x12 ex12
          have h2 := h2 x12 ex12
          exact ih _ _ _ _ _ _ _ h1 h2
set_option maxHeartbeats 4000000 in
theorem and_X4_shareInto {v0 : Nat} {v1 : Int32} {v2 : Nat} {Z : jZ} {I : jI} {L : jL} {Q1 Q2 Q3 : jI → jL → Prop} (h1 : f_X4_shareInto v0 v1 v2 Z I L Q1) (h2 : f_X4_shareInto v0 v1 v2 Z I L Q2) (hq : ∀ (x0 : jI) (x1 : jL), Q1 x0 x1 → Q2 x0 x1 → Q3 x0 x1) : f_X4_shareInto v0 v1 v2 Z I L Q3 := by
  unfold f_X4_shareInto at h1 h2 ⊢
  obtain ⟨n1, h1⟩ := h1
  obtain ⟨n2, h2⟩ := h2
  exact ⟨n1, and_X4_shareInto_L2  hq n1 n2 _ _ _ _ _ _ h1 h2⟩
set_option maxHeartbeats 4000000 in
theorem and_X11_divide_L92 {Z : jZ} {K73 K73b K73c : Nat → Int32 → Int32 → jI → jL → Prop} {Q1 Q2 Q3 : jI → jL → Prop} (hK73 : ∀ (x0 : Nat) (x1 : Int32) (x2 : Int32) (x3 : jI) (x4 : jL), K73 x0 x1 x2 x3 x4 → K73b x0 x1 x2 x3 x4 → K73c x0 x1 x2 x3 x4) (hq : ∀ (x0 : jI) (x1 : jL), Q1 x0 x1 → Q2 x0 x1 → Q3 x0 x1) : ∀ (n m : Nat) (v0 : Nat) (v3 : Int32) (v4 : Int32) (v5 : Int32) (v6 : Int32) (I : jI) (L : jL), f_X11_divide_L92 K73 Z Q1 n v0 v3 v4 v5 v6 I L → f_X11_divide_L92 K73b Z Q2 m v0 v3 v4 v5 v6 I L → f_X11_divide_L92 K73c Z Q3 n v0 v3 v4 v5 v6 I L := by
  intro n
  induction n with
  | zero => intro m v0 v3 v4 v5 v6 I L h1 h2; exact h1.elim
  | succ n ih =>
    intro m v0 v3 v4 v5 v6 I L h1 h2
    cases m with
    | zero => exact h2.elim
    | succ m =>
      unfold f_X11_divide_L92 at h1 h2 ⊢
      refine ⟨fun c => ?_, fun c => ?_⟩
      · have h1 := h1.1 c
        have h2 := h2.1 c
        intro b3 eb3
        have h1 := h1 b3 eb3
        have h2 := h2 b3 eb3
        refine ⟨h1.1, ?_⟩
        have h1 := h1.2
        have h2 := h2.2
        refine ⟨h1.1, ?_⟩
        have h1 := h1.2
        have h2 := h2.2
        intro I6 eI6
        have h1 := h1 I6 eI6
        have h2 := h2 I6 eI6
        intro b7 eb7
        have h1 := h1 b7 eb7
        have h2 := h2 b7 eb7
        refine ⟨h1.1, ?_⟩
        have h1 := h1.2
        have h2 := h2.2
        intro I9 eI9
        have h1 := h1 I9 eI9
        have h2 := h2 I9 eI9
        intro x10 ex10
        have h1 := h1 x10 ex10
        have h2 := h2 x10 ex10
        exact hK73 _ _ _ _ _ h1 h2
      · have h1 := h1.2 c
        have h2 := h2.2 c
        intro b11 eb11
        have h1 := h1 b11 eb11
        have h2 := h2 b11 eb11
        refine ⟨h1.1, ?_⟩
        have h1 := h1.2
        have h2 := h2.2
        intro b13 eb13
        have h1 := h1 b13 eb13
        have h2 := h2 b13 eb13
        refine ⟨h1.1, ?_⟩
        have h1 := h1.2
        have h2 := h2.2
        refine ⟨fun c => ?_, fun c => ?_⟩
        · have h1 := h1.1 c
          have h2 := h2.1 c
          unfold f_X11_divide_b123 at h1 h2 ⊢
          intro x1 ex1
          have h1 := h1 x1 ex1
          have h2 := h2 x1 ex1
          exact ih _ _ _ _ _ _ _ _ h1 h2
        · have h1 := h1.2 c
          have h2 := h2.2 c
          unfold f_X11_divide_b123 at h1 h2 ⊢
          intro x1 ex1
          have h1 := h1 x1 ex1
          have h2 := h2 x1 ex1
          exact ih _ _ _ _ _ _ _ _ h1 h2
set_option maxHeartbeats 4000000 in
theorem and_X11_divide_L73 {Z : jZ} {Q1 Q2 Q3 : jI → jL → Prop} (hq : ∀ (x0 : jI) (x1 : jL), Q1 x0 x1 → Q2 x0 x1 → Q3 x0 x1) : ∀ (n m : Nat) (v0 : Nat) (v3 : Int32) (v4 : Int32) (I : jI) (L : jL), f_X11_divide_L73 Z Q1 n v0 v3 v4 I L → f_X11_divide_L73 Z Q2 m v0 v3 v4 I L → f_X11_divide_L73 Z Q3 n v0 v3 v4 I L := by
  intro n
  induction n with
  | zero => intro m v0 v3 v4 I L h1 h2; exact h1.elim
  | succ n ih =>
    intro m v0 v3 v4 I L h1 h2
    cases m with
    | zero => exact h2.elim
    | succ m =>
      unfold f_X11_divide_L73 at h1 h2 ⊢
      refine ⟨fun c => ?_, fun c => ?_⟩
      · have h1 := h1.1 c
        have h2 := h2.1 c
        exact hq _ _ h1 h2
      · have h1 := h1.2 c
        have h2 := h2.2 c
        refine ⟨fun c => ?_, fun c => ?_⟩
        · have h1 := h1.1 c
          have h2 := h2.1 c
          exact hq _ _ h1 h2
        · have h1 := h1.2 c
          have h2 := h2.2 c
          obtain ⟨n1, h1⟩ := h1
          obtain ⟨n2, h2⟩ := h2
          exact ⟨n1, and_X11_divide_L92 (fun _ _ _ _ _ a b => ih _ _ _ _ _ _ a b) hq n1 n2 _ _ _ _ _ _ _ h1 h2⟩
set_option maxHeartbeats 4000000 in
theorem and_X11_divide_L11 {Z : jZ} {Q1 Q2 Q3 : jI → jL → Prop} (hq : ∀ (x0 : jI) (x1 : jL), Q1 x0 x1 → Q2 x0 x1 → Q3 x0 x1) : ∀ (n m : Nat) (v0 : Nat) (v1 : Int32) (v2 : Int32) (v3 : Int32) (v4 : Int32) (I : jI) (L : jL), f_X11_divide_L11 Z Q1 n v0 v1 v2 v3 v4 I L → f_X11_divide_L11 Z Q2 m v0 v1 v2 v3 v4 I L → f_X11_divide_L11 Z Q3 n v0 v1 v2 v3 v4 I L := by
  intro n
  induction n with
  | zero => intro m v0 v1 v2 v3 v4 I L h1 h2; exact h1.elim
  | succ n ih =>
    intro m v0 v1 v2 v3 v4 I L h1 h2
    cases m with
    | zero => exact h2.elim
    | succ m =>
      unfold f_X11_divide_L11 at h1 h2 ⊢
      refine ⟨fun c => ?_, fun c => ?_⟩
      · have h1 := h1.1 c
        have h2 := h2.1 c
        obtain ⟨n1, h1⟩ := h1
        obtain ⟨n2, h2⟩ := h2
        exact ⟨n1, and_X11_divide_L73  hq n1 n2 _ _ _ _ _ h1 h2⟩
      · have h1 := h1.2 c
        have h2 := h2.2 c
        intro b21 eb21
        have h1 := h1 b21 eb21
        have h2 := h2 b21 eb21
        intro b22 eb22
        have h1 := h1 b22 eb22
        have h2 := h2 b22 eb22
        refine ⟨h1.1, ?_⟩
        have h1 := h1.2
        have h2 := h2.2
        refine ⟨h1.1, ?_⟩
        have h1 := h1.2
        have h2 := h2.2
        refine ⟨h1.1, ?_⟩
        have h1 := h1.2
        have h2 := h2.2
        intro I26 eI26
        have h1 := h1 I26 eI26
        have h2 := h2 I26 eI26
        intro b27 eb27
        have h1 := h1 b27 eb27
        have h2 := h2 b27 eb27
        intro b28 eb28
        have h1 := h1 b28 eb28
        have h2 := h2 b28 eb28
        refine ⟨h1.1, ?_⟩
        have h1 := h1.2
        have h2 := h2.2
        refine ⟨h1.1, ?_⟩
        have h1 := h1.2
        have h2 := h2.2
        refine ⟨h1.1, ?_⟩
        have h1 := h1.2
        have h2 := h2.2
        intro I32 eI32
        have h1 := h1 I32 eI32
        have h2 := h2 I32 eI32
        intro b33 eb33
        have h1 := h1 b33 eb33
        have h2 := h2 b33 eb33
        refine ⟨h1.1, ?_⟩
        have h1 := h1.2
        have h2 := h2.2
        intro x35 ex35
        have h1 := h1 x35 ex35
        have h2 := h2 x35 ex35
        intro x36 ex36
        have h1 := h1 x36 ex36
        have h2 := h2 x36 ex36
        exact ih _ _ _ _ _ _ _ _ h1 h2
set_option maxHeartbeats 4000000 in
theorem and_X11_divide {v0 : Nat} {v1 : Int32} {v2 : Int32} {Z : jZ} {I : jI} {L : jL} {Q1 Q2 Q3 : jI → jL → Prop} (h1 : f_X11_divide v0 v1 v2 Z I L Q1) (h2 : f_X11_divide v0 v1 v2 Z I L Q2) (hq : ∀ (x0 : jI) (x1 : jL), Q1 x0 x1 → Q2 x0 x1 → Q3 x0 x1) : f_X11_divide v0 v1 v2 Z I L Q3 := by
  unfold f_X11_divide at h1 h2 ⊢
  refine ⟨fun c => ?_, fun c => ?_⟩
  · have h1 := h1.1 c
    have h2 := h2.1 c
    obtain ⟨n1, h1⟩ := h1
    obtain ⟨n2, h2⟩ := h2
    exact ⟨n1, and_X11_divide_L11  hq n1 n2 _ _ _ _ _ _ _ h1 h2⟩
  · have h1 := h1.2 c
    have h2 := h2.2 c
    exact hq _ _ h1 h2
set_option maxHeartbeats 4000000 in
theorem and_X11_lead_L26 {Z : jZ} {Q1 Q2 Q3 : jI → jL → Prop} (hq : ∀ (x0 : jI) (x1 : jL), Q1 x0 x1 → Q2 x0 x1 → Q3 x0 x1) : ∀ (n m : Nat) (v0 : Nat) (v3 : Int32) (v4 : Int32) (I : jI) (L : jL), f_X11_lead_L26 Z Q1 n v0 v3 v4 I L → f_X11_lead_L26 Z Q2 m v0 v3 v4 I L → f_X11_lead_L26 Z Q3 n v0 v3 v4 I L := by
  intro n
  induction n with
  | zero => intro m v0 v3 v4 I L h1 h2; exact h1.elim
  | succ n ih =>
    intro m v0 v3 v4 I L h1 h2
    cases m with
    | zero => exact h2.elim
    | succ m =>
      unfold f_X11_lead_L26 at h1 h2 ⊢
      refine ⟨fun c => ?_, fun c => ?_⟩
      · have h1 := h1.1 c
        have h2 := h2.1 c
        exact hq _ _ h1 h2
      · have h1 := h1.2 c
        have h2 := h2.2 c
        intro b2 eb2
        have h1 := h1 b2 eb2
        have h2 := h2 b2 eb2
        refine ⟨h1.1, ?_⟩
        have h1 := h1.2
        have h2 := h2.2
        intro b4 eb4
        have h1 := h1 b4 eb4
        have h2 := h2 b4 eb4
        refine ⟨h1.1, ?_⟩
        have h1 := h1.2
        have h2 := h2.2
        refine ⟨h1.1, ?_⟩
        have h1 := h1.2
        have h2 := h2.2
        intro I7 eI7
        have h1 := h1 I7 eI7
        have h2 := h2 I7 eI7
        intro x8 ex8
        have h1 := h1 x8 ex8
        have h2 := h2 x8 ex8
        exact ih _ _ _ _ _ _ h1 h2
set_option maxHeartbeats 4000000 in
theorem and_X11_lead {v0 : Nat} {v1 : Int32} {v2 : Int32} {v3 : Int32} {Z : jZ} {I : jI} {L : jL} {Q1 Q2 Q3 : jI → jL → Prop} (h1 : f_X11_lead v0 v1 v2 v3 Z I L Q1) (h2 : f_X11_lead v0 v1 v2 v3 Z I L Q2) (hq : ∀ (x0 : jI) (x1 : jL), Q1 x0 x1 → Q2 x0 x1 → Q3 x0 x1) : f_X11_lead v0 v1 v2 v3 Z I L Q3 := by
  unfold f_X11_lead at h1 h2 ⊢
  intro b9 eb9
  have h1 := h1 b9 eb9
  have h2 := h2 b9 eb9
  intro b10 eb10
  have h1 := h1 b10 eb10
  have h2 := h2 b10 eb10
  intro b11 eb11
  have h1 := h1 b11 eb11
  have h2 := h2 b11 eb11
  refine and_X4_shareInto h1 h2 (fun I14 L15 h1 h2 => ?_)
  refine and_X11_divide h1 h2 (fun I20 L21 h1 h2 => ?_)
  obtain ⟨n1, h1⟩ := h1
  obtain ⟨n2, h2⟩ := h2
  exact ⟨n1, and_X11_lead_L26  hq n1 n2 _ _ _ _ _ h1 h2⟩
set_option maxHeartbeats 4000000 in
theorem and_X11_mends {v0 : Nat} {v1 : Int32} {Z : jZ} {I : jI} {L : jL} {Q1 Q2 Q3 : Int32 → jI → jL → Prop} (h1 : f_X11_mends v0 v1 Z I L Q1) (h2 : f_X11_mends v0 v1 Z I L Q2) (hq : ∀ (x0 : Int32) (x1 : jI) (x2 : jL), Q1 x0 x1 x2 → Q2 x0 x1 x2 → Q3 x0 x1 x2) : f_X11_mends v0 v1 Z I L Q3 := by
  unfold f_X11_mends at h1 h2 ⊢
  intro b1 eb1
  have h1 := h1 b1 eb1
  have h2 := h2 b1 eb1
  refine and_X8_has h1 h2 (fun r8 I4 L5 h1 h2 => ?_)
  refine ⟨fun c => ?_, fun c => ?_⟩
  · have h1 := h1.1 c
    have h2 := h2.1 c
    intro b10 eb10
    have h1 := h1 b10 eb10
    have h2 := h2 b10 eb10
    intro b11 eb11
    have h1 := h1 b11 eb11
    have h2 := h2 b11 eb11
    refine ⟨h1.1, ?_⟩
    have h1 := h1.2
    have h2 := h2.2
    intro b13 eb13
    have h1 := h1 b13 eb13
    have h2 := h2 b13 eb13
    intro b14 eb14
    have h1 := h1 b14 eb14
    have h2 := h2 b14 eb14
    refine ⟨h1.1, ?_⟩
    have h1 := h1.2
    have h2 := h2.2
    intro x16 ex16
    have h1 := h1 x16 ex16
    have h2 := h2 x16 ex16
    refine and_X11_lead h1 h2 (fun I19 L20 h1 h2 => ?_)
    intro b23 eb23
    have h1 := h1 b23 eb23
    have h2 := h2 b23 eb23
    intro b24 eb24
    have h1 := h1 b24 eb24
    have h2 := h2 b24 eb24
    refine ⟨h1.1, ?_⟩
    have h1 := h1.2
    have h2 := h2.2
    intro I26 eI26
    have h1 := h1 I26 eI26
    have h2 := h2 I26 eI26
    exact hq _ _ _ h1 h2
  · have h1 := h1.2 c
    have h2 := h2.2 c
    exact hq _ _ _ h1 h2
set_option maxHeartbeats 4000000 in
theorem and_X12_isStep {v0 : Nat} {v1 : Int32} {Z : jZ} {I : jI} {L : jL} {Q1 Q2 Q3 : Int32 → jI → jL → Prop} (h1 : f_X12_isStep v0 v1 Z I L Q1) (h2 : f_X12_isStep v0 v1 Z I L Q2) (hq : ∀ (x0 : Int32) (x1 : jI) (x2 : jL), Q1 x0 x1 x2 → Q2 x0 x1 x2 → Q3 x0 x1 x2) : f_X12_isStep v0 v1 Z I L Q3 := by
  unfold f_X12_isStep at h1 h2 ⊢
  refine and_X12_in h1 h2 (fun r7 I3 L4 h1 h2 => ?_)
  exact hq _ _ _ h1 h2
set_option maxHeartbeats 4000000 in
theorem and_X12_divide_L147 {Z : jZ} {K136 K136b K136c : Nat → Int32 → jI → jL → Prop} {Q1 Q2 Q3 : jI → jL → Prop} (hK136 : ∀ (x0 : Nat) (x1 : Int32) (x2 : jI) (x3 : jL), K136 x0 x1 x2 x3 → K136b x0 x1 x2 x3 → K136c x0 x1 x2 x3) (hq : ∀ (x0 : jI) (x1 : jL), Q1 x0 x1 → Q2 x0 x1 → Q3 x0 x1) : ∀ (n m : Nat) (v0 : Nat) (v5 : Int32) (v6 : Int32) (v7 : Int32) (I : jI) (L : jL), f_X12_divide_L147 K136 Z Q1 n v0 v5 v6 v7 I L → f_X12_divide_L147 K136b Z Q2 m v0 v5 v6 v7 I L → f_X12_divide_L147 K136c Z Q3 n v0 v5 v6 v7 I L := by
  intro n
  induction n with
  | zero => intro m v0 v5 v6 v7 I L h1 h2; exact h1.elim
  | succ n ih =>
    intro m v0 v5 v6 v7 I L h1 h2
    cases m with
    | zero => exact h2.elim
    | succ m =>
      unfold f_X12_divide_L147 at h1 h2 ⊢
      refine ⟨fun c => ?_, fun c => ?_⟩
      · have h1 := h1.1 c
        have h2 := h2.1 c
        intro b3 eb3
        have h1 := h1 b3 eb3
        have h2 := h2 b3 eb3
        refine ⟨h1.1, ?_⟩
        have h1 := h1.2
        have h2 := h2.2
        refine ⟨h1.1, ?_⟩
        have h1 := h1.2
        have h2 := h2.2
        intro I6 eI6
        have h1 := h1 I6 eI6
        have h2 := h2 I6 eI6
        intro b7 eb7
        have h1 := h1 b7 eb7
        have h2 := h2 b7 eb7
        refine ⟨h1.1, ?_⟩
        have h1 := h1.2
        have h2 := h2.2
        intro L9 eL9
        have h1 := h1 L9 eL9
        have h2 := h2 L9 eL9
        intro x10 ex10
        have h1 := h1 x10 ex10
        have h2 := h2 x10 ex10
        exact hK136 _ _ _ _ h1 h2
      · have h1 := h1.2 c
        have h2 := h2.2 c
        intro b11 eb11
        have h1 := h1 b11 eb11
        have h2 := h2 b11 eb11
        refine ⟨h1.1, ?_⟩
        have h1 := h1.2
        have h2 := h2.2
        intro b13 eb13
        have h1 := h1 b13 eb13
        have h2 := h2 b13 eb13
        refine ⟨h1.1, ?_⟩
        have h1 := h1.2
        have h2 := h2.2
        refine ⟨fun c => ?_, fun c => ?_⟩
        · have h1 := h1.1 c
          have h2 := h2.1 c
          unfold f_X12_divide_b176 at h1 h2 ⊢
          intro x1 ex1
          have h1 := h1 x1 ex1
          have h2 := h2 x1 ex1
          exact ih _ _ _ _ _ _ _ h1 h2
        · have h1 := h1.2 c
          have h2 := h2.2 c
          unfold f_X12_divide_b176 at h1 h2 ⊢
          intro x1 ex1
          have h1 := h1 x1 ex1
          have h2 := h2 x1 ex1
          exact ih _ _ _ _ _ _ _ h1 h2
set_option maxHeartbeats 4000000 in
theorem and_X12_divide_L136 {Z : jZ} {Q1 Q2 Q3 : jI → jL → Prop} (hq : ∀ (x0 : jI) (x1 : jL), Q1 x0 x1 → Q2 x0 x1 → Q3 x0 x1) : ∀ (n m : Nat) (v0 : Nat) (v5 : Int32) (I : jI) (L : jL), f_X12_divide_L136 Z Q1 n v0 v5 I L → f_X12_divide_L136 Z Q2 m v0 v5 I L → f_X12_divide_L136 Z Q3 n v0 v5 I L := by
  intro n
  induction n with
  | zero => intro m v0 v5 I L h1 h2; exact h1.elim
  | succ n ih =>
    intro m v0 v5 I L h1 h2
    cases m with
    | zero => exact h2.elim
    | succ m =>
      unfold f_X12_divide_L136 at h1 h2 ⊢
      refine ⟨fun c => ?_, fun c => ?_⟩
      · have h1 := h1.1 c
        have h2 := h2.1 c
        exact hq _ _ h1 h2
      · have h1 := h1.2 c
        have h2 := h2.2 c
        obtain ⟨n1, h1⟩ := h1
        obtain ⟨n2, h2⟩ := h2
        exact ⟨n1, and_X12_divide_L147 (fun _ _ _ _ a b => ih _ _ _ _ _ a b) hq n1 n2 _ _ _ _ _ _ h1 h2⟩
set_option maxHeartbeats 4000000 in
theorem and_X12_divide_L40 {Z : jZ} {K27 K27b K27c : Nat → Int32 → Int32 → Int64 → Int32 → Int32 → jI → jL → Prop} {Q1 Q2 Q3 : jI → jL → Prop} (hK27 : ∀ (x0 : Nat) (x1 : Int32) (x2 : Int32) (x3 : Int64) (x4 : Int32) (x5 : Int32) (x6 : jI) (x7 : jL), K27 x0 x1 x2 x3 x4 x5 x6 x7 → K27b x0 x1 x2 x3 x4 x5 x6 x7 → K27c x0 x1 x2 x3 x4 x5 x6 x7) (hq : ∀ (x0 : jI) (x1 : jL), Q1 x0 x1 → Q2 x0 x1 → Q3 x0 x1) : ∀ (n m : Nat) (v0 : Nat) (v1 : Int32) (v2 : Int32) (v3 : Int64) (v5 : Int32) (v6 : Int32) (v7 : Int64) (v9 : Int32) (I : jI) (L : jL), f_X12_divide_L40 K27 Z Q1 n v0 v1 v2 v3 v5 v6 v7 v9 I L → f_X12_divide_L40 K27b Z Q2 m v0 v1 v2 v3 v5 v6 v7 v9 I L → f_X12_divide_L40 K27c Z Q3 n v0 v1 v2 v3 v5 v6 v7 v9 I L := by
  intro n
  induction n with
  | zero => intro m v0 v1 v2 v3 v5 v6 v7 v9 I L h1 h2; exact h1.elim
  | succ n ih =>
    intro m v0 v1 v2 v3 v5 v6 v7 v9 I L h1 h2
    cases m with
    | zero => exact h2.elim
    | succ m =>
      unfold f_X12_divide_L40 at h1 h2 ⊢
      refine ⟨fun c => ?_, fun c => ?_⟩
      · have h1 := h1.1 c
        have h2 := h2.1 c
        intro b23 eb23
        have h1 := h1 b23 eb23
        have h2 := h2 b23 eb23
        refine ⟨h1.1, ?_⟩
        have h1 := h1.2
        have h2 := h2.2
        refine ⟨h1.1, ?_⟩
        have h1 := h1.2
        have h2 := h2.2
        intro I26 eI26
        have h1 := h1 I26 eI26
        have h2 := h2 I26 eI26
        intro b27 eb27
        have h1 := h1 b27 eb27
        have h2 := h2 b27 eb27
        refine ⟨h1.1, ?_⟩
        have h1 := h1.2
        have h2 := h2.2
        refine ⟨h1.1, ?_⟩
        have h1 := h1.2
        have h2 := h2.2
        intro L30 eL30
        have h1 := h1 L30 eL30
        have h2 := h2 L30 eL30
        intro b31 eb31
        have h1 := h1 b31 eb31
        have h2 := h2 b31 eb31
        refine ⟨h1.1, ?_⟩
        have h1 := h1.2
        have h2 := h2.2
        intro x33 ex33
        have h1 := h1 x33 ex33
        have h2 := h2 x33 ex33
        intro x34 ex34
        have h1 := h1 x34 ex34
        have h2 := h2 x34 ex34
        exact hK27 _ _ _ _ _ _ _ _ h1 h2
      · have h1 := h1.2 c
        have h2 := h2.2 c
        refine ⟨fun c => ?_, fun c => ?_⟩
        · have h1 := h1.1 c
          have h2 := h2.1 c
          unfold f_X12_divide_b62 at h1 h2 ⊢
          intro b20 eb20
          have h1 := h1 b20 eb20
          have h2 := h2 b20 eb20
          refine ⟨h1.1, ?_⟩
          have h1 := h1.2
          have h2 := h2.2
          unfold f_X12_divide_b80 at h1 h2 ⊢
          intro x18 ex18
          have h1 := h1 x18 ex18
          have h2 := h2 x18 ex18
          intro x19 ex19
          have h1 := h1 x19 ex19
          have h2 := h2 x19 ex19
          exact ih _ _ _ _ _ _ _ _ _ _ _ h1 h2
        · have h1 := h1.2 c
          have h2 := h2.2 c
          refine ⟨fun c => ?_, fun c => ?_⟩
          · have h1 := h1.1 c
            have h2 := h2.1 c
            unfold f_X12_divide_b80 at h1 h2 ⊢
            intro x18 ex18
            have h1 := h1 x18 ex18
            have h2 := h2 x18 ex18
            intro x19 ex19
            have h1 := h1 x19 ex19
            have h2 := h2 x19 ex19
            exact ih _ _ _ _ _ _ _ _ _ _ _ h1 h2
          · have h1 := h1.2 c
            have h2 := h2.2 c
            unfold f_X12_divide_b62 at h1 h2 ⊢
            intro b20 eb20
            have h1 := h1 b20 eb20
            have h2 := h2 b20 eb20
            refine ⟨h1.1, ?_⟩
            have h1 := h1.2
            have h2 := h2.2
            unfold f_X12_divide_b80 at h1 h2 ⊢
            intro x18 ex18
            have h1 := h1 x18 ex18
            have h2 := h2 x18 ex18
            intro x19 ex19
            have h1 := h1 x19 ex19
            have h2 := h2 x19 ex19
            exact ih _ _ _ _ _ _ _ _ _ _ _ h1 h2
set_option maxHeartbeats 4000000 in
theorem and_X12_divide_L27 {Z : jZ} {Q1 Q2 Q3 : jI → jL → Prop} (hq : ∀ (x0 : jI) (x1 : jL), Q1 x0 x1 → Q2 x0 x1 → Q3 x0 x1) : ∀ (n m : Nat) (v0 : Nat) (v1 : Int32) (v2 : Int32) (v3 : Int64) (v5 : Int32) (v6 : Int32) (I : jI) (L : jL), f_X12_divide_L27 Z Q1 n v0 v1 v2 v3 v5 v6 I L → f_X12_divide_L27 Z Q2 m v0 v1 v2 v3 v5 v6 I L → f_X12_divide_L27 Z Q3 n v0 v1 v2 v3 v5 v6 I L := by
  intro n
  induction n with
  | zero => intro m v0 v1 v2 v3 v5 v6 I L h1 h2; exact h1.elim
  | succ n ih =>
    intro m v0 v1 v2 v3 v5 v6 I L h1 h2
    cases m with
    | zero => exact h2.elim
    | succ m =>
      unfold f_X12_divide_L27 at h1 h2 ⊢
      refine ⟨fun c => ?_, fun c => ?_⟩
      · have h1 := h1.1 c
        have h2 := h2.1 c
        obtain ⟨n1, h1⟩ := h1
        obtain ⟨n2, h2⟩ := h2
        exact ⟨n1, and_X12_divide_L136  hq n1 n2 _ _ _ _ h1 h2⟩
      · have h1 := h1.2 c
        have h2 := h2.2 c
        obtain ⟨n1, h1⟩ := h1
        obtain ⟨n2, h2⟩ := h2
        exact ⟨n1, and_X12_divide_L40 (fun _ _ _ _ _ _ _ _ a b => ih _ _ _ _ _ _ _ _ _ a b) hq n1 n2 _ _ _ _ _ _ _ _ _ _ h1 h2⟩
set_option maxHeartbeats 4000000 in
theorem and_X12_divide {v0 : Nat} {v1 : Int32} {v2 : Int32} {Z : jZ} {I : jI} {L : jL} {Q1 Q2 Q3 : jI → jL → Prop} (h1 : f_X12_divide v0 v1 v2 Z I L Q1) (h2 : f_X12_divide v0 v1 v2 Z I L Q2) (hq : ∀ (x0 : jI) (x1 : jL), Q1 x0 x1 → Q2 x0 x1 → Q3 x0 x1) : f_X12_divide v0 v1 v2 Z I L Q3 := by
  unfold f_X12_divide at h1 h2 ⊢
  refine ⟨fun c => ?_, fun c => ?_⟩
  · have h1 := h1.1 c
    have h2 := h2.1 c
    unfold f_X12_divide_b20 at h1 h2 ⊢
    obtain ⟨n1, h1⟩ := h1
    obtain ⟨n2, h2⟩ := h2
    exact ⟨n1, and_X12_divide_L27  hq n1 n2 _ _ _ _ _ _ _ _ h1 h2⟩
  · have h1 := h1.2 c
    have h2 := h2.2 c
    unfold f_X12_divide_b20 at h1 h2 ⊢
    obtain ⟨n1, h1⟩ := h1
    obtain ⟨n2, h2⟩ := h2
    exact ⟨n1, and_X12_divide_L27  hq n1 n2 _ _ _ _ _ _ _ _ h1 h2⟩
set_option maxHeartbeats 4000000 in
theorem and_X12_earn_L9 {Z : jZ} {Q1 Q2 Q3 : jI → jL → Prop} (hq : ∀ (x0 : jI) (x1 : jL), Q1 x0 x1 → Q2 x0 x1 → Q3 x0 x1) : ∀ (n m : Nat) (v0 : Nat) (v3 : Int32) (v4 : Int32) (I : jI) (L : jL), f_X12_earn_L9 Z Q1 n v0 v3 v4 I L → f_X12_earn_L9 Z Q2 m v0 v3 v4 I L → f_X12_earn_L9 Z Q3 n v0 v3 v4 I L := by
  intro n
  induction n with
  | zero => intro m v0 v3 v4 I L h1 h2; exact h1.elim
  | succ n ih =>
    intro m v0 v3 v4 I L h1 h2
    cases m with
    | zero => exact h2.elim
    | succ m =>
      unfold f_X12_earn_L9 at h1 h2 ⊢
      refine ⟨fun c => ?_, fun c => ?_⟩
      · have h1 := h1.1 c
        have h2 := h2.1 c
        exact hq _ _ h1 h2
      · have h1 := h1.2 c
        have h2 := h2.2 c
        intro b2 eb2
        have h1 := h1 b2 eb2
        have h2 := h2 b2 eb2
        refine ⟨h1.1, ?_⟩
        have h1 := h1.2
        have h2 := h2.2
        intro b4 eb4
        have h1 := h1 b4 eb4
        have h2 := h2 b4 eb4
        refine ⟨h1.1, ?_⟩
        have h1 := h1.2
        have h2 := h2.2
        refine ⟨h1.1, ?_⟩
        have h1 := h1.2
        have h2 := h2.2
        intro I7 eI7
        have h1 := h1 I7 eI7
        have h2 := h2 I7 eI7
        intro x8 ex8
        have h1 := h1 x8 ex8
        have h2 := h2 x8 ex8
        exact ih _ _ _ _ _ _ h1 h2
set_option maxHeartbeats 4000000 in
theorem and_X12_earn {v0 : Nat} {v1 : Int32} {v2 : Int32} {v3 : Int32} {Z : jZ} {I : jI} {L : jL} {Q1 Q2 Q3 : jI → jL → Prop} (h1 : f_X12_earn v0 v1 v2 v3 Z I L Q1) (h2 : f_X12_earn v0 v1 v2 v3 Z I L Q2) (hq : ∀ (x0 : jI) (x1 : jL), Q1 x0 x1 → Q2 x0 x1 → Q3 x0 x1) : f_X12_earn v0 v1 v2 v3 Z I L Q3 := by
  unfold f_X12_earn at h1 h2 ⊢
  refine and_X12_divide h1 h2 (fun I11 L12 h1 h2 => ?_)
  obtain ⟨n1, h1⟩ := h1
  obtain ⟨n2, h2⟩ := h2
  exact ⟨n1, and_X12_earn_L9  hq n1 n2 _ _ _ _ _ h1 h2⟩
set_option maxHeartbeats 4000000 in
theorem and_X12_mends {v0 : Nat} {v1 : Int32} {Z : jZ} {I : jI} {L : jL} {Q1 Q2 Q3 : Int32 → jI → jL → Prop} (h1 : f_X12_mends v0 v1 Z I L Q1) (h2 : f_X12_mends v0 v1 Z I L Q2) (hq : ∀ (x0 : Int32) (x1 : jI) (x2 : jL), Q1 x0 x1 x2 → Q2 x0 x1 x2 → Q3 x0 x1 x2) : f_X12_mends v0 v1 Z I L Q3 := by
  unfold f_X12_mends at h1 h2 ⊢
  intro I1 eI1
  have h1 := h1 I1 eI1
  have h2 := h2 I1 eI1
  refine and_X12_isStep h1 h2 (fun r8 I4 L5 h1 h2 => ?_)
  refine ⟨fun c => ?_, fun c => ?_⟩
  · have h1 := h1.1 c
    have h2 := h2.1 c
    intro b10 eb10
    have h1 := h1 b10 eb10
    have h2 := h2 b10 eb10
    refine ⟨h1.1, ?_⟩
    have h1 := h1.2
    have h2 := h2.2
    intro b12 eb12
    have h1 := h1 b12 eb12
    have h2 := h2 b12 eb12
    refine ⟨h1.1, ?_⟩
    have h1 := h1.2
    have h2 := h2.2
    intro x14 ex14
    have h1 := h1 x14 ex14
    have h2 := h2 x14 ex14
    refine and_X12_earn h1 h2 (fun I17 L18 h1 h2 => ?_)
    intro b21 eb21
    have h1 := h1 b21 eb21
    have h2 := h2 b21 eb21
    refine ⟨h1.1, ?_⟩
    have h1 := h1.2
    have h2 := h2.2
    intro I23 eI23
    have h1 := h1 I23 eI23
    have h2 := h2 I23 eI23
    exact hq _ _ _ h1 h2
  · have h1 := h1.2 c
    have h2 := h2.2 c
    exact hq _ _ _ h1 h2
theorem mj_X12_stairs {B : Nat × Nat} {v0 : Nat} {Z : jZ} {I : jI} {L : jL} {Q2 Q3 : Int32 → jZ → jI → jL → Prop} (h2 : f_X12_stairs B v0 Z I L Q2) (h1 : f_X12_stairs B v0 Z I L (fun r Z I L => Q2 r Z I L → Q3 r Z I L)) : f_X12_stairs B v0 Z I L Q3 := and_X12_stairs h1 h2 (fun _ _ _ _ a b => a b)
theorem mj_X12_again {v0 : Nat} {v1 : Int32} {Z : jZ} {I : jI} {L : jL} {Q2 Q3 : Int32 → jI → jL → Prop} (h2 : f_X12_again v0 v1 Z I L Q2) (h1 : f_X12_again v0 v1 Z I L (fun r I L => Q2 r I L → Q3 r I L)) : f_X12_again v0 v1 Z I L Q3 := and_X12_again h1 h2 (fun _ _ _ a b => a b)
theorem mj_X11_keep {v0 : Nat} {v1 : Int32} {Z : jZ} {I : jI} {L : jL} {Q2 Q3 : Int32 → jI → jL → Prop} (h2 : f_X11_keep v0 v1 Z I L Q2) (h1 : f_X11_keep v0 v1 Z I L (fun r I L => Q2 r I L → Q3 r I L)) : f_X11_keep v0 v1 Z I L Q3 := and_X11_keep h1 h2 (fun _ _ _ a b => a b)
/-- what is shown of where PILGRIMS are, call by call -/
theorem pq_X11_stairs {Z : jZ} {I : jI} {L : jL} (w : WD Z I) (v0 uA : Nat) (kv0 : jk Z v0 11) (hA : jr Z v0 3 = some uA) : f_X11_stairs v0 Z I L (fun r I' _ => PLS11 Z I I' uA (I v0 4).toInt.toNat r.toInt) := by
  have n6 : 0 ≤ (I v0 4).toInt ∧ (I v0 4).toInt ≤ 6 := w.fld 11 4 kv0 (by decide)
  exact pl_X11_stairs w v0 uA kv0 hA _ (by omega) (fun r I' L' _ _ a b => ⟨a, b⟩)
theorem pq_X12_stairs {B : Nat × Nat} {T : Nat} {Z : jZ} {I : jI} {L : jL} {t9 t10 t11 t12 t14 t15 t16 : Nat} (w : WD Z I) (bd : BUD B Z T) (v0 : Nat) (k0 : jk Z v0 12) (hb : jr Z v0 9 = some t9 ∧ jk Z t9 14 ∧ jr Z v0 10 = some t10 ∧ jk Z t10 14 ∧ jr Z v0 11 = some t11 ∧ jk Z t11 14 ∧ jr Z v0 12 = some t12 ∧ jk Z t12 14) (hr : RPr Z v0 t14 t15 t16) : f_X12_stairs B v0 Z I L (fun _ _ I' _ => PLS12 I I' v0 t9 t10 t14 t15 t16) :=
  pl_X12_stairs w bd v0 k0 t9 t10 t14 t15 t16 hb.1 hb.2.1 hb.2.2.1 hb.2.2.2.1 hr.1 hr.2.1 hr.2.2.1 hr.2.2.2.1 hr.2.2.2.2.1 hr.2.2.2.2.2 (fun _ _ _ _ h => h)
theorem pq_X11_keep {Z : jZ} {I : jI} {L : jL} (w : WD Z I) (v0 : Nat) (v1 : Int32) (kv0 : jk Z v0 11) (uA uS : Nat) (hA : jr Z v0 3 = some uA) (hS : jr Z v0 8 = some uS) : f_X11_keep v0 v1 Z I L (fun r I' _ => KBP Z I I' v0 uA uS v1 r.toInt) := pl_X11_keep w v0 v1 kv0 uA uS hA hS (fun _ _ _ _ _ h => h)
theorem pq_X12_again {Z : jZ} {I : jI} {L : jL} (w : WD Z I) (v0 : Nat) (v1 : Int32) (k0 : jk Z v0 12) : f_X12_again v0 v1 Z I L (fun r I' _ => PGM Z v0 v1 r.toInt I I') := pl_X12_again w v0 v1 k0 (fun _ _ _ _ _ h => h)
theorem pq_X11_again {Z : jZ} {I : jI} {L : jL} (w : WD Z I) (v0 : Nat) (v1 : Int32) (kv0 : jk Z v0 11) (uA uS : Nat) (hA : jr Z v0 3 = some uA) (hS : jr Z v0 8 = some uS) : f_X11_again v0 v1 Z I L (fun r I' _ => AGP Z I I' v0 uA uS v1 r.toInt) := pl_X11_again w v0 v1 kv0 uA uS hA hS (fun _ _ _ _ _ h => h)
