/-! ===== what THE STAIRS tell: the contents ===== -/
/-- of a line from a on: RISE, STATE, ASKS, whether a WIDOW's, FAMILY -/
def lnV (g : Int → Int) (a : Int) : Nat → Int := fun j => match j with
  | 0 => nv g a
  | 1 => nv g (a + nd g a + 1)
  | 2 => nv g (a + nd g a + 1 + nd g (a + nd g a + 1) + 1)
  | 3 => if g (a + nd g a + 1 + nd g (a + nd g a + 1) + 1 + nd g (a + nd g a + 1 + nd g (a + nd g a + 1) + 1) + 1 + 1) = 119 then 1 else 0
  | _ => g (a + nd g a + 1 + nd g (a + nd g a + 1) + 1 + nd g (a + nd g a + 1 + nd g (a + nd g a + 1) + 1) + 1) - 48
/-- of a STEP, as the lines from a on say it (n told before) -/
def cS (g : Int → Int) : Nat → Int → Int → Nat → Nat → Int
  | 0, _, _, _, _ => 0
  | k + 1, a, n, j, s => if (s : Int) < n + (lnA g a n).2.2 then lnV g a j else cS g k ((lnA g a n).2.1 + 1) (n + (lnA g a n).2.2) j s
theorem cS_here {g : Int → Int} {k : Nat} {a n : Int} {j s : Nat} (h : (s : Int) < n + (lnA g a n).2.2) : cS g (k + 1) a n j s = lnV g a j := by
  show (if _ then _ else _) = _
  rw [if_pos h]
theorem cS_step {g : Int → Int} {k : Nat} {a n : Int} {j s : Nat} (h : ¬ (s : Int) < n + (lnA g a n).2.2) : cS g (k + 1) a n j s = cS g k ((lnA g a n).2.1 + 1) (n + (lnA g a n).2.2) j s := by
  show (if _ then _ else _) = _
  rw [if_neg h]
/-- the contents of a text of s signs -/
def cT (f : Nat → Int32) (s : Int) : Nat → Nat → Int := fun j q => cS (GS f (min s 76)) 77 0 0 j q
theorem cT_cong {f g : Nat → Int32} {s : Int} (h : ∀ i : Nat, (i : Int) < s → f i = g i) : cT f s = cT g s := by
  unfold cT
  rw [GS_cong (f := f) (g := g) (s := s) (lim := min s 76) (by omega) h]
/-- the class's reader holds them -/
def CNt (cc : Nat → Nat → Int) (Z : jZ) (I : jI) (v0 : Nat) (n : Int) : Prop := ∀ j u, j < 5 → jr Z v0 j = some u → ∀ s : Nat, (s : Int) < n → (I u s).toInt = cc j s
theorem CNt_fld {cc : Nat → Nat → Int} {Z : jZ} {I : jI} {v0 i : Nat} {n : Int} {x : Int32} (sh : SH Z) (k0 : jk Z v0 9) (h : CNt cc Z I v0 n) : CNt cc Z (jpI I v0 i x) v0 n := by
  intro j u hj hu s hs
  have ku : jk Z u 14 := by
    have hj : j = 0 ∨ j = 1 ∨ j = 2 ∨ j = 3 ∨ j = 4 := by omega
    rcases hj with rfl | rfl | rfl | rfl | rfl
    · obtain ⟨b, e, kb, -⟩ := sh_f sh k0 (j := 0) (k := 14) (m := 24) rfl; cases hu.symm.trans e; exact kb
    · obtain ⟨b, e, kb, -⟩ := sh_f sh k0 (j := 1) (k := 14) (m := 24) rfl; cases hu.symm.trans e; exact kb
    · obtain ⟨b, e, kb, -⟩ := sh_f sh k0 (j := 2) (k := 14) (m := 24) rfl; cases hu.symm.trans e; exact kb
    · obtain ⟨b, e, kb, -⟩ := sh_f sh k0 (j := 3) (k := 14) (m := 24) rfl; cases hu.symm.trans e; exact kb
    · obtain ⟨b, e, kb, -⟩ := sh_f sh k0 (j := 4) (k := 14) (m := 24) rfl; cases hu.symm.trans e; exact kb
  have hne : u ≠ v0 := fun e => by subst e; have := k0.2.symm.trans ku.2; omega
  rw [jpI_ne hne]
  exact h j u hj hu s hs
theorem ds_ne {Z : jZ} {v0 c j j' b b' : Nat} (u : UQ Z) (k : jk Z v0 c) (h : jr Z v0 j = some b) (h' : jr Z v0 j' = some b') (s : jsr c j = false) (s' : jsr c j' = false) (n : j ≠ j') : b ≠ b' := fun e => by
  subst e
  exact n (u.2.2 v0 c j v0 c j' b k k h h' s s').2
theorem ks_ne {Z : jZ} {a b c d : Nat} (h : jk Z a c) (g : jk Z b d) (n : c ≠ d) : a ≠ b := fun e => by
  subst e
  exact n (h.2.symm.trans g.2)
set_option maxHeartbeats 1000000 in
theorem rc_put1 {cc : Nat → Nat → Int} {Z : jZ} {I : jI} {L : jL} {v0 : Nat} {n : Int} {v1 v2 v3 v4 v5 : Int32} {Q : jI → jL → Prop} (w : WD Z I) (k0 : jk Z v0 9) (cn : CNt cc Z I v0 n) (sn : (I v0 5).toInt = n) (hn : 0 ≤ n ∧ n < 24) (h3 : 0 ≤ v3.toInt ∧ v3.toInt ≤ 20) (hv : cc 0 n.toNat = v1.toInt ∧ cc 1 n.toNat = v2.toInt ∧ cc 2 n.toNat = v3.toInt ∧ cc 3 n.toNat = v4.toInt ∧ cc 4 n.toNat = v5.toInt)
    (hQ : ∀ (I' : jI) (L' : jL), WD Z I' → FR Ws_X9_put Z I Z I' → (I' v0 5).toInt = n + 1 → CNt cc Z I' v0 (n + 1) → Q I' L') : f_X9_put v0 v1 v2 v3 v4 v5 Z I L Q := by
  unfold f_X9_put
  refine ⟨fun c => ?_, fun c => ?_⟩
  · have c := (i_le (show (24 : Int32).toInt = 24 from rfl) sn).mp c
    omega
  obtain ⟨u0, hu0, ku0, l0⟩ := sh_f w.1 k0 (j := 0) (k := 14) (m := 24) rfl
  have n0 : v0 ≠ u0 := ks_ne k0 ku0 (by decide)
  obtain ⟨u1, hu1, ku1, l1⟩ := sh_f w.1 k0 (j := 1) (k := 14) (m := 24) rfl
  have n1 : v0 ≠ u1 := ks_ne k0 ku1 (by decide)
  obtain ⟨u2, hu2, ku2, l2⟩ := sh_f w.1 k0 (j := 2) (k := 14) (m := 24) rfl
  have n2 : v0 ≠ u2 := ks_ne k0 ku2 (by decide)
  obtain ⟨u3, hu3, ku3, l3⟩ := sh_f w.1 k0 (j := 3) (k := 14) (m := 24) rfl
  have n3 : v0 ≠ u3 := ks_ne k0 ku3 (by decide)
  obtain ⟨u4, hu4, ku4, l4⟩ := sh_f w.1 k0 (j := 4) (k := 14) (m := 24) rfl
  have n4 : v0 ≠ u4 := ks_ne k0 ku4 (by decide)
  have s0 : I v0 5 = I v0 5 := rfl
  intro b0 e0
  cases hu0.symm.trans e0
  refine ⟨vi_of (x := I v0 5) (A := n) (by rw [s0]; exact sn) (by omega) (by omega), ?_⟩
  intro J0 x0
  have y0 : WD Z J0 := by rw [x0]; exact WD_putA w 9 0 k0 hu0 ku0 rfl rfl (by decide) trivial
  have g0 : FR Ws_X9_put Z I Z J0 := by rw [x0]; exact FR_upA w.2.1 k0 hu0 ku0 rfl rfl (by decide)
  have t0 : J0 v0 5 = I v0 5 := by rw [x0, jpI_ne n0]
  intro b1 e1
  cases hu1.symm.trans e1
  refine ⟨vi_of (x := J0 v0 5) (A := n) (by rw [t0]; exact sn) (by omega) (by omega), ?_⟩
  intro J1 x1
  rw [t0] at x1
  have y1 : WD Z J1 := by rw [x1]; exact WD_putA y0 9 1 k0 hu1 ku1 rfl rfl (by decide) trivial
  have g1 : FR Ws_X9_put Z I Z J1 := g0.trans w.1 w.2.1 (by rw [x1]; exact FR_upA y0.2.1 k0 hu1 ku1 rfl rfl (by decide))
  have t1 : J1 v0 5 = I v0 5 := by rw [x1, jpI_ne n1]; exact t0
  intro b2 e2
  cases hu2.symm.trans e2
  refine ⟨vi_of (x := J1 v0 5) (A := n) (by rw [t1]; exact sn) (by omega) (by omega), ?_⟩
  intro J2 x2
  rw [t1] at x2
  have y2 : WD Z J2 := by rw [x2]; exact WD_putA y1 9 2 k0 hu2 ku2 rfl rfl (by decide) h3
  have g2 : FR Ws_X9_put Z I Z J2 := g1.trans w.1 w.2.1 (by rw [x2]; exact FR_upA y1.2.1 k0 hu2 ku2 rfl rfl (by decide))
  have t2 : J2 v0 5 = I v0 5 := by rw [x2, jpI_ne n2]; exact t1
  intro b3 e3
  cases hu3.symm.trans e3
  refine ⟨vi_of (x := J2 v0 5) (A := n) (by rw [t2]; exact sn) (by omega) (by omega), ?_⟩
  intro J3 x3
  rw [t2] at x3
  have y3 : WD Z J3 := by rw [x3]; exact WD_putA y2 9 3 k0 hu3 ku3 rfl rfl (by decide) trivial
  have g3 : FR Ws_X9_put Z I Z J3 := g2.trans w.1 w.2.1 (by rw [x3]; exact FR_upA y2.2.1 k0 hu3 ku3 rfl rfl (by decide))
  have t3 : J3 v0 5 = I v0 5 := by rw [x3, jpI_ne n3]; exact t2
  intro b4 e4
  cases hu4.symm.trans e4
  refine ⟨vi_of (x := J3 v0 5) (A := n) (by rw [t3]; exact sn) (by omega) (by omega), ?_⟩
  intro J4 x4
  rw [t3] at x4
  have y4 : WD Z J4 := by rw [x4]; exact WD_putA y3 9 4 k0 hu4 ku4 rfl rfl (by decide) trivial
  have g4 : FR Ws_X9_put Z I Z J4 := g3.trans w.1 w.2.1 (by rw [x4]; exact FR_upA y3.2.1 k0 hu4 ku4 rfl rfl (by decide))
  have t4 : J4 v0 5 = I v0 5 := by rw [x4, jpI_ne n4]; exact t3
  intro J e
  have z1 : (1 : Int32).toInt = 1 := rfl
  have tJ : (J v0 5).toInt = n + 1 := by rw [e, jpI_at, t4]; exact i_add sn z1 (by omega) (by omega)
  have wJ : WD Z J := by rw [e]; exact WD_putF y4 9 5 k0 (by decide) (by decide) (show rg 0 24 _ by rw [t4]; constructor <;> rw [i_add sn z1 (by omega) (by omega)] <;> omega)
  have fJ : FR Ws_X9_put Z I Z J := g4.trans w.1 w.2.1 (by rw [e]; exact FR_putF k0 (by decide) (by decide))
  have hN : (I v0 5).toNatClampNeg = n.toNat := by show (I v0 5).toInt.toNat = n.toNat; rw [sn]
  have key : ∀ j u, j < 5 → jr Z v0 j = some u → J u = upd (I u) n.toNat (match j with | 0 => v1 | 1 => v2 | 2 => v3 | 3 => v4 | _ => v5) := by
    intro j u hj hu
    have hj : j = 0 ∨ j = 1 ∨ j = 2 ∨ j = 3 ∨ j = 4 := by omega
    rcases hj with rfl | rfl | rfl | rfl | rfl
    · cases hu0.symm.trans hu
      have b9 : I u0 = I u0 := rfl
      rw [e, jpI_ne (fun e9 => n0 e9.symm), x4, jpI_ne (ds_ne w.2.1 k0 hu0 hu4 rfl rfl (by decide)), x3, jpI_ne (ds_ne w.2.1 k0 hu0 hu3 rfl rfl (by decide)), x2, jpI_ne (ds_ne w.2.1 k0 hu0 hu2 rfl rfl (by decide)), x1, jpI_ne (ds_ne w.2.1 k0 hu0 hu1 rfl rfl (by decide)), x0, ← b9, hN]
      exact va_up_self _ _ _
    · cases hu1.symm.trans hu
      have b9 : J0 u1 = I u1 := by rw [x0, jpI_ne (ds_ne w.2.1 k0 hu1 hu0 rfl rfl (by decide))]
      rw [e, jpI_ne (fun e9 => n1 e9.symm), x4, jpI_ne (ds_ne w.2.1 k0 hu1 hu4 rfl rfl (by decide)), x3, jpI_ne (ds_ne w.2.1 k0 hu1 hu3 rfl rfl (by decide)), x2, jpI_ne (ds_ne w.2.1 k0 hu1 hu2 rfl rfl (by decide)), x1, ← b9, hN]
      exact va_up_self _ _ _
    · cases hu2.symm.trans hu
      have b9 : J1 u2 = I u2 := by rw [x1, jpI_ne (ds_ne w.2.1 k0 hu2 hu1 rfl rfl (by decide)), x0, jpI_ne (ds_ne w.2.1 k0 hu2 hu0 rfl rfl (by decide))]
      rw [e, jpI_ne (fun e9 => n2 e9.symm), x4, jpI_ne (ds_ne w.2.1 k0 hu2 hu4 rfl rfl (by decide)), x3, jpI_ne (ds_ne w.2.1 k0 hu2 hu3 rfl rfl (by decide)), x2, ← b9, hN]
      exact va_up_self _ _ _
    · cases hu3.symm.trans hu
      have b9 : J2 u3 = I u3 := by rw [x2, jpI_ne (ds_ne w.2.1 k0 hu3 hu2 rfl rfl (by decide)), x1, jpI_ne (ds_ne w.2.1 k0 hu3 hu1 rfl rfl (by decide)), x0, jpI_ne (ds_ne w.2.1 k0 hu3 hu0 rfl rfl (by decide))]
      rw [e, jpI_ne (fun e9 => n3 e9.symm), x4, jpI_ne (ds_ne w.2.1 k0 hu3 hu4 rfl rfl (by decide)), x3, ← b9, hN]
      exact va_up_self _ _ _
    · cases hu4.symm.trans hu
      have b9 : J3 u4 = I u4 := by rw [x3, jpI_ne (ds_ne w.2.1 k0 hu4 hu3 rfl rfl (by decide)), x2, jpI_ne (ds_ne w.2.1 k0 hu4 hu2 rfl rfl (by decide)), x1, jpI_ne (ds_ne w.2.1 k0 hu4 hu1 rfl rfl (by decide)), x0, jpI_ne (ds_ne w.2.1 k0 hu4 hu0 rfl rfl (by decide))]
      rw [e, jpI_ne (fun e9 => n4 e9.symm), x4, ← b9, hN]
      exact va_up_self _ _ _
  refine hQ J L wJ fJ tJ (fun j u hj hu s hs => ?_)
  rw [key j u hj hu]
  by_cases q : s = n.toNat
  · rw [q]
    refine (congrArg Int32.toInt (if_pos rfl)).trans ?_
    have hj : j = 0 ∨ j = 1 ∨ j = 2 ∨ j = 3 ∨ j = 4 := by omega
    rcases hj with rfl | rfl | rfl | rfl | rfl
    · exact hv.1.symm
    · exact hv.2.1.symm
    · exact hv.2.2.1.symm
    · exact hv.2.2.2.1.symm
    · exact hv.2.2.2.2.symm
  · refine (congrArg Int32.toInt (if_neg q)).trans ?_
    exact cn j u hj hu s (by omega)
/-- the reference's rows hold them -/
def CM (cc : Nat → Nat → Int) (Z : jZ) (I : jI) (v0 : Nat) (n : Int) : Prop := ∀ u, jr Z v0 28 = some u → ∀ s : Nat, (s : Int) < n → (I u (5 * s)).toInt = cc 0 s ∧ (I u (5 * s + 1)).toInt = cc 1 s ∧ (I u (5 * s + 2)).toInt = cc 2 s ∧ (I u (5 * s + 3)).toInt = cc 4 s ∧ (I u (5 * s + 4)).toInt = cc 3 s
theorem CM_fld {cc : Nat → Nat → Int} {Z : jZ} {I : jI} {v0 i : Nat} {n : Int} {x : Int32} (sh : SH Z) (k0 : jk Z v0 12) (h : CM cc Z I v0 n) : CM cc Z (jpI I v0 i x) v0 n := by
  intro u hu s hs
  have ku : jk Z u 14 := by obtain ⟨b, e, kb, -⟩ := sh_f sh k0 (j := 28) (k := 14) (m := 120) rfl; cases hu.symm.trans e; exact kb
  have hne : u ≠ v0 := fun e => by subst e; have := k0.2.symm.trans ku.2; omega
  rw [jpI_ne hne]
  exact h u hu s hs
def RSc (cc : Nat → Nat → Int) (Z : jZ) (I0 : jI) (v0 : Nat) (lim : Int) (I : jI) (a n F : Int) : Prop := (WD Z I ∧ CNt cc Z I v0 n) ∧ FR Ws_X9_read Z I0 Z I ∧ (I v0 6).toInt = a ∧ (I v0 5).toInt = n ∧ (I v0 8).toInt = F ∧ (I v0 7).toInt = lim
theorem RSc_txt {cc : Nat → Nat → Int} {Z : jZ} {I0 I : jI} {v0 v1 uB : Nat} {lim a n F : Int} (t : TX Z I0 v0 v1 uB lim) (s : RSc cc Z I0 v0 lim I a n F) : I v1 1 = I0 v1 1 ∧ I uB = I0 uB := by
  obtain ⟨w0, k0, k1, hB, kB, hl, hb⟩ := t
  exact ⟨s.2.1.2.2.1 v1 10 1 k1 (by decide) (by decide), s.2.1.2.2.2 v1 10 0 uB k1 hB (by rw [kB.2]; rfl) rfl (by decide)⟩
theorem RSc_put {cc : Nat → Nat → Int} {Z : jZ} {I0 I : jI} {v0 v1 uB j : Nat} {lim a n F : Int} {x : Int32} (t : TX Z I0 v0 v1 uB lim) (s : RSc cc Z I0 v0 lim I a n F) (hm : (9, j) ∈ Ws_X9_read) (ok : okF 9 j x) : (WD Z (jpI I v0 j x) ∧ CNt cc Z (jpI I v0 j x) v0 n) ∧ FR Ws_X9_read Z I0 Z (jpI I v0 j x) := by
  obtain ⟨w0, k0, k1, hB, kB, hl, hb⟩ := t
  exact ⟨⟨WD_putF s.1.1 9 j k0 (by decide) (by decide) ok, CNt_fld w0.1 k0 s.1.2⟩, s.2.1.trans w0.1 w0.2.1 (FR_putF k0 (by decide) hm)⟩
theorem RSc_at {cc : Nat → Nat → Int} {Z : jZ} {I0 I : jI} {v0 v1 uB : Nat} {lim a n F : Int} {y : Int32} {d : Int} (t : TX Z I0 v0 v1 uB lim) (s : RSc cc Z I0 v0 lim I a n F) (hy : y.toInt = d) (h1 : -1000 ≤ a + d) (h2 : a + d ≤ 1000) : RSc cc Z I0 v0 lim (jpI I v0 6 ((I v0 6) + y)) (a + d) n F := by
  obtain ⟨g1, g2⟩ := RSc_put (j := 6) (x := (I v0 6) + y) t s (by decide) trivial
  refine ⟨g1, g2, ?_, ?_, ?_, ?_⟩
  · rw [jpI_at]; exact i_add s.2.2.1 hy (by omega) (by omega)
  · rw [jpI_o (by decide)]; exact s.2.2.2.1
  · rw [jpI_o (by decide)]; exact s.2.2.2.2.1
  · rw [jpI_o (by decide)]; exact s.2.2.2.2.2
theorem rc_fail {cc : Nat → Nat → Int} {Z : jZ} {I0 I : jI} {L : jL} {v0 v1 uB : Nat} {lim a n F : Int} {y : Int32} {Q : Int32 → jI → jL → Prop} (t : TX Z I0 v0 v1 uB lim) (s : RSc cc Z I0 v0 lim I a n F) (h : ∀ I', RSc cc Z I0 v0 lim I' a n y.toInt → Q 0 I' L) : f_X9_fail v0 y Z I L Q := by
  unfold f_X9_fail
  intro I1 e1
  obtain ⟨g1, g2⟩ := RSc_put (j := 8) (x := y) t s (by decide) trivial
  rw [e1]
  refine h _ ⟨g1, g2, ?_, ?_, ?_, ?_⟩
  · rw [jpI_o (by decide)]; exact s.2.2.1
  · rw [jpI_o (by decide)]; exact s.2.2.2.1
  · rw [jpI_at]
  · rw [jpI_o (by decide)]; exact s.2.2.2.2.2
theorem rc_look {cc : Nat → Nat → Int} {Z : jZ} {I0 I : jI} {L : jL} {v0 v1 uB : Nat} {lim a n F : Int} {Q : Int32 → jI → jL → Prop} (t : TX Z I0 v0 v1 uB lim) (s : RSc cc Z I0 v0 lim I a n F) (h0 : 0 ≤ a) (h : ∀ r : Int32, CLk (GS (I0 uB) lim a) r.toInt → Q r I L) : f_X9_look v0 v1 Z I L Q := by
  obtain ⟨e1, e2⟩ := RSc_txt t s
  obtain ⟨w0, k0, k1, hB, kB, hl, hb⟩ := t
  obtain ⟨w, f, sa, sn, sF, sl⟩ := s
  unfold f_X9_look
  refine ⟨fun c => h _ ?_, fun c => ?_⟩
  · exact CLk_out ((i_le sl sa).mp c)
  have c := (not_congr (i_le sl sa)).mp c
  unfold f_X10_signAt
  refine ⟨fun c1 => ?_, fun c1 => ⟨fun c2 => ?_, fun c2 => ⟨fun c3 => ?_, fun c3 => ?_⟩⟩⟩
  · have := (i_lt sa (show (0 : Int32).toInt = 0 from rfl)).mp c1
    omega
  · rw [e1] at c2
    have := (i_le rfl sa).mp c2
    omega
  · have := (i_le (show (80 : Int32).toInt = 80 from rfl) sa).mp c3
    omega
  · intro b eb
    cases hB.symm.trans eb
    refine ⟨vi_of sa (by omega) (by omega), h _ ?_⟩
    rw [e2]
    have := CLk_in (f := I0 uB) (lim := lim) (x := I v0 6) hb (by omega) (by omega)
    rw [sa] at this
    exact this
theorem rc_mark {cc : Nat → Nat → Int} {Z : jZ} {I0 I : jI} {L : jL} {v0 v1 uB : Nat} {lim a n F : Int} {c : Int32} {k : Int} {Q : Int32 → jI → jL → Prop} (t : TX Z I0 v0 v1 uB lim) (s : RSc cc Z I0 v0 lim I a n F) (h0 : 0 ≤ a ∧ a ≤ 100) (hk : c.toInt = k) (hc : 0 ≤ k ∧ k ≤ 127) (h1 : GS (I0 uB) lim a = k → ∀ I', RSc cc Z I0 v0 lim I' (a + 1) n F → Q 1 I' L) (h2 : GS (I0 uB) lim a ≠ k → ∀ I', RSc cc Z I0 v0 lim I' a n a → Q 0 I' L) : f_X9_readMark v0 v1 c Z I L Q := by
  unfold f_X9_readMark
  refine rc_look t s h0.1 (fun r hr => ⟨fun e => ?_, fun e => ?_⟩)
  · intro I9 e9
    rw [e9]
    refine h1 ?_ _ (RSc_at t s (show (1 : Int32).toInt = 1 from rfl) (by omega) (by omega))
    subst e
    unfold CLk at hr
    omega
  · refine rc_fail t s (fun I' s' => ?_)
    rw [s.2.2.1] at s'
    refine h2 (fun q => e ((i_eq rfl rfl).mpr ?_)) _ s'
    have := hr.1 (by omega)
    omega
theorem rc_break {cc : Nat → Nat → Int} {Z : jZ} {I0 I : jI} {L : jL} {v0 v1 uB : Nat} {lim a n F : Int} {Q : Int32 → jI → jL → Prop} (t : TX Z I0 v0 v1 uB lim) (s : RSc cc Z I0 v0 lim I a n F) (h0 : 0 ≤ a ∧ a ≤ 100) (h1 : a < lim → GS (I0 uB) lim a = 59 → ∀ I', RSc cc Z I0 v0 lim I' (a + 1) n F → Q 1 I' L) (h2 : a < lim → GS (I0 uB) lim a ≠ 59 → ∀ I', RSc cc Z I0 v0 lim I' a n a → Q 0 I' L) (h3 : lim ≤ a → Q 0 I L) : f_X9_readBreak v0 v1 Z I L Q := by
  unfold f_X9_readBreak
  refine ⟨fun c => h3 ((i_le s.2.2.2.2.2 s.2.2.1).mp c), fun c => ?_⟩
  have c := (not_congr (i_le s.2.2.2.2.2 s.2.2.1)).mp c
  refine rc_mark (k := 59) t s h0 rfl (by decide) (fun g I' s' => ⟨fun e => absurd e (by decide), fun _ => h1 (by omega) g I' s'⟩) (fun g I' s' => ⟨fun _ => h2 (by omega) g I' s', fun e => absurd rfl e⟩)
theorem rc_num {cc : Nat → Nat → Int} {Z : jZ} {I0 : jI} {L : jL} {v0 v1 uB : Nat} {lim a n F : Int} {v2 v3 : Int32} {Q : Int32 → jI → jL → Prop} (t : TX Z I0 v0 v1 uB lim) (h0 : 0 ≤ a ∧ a ≤ 100)
    (h1 : 1 ≤ nd (GS (I0 uB) lim) a ∧ v2.toInt ≤ nv (GS (I0 uB) lim) a ∧ nv (GS (I0 uB) lim) a ≤ v3.toInt → ∀ (r : Int32) I', r.toInt = nv (GS (I0 uB) lim) a → RSc cc Z I0 v0 lim I' (a + nd (GS (I0 uB) lim) a) n F → Q r I' L)
    (h2 : ¬ (1 ≤ nd (GS (I0 uB) lim) a ∧ v2.toInt ≤ nv (GS (I0 uB) lim) a ∧ nv (GS (I0 uB) lim) a ≤ v3.toInt) → ∀ I', RSc cc Z I0 v0 lim I' (a + nd (GS (I0 uB) lim) a) n (nbad (GS (I0 uB) lim) a) → Q (-1) I' L) :
    ∀ (m : Nat) (v4 v5 : Int32) (p : Int) (I : jI), RSc cc Z I0 v0 lim I p n F → NI (GS (I0 uB) lim) a v5.toInt v4.toInt p → 3 - v5.toInt ≤ (m : Int) → f_X9_readNumber_L6 Z Q m v0 v1 v2 v3 v4 v5 I L := by
  have fin : ∀ (v4 v5 : Int32) (I : jI), RSc cc Z I0 v0 lim I (a + nd (GS (I0 uB) lim) a) n F → nd (GS (I0 uB) lim) a = v5.toInt → nv (GS (I0 uB) lim) a = v4.toInt → f_X9_readNumber_b55 Z Q v0 v2 v3 v4 v5 I L := by
    intro v4 v5 I s e1 e2
    have nr := nd_rng (GS (I0 uB) lim) a
    have nb := nbad_eq (GS (I0 uB) lim) a
    have bad : ¬ (1 ≤ nd (GS (I0 uB) lim) a ∧ v2.toInt ≤ nv (GS (I0 uB) lim) a ∧ nv (GS (I0 uB) lim) a ≤ v3.toInt) → f_X9_readNumber_b77 Z Q v0 v4 v5 0 I L := by
      intro hb
      unfold f_X9_readNumber_b77
      refine ⟨fun c => absurd rfl c, fun _ => ⟨fun c => ?_, fun c => ?_⟩⟩
      · unfold f_X9_readNumber_b103
        refine rc_fail t s (fun I' s' => ?_)
        unfold f_X9_readNumber_b107
        refine ⟨fun _ => h2 hb I' ?_, fun c => absurd rfl c⟩
        have hc := (not_congr (i_eq (x := v5) (y := 0) rfl (show (0 : Int32).toInt = 0 from rfl))).mp c
        have : ((I v0 6) - (1 : Int32)).toInt = nbad (GS (I0 uB) lim) a := (i_sub s.2.2.1 (show (1 : Int32).toInt = 1 from rfl) (by omega) (by omega)).trans (by omega)
        rw [this] at s'
        exact s'
      · unfold f_X9_readNumber_b103
        refine rc_fail t s (fun I' s' => ?_)
        unfold f_X9_readNumber_b107
        refine ⟨fun _ => h2 hb I' ?_, fun c => absurd rfl c⟩
        have hc := (i_eq (x := v5) (y := 0) rfl (show (0 : Int32).toInt = 0 from rfl)).mp c
        have : (I v0 6).toInt = nbad (GS (I0 uB) lim) a := s.2.2.1.trans (by omega)
        rw [this] at s'
        exact s'
    unfold f_X9_readNumber_b55 f_X9_readNumber_b76
    refine ⟨fun c => bad ?_, fun c => ⟨fun c1 => bad ?_, fun c1 => ⟨fun c2 => bad ?_, fun c2 => ?_⟩⟩⟩
    · have := (i_le (x := v5) (y := 0) rfl (show (0 : Int32).toInt = 0 from rfl)).mp c
      omega
    · have := (i_lt (x := v4) (y := v2) rfl rfl).mp c1
      omega
    · have := (i_lt (x := v3) (y := v4) rfl rfl).mp c2
      omega
    · have g := (not_congr (i_le (x := v5) (y := 0) rfl (show (0 : Int32).toInt = 0 from rfl))).mp c
      have g1 := (not_congr (i_lt (x := v4) (y := v2) rfl rfl)).mp c1
      have g2 := (not_congr (i_lt (x := v3) (y := v4) rfl rfl)).mp c2
      unfold f_X9_readNumber_b77
      refine ⟨fun _ => ?_, fun c => absurd c (by decide)⟩
      unfold f_X9_readNumber_b107
      exact ⟨fun c => absurd c (by decide), fun _ => h1 (by omega) v4 I (by omega) s⟩
  intro m
  induction m with
  | zero =>
    intro v4 v5 p I s hN hm
    exfalso
    obtain ⟨-, h | h | h⟩ := hN <;> omega
  | succ m ih =>
    intro v4 v5 p I s hN hm
    have hp : p = a + v5.toInt := hN.1
    have hd : 0 ≤ v5.toInt ∧ v5.toInt ≤ 2 := by obtain ⟨-, h | h | h⟩ := hN <;> omega
    have hv : 0 ≤ v4.toInt ∧ v4.toInt ≤ 99 := by obtain ⟨-, h | h | h⟩ := hN <;> omega
    unfold f_X9_readNumber_L6
    refine ⟨fun c => ?_, fun c => ?_⟩
    · have c := (i_le (x := 2) (y := v5) (show (2 : Int32).toInt = 2 from rfl) rfl).mp c
      obtain ⟨g1, g2, g3⟩ := NI_end hN (Or.inl (by omega))
      rw [g3, ← g1] at s
      exact fin v4 v5 I s g1 g2
    have c := (not_congr (i_le (x := 2) (y := v5) (show (2 : Int32).toInt = 2 from rfl) rfl)).mp c
    refine rc_look t s (by omega) (fun r hr => ?_)
    unfold f_X10_isDigit
    have stop : ¬ (48 ≤ GS (I0 uB) lim p ∧ GS (I0 uB) lim p ≤ 57) → f_X9_readNumber_b55 Z Q v0 v2 v3 v4 v5 I L := fun hn => by
      obtain ⟨g1, g2, g3⟩ := NI_end hN (Or.inr hn)
      rw [g3, ← g1] at s
      exact fin v4 v5 I s g1 g2
    refine ⟨fun c1 => ?_, fun c1 => ⟨fun c2 => ?_, fun c2 => ?_⟩⟩
    · have c1 := (i_lt (x := r) (y := 48) rfl (show (48 : Int32).toInt = 48 from rfl)).mp c1
      exact ⟨fun _ => stop (fun q => by have := hr.1 (by omega); omega), fun e => absurd rfl e⟩
    · have c2 := (i_lt (x := 57) (y := r) (show (57 : Int32).toInt = 57 from rfl) rfl).mp c2
      exact ⟨fun _ => stop (fun q => by have := hr.1 (by omega); omega), fun e => absurd rfl e⟩
    · have c1 := (not_congr (i_lt (x := r) (y := 48) rfl (show (48 : Int32).toInt = 48 from rfl))).mp c1
      have c2 := (not_congr (i_lt (x := 57) (y := r) (show (57 : Int32).toInt = 57 from rfl) rfl)).mp c2
      have hg : GS (I0 uB) lim p = r.toInt := by unfold CLk at hr; omega
      refine ⟨fun e => absurd e (by decide), fun _ => ?_⟩
      refine rc_look t s (by omega) (fun r2 hr2 => ?_)
      have hg2 : r2.toInt = r.toInt := by have := hr2.1 (by omega); omega
      intro x37 e37 I38 e38 x39 e39
      rw [e38]
      have d37 : x37.toInt = v4.toInt * 10 + GS (I0 uB) lim p - 48 := by
        rw [e37]
        exact (i_sub (i_add (i_mul (x := v4) rfl (show (10 : Int32).toInt = 10 from rfl) (by omega) (by omega)) hg2 (by omega) (by omega)) (show (48 : Int32).toInt = 48 from rfl) (by omega) (by omega)).trans (by omega)
      have d39 : x39.toInt = v5.toInt + 1 := by
        rw [e39]
        exact i_add rfl (show (1 : Int32).toInt = 1 from rfl) (by omega) (by omega)
      exact ih x37 x39 (p + 1) _ (RSc_at t s (show (1 : Int32).toInt = 1 from rfl) (by omega) (by omega)) (NI_step hN (by omega) (by omega) d39 d37 rfl) (by omega)
theorem rc_number {cc : Nat → Nat → Int} {Z : jZ} {I0 I : jI} {L : jL} {v0 v1 uB : Nat} {lim a n F lo hi : Int} {v2 v3 : Int32} {Q : Int32 → jI → jL → Prop} (t : TX Z I0 v0 v1 uB lim) (s : RSc cc Z I0 v0 lim I a n F) (h0 : 0 ≤ a ∧ a ≤ 100) (e2 : v2.toInt = lo) (e3 : v3.toInt = hi)
    (h1 : 1 ≤ nd (GS (I0 uB) lim) a ∧ lo ≤ nv (GS (I0 uB) lim) a ∧ nv (GS (I0 uB) lim) a ≤ hi → ∀ (r : Int32) I', r.toInt = nv (GS (I0 uB) lim) a → RSc cc Z I0 v0 lim I' (a + nd (GS (I0 uB) lim) a) n F → Q r I' L)
    (h2 : ¬ (1 ≤ nd (GS (I0 uB) lim) a ∧ lo ≤ nv (GS (I0 uB) lim) a ∧ nv (GS (I0 uB) lim) a ≤ hi) → ∀ I', RSc cc Z I0 v0 lim I' (a + nd (GS (I0 uB) lim) a) n (nbad (GS (I0 uB) lim) a) → Q (-1) I' L) : f_X9_readNumber v0 v1 v2 v3 Z I L Q := by
  subst e2; subst e3
  unfold f_X9_readNumber
  have z : (0 : Int32).toInt = 0 := rfl
  exact ⟨3, rc_num t h0 h1 h2 3 0 0 a I s (by rw [z]; exact NI_0) (by rw [z]; omega)⟩
theorem rc_family {cc : Nat → Nat → Int} {Z : jZ} {I0 I : jI} {L : jL} {v0 v1 uB : Nat} {lim a n F : Int} {Q : Int32 → jI → jL → Prop} (t : TX Z I0 v0 v1 uB lim) (s : RSc cc Z I0 v0 lim I a n F) (h0 : 0 ≤ a ∧ a ≤ 100)
    (h1 : 48 ≤ GS (I0 uB) lim a ∧ GS (I0 uB) lim a ≤ 55 → ∀ (r : Int32) I', r.toInt = GS (I0 uB) lim a - 48 → RSc cc Z I0 v0 lim I' (a + 1) n F → Q r I' L)
    (h2 : ¬ (48 ≤ GS (I0 uB) lim a ∧ GS (I0 uB) lim a ≤ 55) → ∀ I', RSc cc Z I0 v0 lim I' a n a → Q (-1) I' L) : f_X9_readFamily v0 v1 Z I L Q := by
  unfold f_X9_readFamily
  refine rc_look t s h0.1 (fun r hr => ?_)
  have rr := i_rng r
  intro x8 e8
  have hbig : r.toInt ≤ 255 ∨ 255 < r.toInt := by omega
  have hr2 : -1 ≤ r.toInt := by
    have gr := GS_rng (f := I0 uB) (lim := lim) (a := a) t.2.2.2.2.2.2
    unfold CLk at hr
    omega
  have d8 : x8.toInt = r.toInt - 48 := by
    rw [e8]
    exact i_sub rfl (show (48 : Int32).toInt = 48 from rfl) (by omega) (by omega)
  refine s_X11_isFamily s.1.1 x8 (fun r15 p15 => ⟨fun c => ?_, fun c => ?_⟩)
  · intro I17 e17
    rw [e17]
    have c := (not_congr (i_eq (x := r15) (y := 0) rfl (show (0 : Int32).toInt = 0 from rfl))).mp c
    have hg : GS (I0 uB) lim a = r.toInt := by unfold CLk at hr; omega
    exact h1 (by omega) x8 _ (by omega) (RSc_at t s (show (1 : Int32).toInt = 1 from rfl) (by omega) (by omega))
  · have c := (i_eq (x := r15) (y := 0) rfl (show (0 : Int32).toInt = 0 from rfl)).mp c
    refine rc_fail t s (fun I' s' => ?_)
    rw [s.2.2.1] at s'
    refine h2 (fun q => ?_) I' s'
    have := hr.1 (by omega)
    omega
theorem rc_times {cc : Nat → Nat → Int} {Z : jZ} {I0 I : jI} {L : jL} {v0 v1 uB : Nat} {lim a n F : Int} {Q : Int32 → jI → jL → Prop} (t : TX Z I0 v0 v1 uB lim) (s : RSc cc Z I0 v0 lim I a n F) (h0 : 0 ≤ a ∧ a ≤ 99) (hn : 0 ≤ n ∧ n ≤ 24)
    (h1 : GS (I0 uB) lim a ≠ 42 → Q 1 I L)
    (h2 : GS (I0 uB) lim a = 42 → 1 ≤ nd (GS (I0 uB) lim) (a + 1) ∧ 1 ≤ nv (GS (I0 uB) lim) (a + 1) ∧ nv (GS (I0 uB) lim) (a + 1) ≤ 24 - n → ∀ (r : Int32) I', r.toInt = nv (GS (I0 uB) lim) (a + 1) → RSc cc Z I0 v0 lim I' (a + 1 + nd (GS (I0 uB) lim) (a + 1)) n F → Q r I' L)
    (h3 : GS (I0 uB) lim a = 42 → ¬ (1 ≤ nd (GS (I0 uB) lim) (a + 1) ∧ 1 ≤ nv (GS (I0 uB) lim) (a + 1) ∧ nv (GS (I0 uB) lim) (a + 1) ≤ 24 - n) → ∀ I', RSc cc Z I0 v0 lim I' (a + 1 + nd (GS (I0 uB) lim) (a + 1)) n (nbad (GS (I0 uB) lim) (a + 1)) → Q (-1) I' L) : f_X9_readTimes v0 v1 Z I L Q := by
  unfold f_X9_readTimes
  refine rc_look t s h0.1 (fun r hr => ⟨fun c => ?_, fun c => ?_⟩)
  · have c := (i_eq (x := r) (y := 42) rfl (show (42 : Int32).toInt = 42 from rfl)).mp c
    have hg : GS (I0 uB) lim a = 42 := by unfold CLk at hr; omega
    intro I9 e9
    rw [e9]
    have s9 := RSc_at t s (show (1 : Int32).toInt = 1 from rfl) (by omega) (by omega)
    refine rc_number (lo := 1) (hi := 24 - n) t s9 (by omega) rfl (i_sub (show (24 : Int32).toInt = 24 from rfl) s9.2.2.2.1 (by omega) (by omega)) (fun g r I' e s' => h2 hg g r I' e s') (fun g I' s' => h3 hg g I' s')
  · refine h1 (fun q => c ((i_eq rfl (show (42 : Int32).toInt = 42 from rfl)).mpr ?_))
    have := hr.1 (by omega)
    omega
theorem rc_puts {cc : Nat → Nat → Int} {Z : jZ} {I0 : jI} {v0 v1 uB : Nat} {lim a n F : Int} {v2 v3 v4 v5 v6 v7 : Int32} {Q : Int32 → jI → jL → Prop} (t : TX Z I0 v0 v1 uB lim) (h4 : 0 ≤ v4.toInt ∧ v4.toInt ≤ 20) (h7 : 1 ≤ v7.toInt ∧ n + v7.toInt ≤ 24 ∧ 0 ≤ n)
    (hcv : ∀ q : Nat, n ≤ (q : Int) → (q : Int) < n + v7.toInt → cc 0 q = v2.toInt ∧ cc 1 q = v3.toInt ∧ cc 2 q = v4.toInt ∧ cc 3 q = v6.toInt ∧ cc 4 q = v5.toInt)
    (hQ : ∀ I' L', RSc cc Z I0 v0 lim I' a (n + v7.toInt) F → Q 1 I' L') :
    ∀ (m : Nat) (v8 : Int32) (I : jI) (L : jL), RSc cc Z I0 v0 lim I a (n + v8.toInt) F → 0 ≤ v8.toInt → v8.toInt ≤ v7.toInt → v7.toInt - v8.toInt < (m : Int) → f_X9_readLine_L151 Z Q m v0 v2 v3 v4 v5 v6 v7 v8 I L := by
  intro m
  induction m with
  | zero => intro v8 I L s h1 h2 h3; exfalso; omega
  | succ m ih =>
    intro v8 I L s h1 h2 h3
    unfold f_X9_readLine_L151
    refine ⟨fun c => ⟨fun e => ?_, fun _ => ?_⟩, fun c => ?_⟩
    · have := (i_eq (x := v7) (y := -1) rfl (show (-1 : Int32).toInt = -1 from rfl)).mp e
      omega
    · have c := (i_le (x := v7) (y := v8) rfl rfl).mp c
      rw [show v8.toInt = v7.toInt by omega] at s
      exact hQ I L s
    · have c := (not_congr (i_le (x := v7) (y := v8) rfl rfl)).mp c
      have k0 := t.2.1
      refine rc_put1 (n := n + v8.toInt) s.1.1 k0 s.1.2 s.2.2.2.1 (by omega) h4 (hcv (n + v8.toInt).toNat (by omega) (by omega)) (fun I5 L6 w5 f5 p5 c5 => ?_)
      intro x9 e9
      have d9 : x9.toInt = v8.toInt + 1 := by
        rw [e9]
        exact i_add rfl (show (1 : Int32).toInt = 1 from rfl) (by omega) (by omega)
      have sn := s.2.2.2.1
      refine ih x9 I5 L6 ⟨⟨w5, by rw [show n + x9.toInt = n + v8.toInt + 1 by omega]; exact c5⟩, s.2.1.trans t.1.1 t.1.2.1 (f5.mono (by decide)), ?_, ?_, ?_, ?_⟩ (by omega) (by omega) (by omega)
      · rw [f5.2.2.1 v0 9 6 k0 (by decide) (by decide)]; exact s.2.2.1
      · omega
      · rw [f5.2.2.1 v0 9 8 k0 (by decide) (by decide)]; exact s.2.2.2.2.1
      · rw [f5.2.2.1 v0 9 7 k0 (by decide) (by decide)]; exact s.2.2.2.2.2
theorem rc_lineE {cc : Nat → Nat → Int} {Z : jZ} {I0 I : jI} {L : jL} {v0 v1 uB : Nat} {lim a n : Int} {v2 v3 v4 v5 s0 : Int32} {d : Int} {Q : Int32 → jI → jL → Prop} (t : TX Z I0 v0 v1 uB lim) (s : RSc cc Z I0 v0 lim I a n (-1)) (hd : s0.toInt = d) (h0 : 0 ≤ a + d ∧ a + d ≤ 99) (hn : 0 ≤ n ∧ n < 24) (h4 : 0 ≤ v4.toInt ∧ v4.toInt ≤ 20)
    (hcv : ∀ q : Nat, n ≤ (q : Int) → (q : Int) < n + (lnE (GS (I0 uB) lim) (a + d) n).2.2 → cc 0 q = v2.toInt ∧ cc 1 q = v3.toInt ∧ cc 2 q = v4.toInt ∧ cc 3 q = s0.toInt ∧ cc 4 q = v5.toInt)
    (h1 : (lnE (GS (I0 uB) lim) (a + d) n).1 = -1 → ∀ I' L', RSc cc Z I0 v0 lim I' (lnE (GS (I0 uB) lim) (a + d) n).2.1 (n + (lnE (GS (I0 uB) lim) (a + d) n).2.2) (-1) → Q 1 I' L')
    (h2 : (lnE (GS (I0 uB) lim) (a + d) n).1 ≠ -1 → ∀ I' L' a', RSc cc Z I0 v0 lim I' a' n (lnE (GS (I0 uB) lim) (a + d) n).1 → Q 0 I' L') : f_X9_readLine_b128 Z Q v0 v1 v2 v3 v4 v5 s0 I L := by
  unfold f_X9_readLine_b128
  intro I10 e10
  rw [e10]
  have s1 := RSc_at t s hd (by omega) (by omega)
  have z : (0 : Int32).toInt = 0 := rfl
  refine rc_times t s1 h0 (by omega) (fun g => ?_) (fun g g1 r I' er s' => ?_) (fun g g1 I' s' => ?_)
  · have e : lnE (GS (I0 uB) lim) (a + d) n = (-1, a + d, 1) := by unfold lnE; rw [if_neg g]
    rw [e] at h1 hcv
    have o : (1 : Int32).toInt = 1 := rfl
    exact ⟨2, rc_puts (n := n) (v7 := 1) t h4 (by rw [o]; omega) (by rw [o]; exact hcv) (fun I' L' s' => h1 rfl I' L' (by rw [o] at s'; exact s')) 2 0 _ L (by rw [z]; rw [show n + 0 = n by omega]; exact s1) (by rw [z]; omega) (by rw [z, o]; omega) (by rw [z, o]; omega)⟩
  · have e : lnE (GS (I0 uB) lim) (a + d) n = (-1, a + d + 1 + nd (GS (I0 uB) lim) (a + d + 1), nv (GS (I0 uB) lim) (a + d + 1)) := by unfold lnE; rw [if_pos g, if_pos g1]
    rw [e] at h1 hcv
    exact ⟨r.toInt.toNat + 1, rc_puts (n := n) (v7 := r) t h4 (by omega) (by rw [er]; exact hcv) (fun I' L' s' => h1 rfl I' L' (by rw [er] at s'; exact s')) _ 0 _ L (by rw [z]; rw [show n + 0 = n by omega]; exact s') (by rw [z]; omega) (by rw [z]; omega) (by rw [z]; omega)⟩
  · have e : lnE (GS (I0 uB) lim) (a + d) n = (nbad (GS (I0 uB) lim) (a + d + 1), 0, 0) := by unfold lnE; rw [if_pos g, if_neg g1]
    rw [e] at h2
    have nb := nbad_eq (GS (I0 uB) lim) (a + d + 1)
    have nr := nd_rng (GS (I0 uB) lim) (a + d + 1)
    refine ⟨1, ?_⟩
    unfold f_X9_readLine_L151
    refine ⟨fun _ => ⟨fun _ => h2 (by show nbad _ _ ≠ -1; omega) I' L _ s', fun c => absurd rfl c⟩, fun c => ?_⟩
    exact absurd (by decide) c
theorem rc_line {cc : Nat → Nat → Int} {Z : jZ} {I0 I : jI} {L : jL} {v0 v1 uB : Nat} {lim a n : Int} {Q : Int32 → jI → jL → Prop} (t : TX Z I0 v0 v1 uB lim) (s : RSc cc Z I0 v0 lim I a n (-1)) (h0 : 0 ≤ a ∧ a ≤ 80) (hn : 0 ≤ n ∧ n ≤ 24)
    (hcv : ∀ q : Nat, n ≤ (q : Int) → (q : Int) < n + (lnA (GS (I0 uB) lim) a n).2.2 → ∀ j, cc j q = lnV (GS (I0 uB) lim) a j)
    (h1 : n < 24 → (lnA (GS (I0 uB) lim) a n).1 = -1 → ∀ I' L', RSc cc Z I0 v0 lim I' (lnA (GS (I0 uB) lim) a n).2.1 (n + (lnA (GS (I0 uB) lim) a n).2.2) (-1) → Q 1 I' L')
    (h2 : n < 24 → (lnA (GS (I0 uB) lim) a n).1 ≠ -1 → ∀ I' L' a', RSc cc Z I0 v0 lim I' a' n (lnA (GS (I0 uB) lim) a n).1 → Q 0 I' L')
    (h3 : 24 ≤ n → ∀ I', RSc cc Z I0 v0 lim I' a n a → Q 0 I' L) : f_X9_readLine v0 v1 Z I L Q := by
  unfold f_X9_readLine
  refine ⟨fun c => ?_, fun c => ?_⟩
  · have c := (i_lt s.2.2.2.1 (show (24 : Int32).toInt = 24 from rfl)).mp c
    have h1 := h1 c
    have h2 := h2 c
    have s0 := s
    have nb0 := nbad_eq (GS (I0 uB) lim) a
    have nr0 := nd_rng (GS (I0 uB) lim) a
    refine rc_number (lo := 1) (hi := 30) t s0 (by omega) rfl rfl (fun g0 r0 Ia0 e0 s1 => ⟨fun c => ?_, fun _ => ?_⟩) (fun g0 Ia0 s1 => ⟨fun _ => ?_, fun c => absurd rfl c⟩)
    rotate_left 2
    · have e : lnA (GS (I0 uB) lim) a n = (nbad (GS (I0 uB) lim) a, 0, 0) := by unfold lnA; rw [if_neg g0]
      rw [e] at h2
      exact h2 (by show nbad _ _ ≠ -1; omega) Ia0 L _ s1
    · have := (i_eq (x := r0) (y := -1) rfl (show (-1 : Int32).toInt = -1 from rfl)).mp c
      omega
    refine rc_mark (k := 44) t s1 (by omega) rfl (by decide) (fun m0 J0 s2 => ⟨fun _ => ?_, fun c => absurd c (by decide)⟩) (fun m0 J0 s2 => ⟨fun c => absurd rfl c, fun _ => ?_⟩)
    rotate_left
    · have e : lnA (GS (I0 uB) lim) a n = (a + nd (GS (I0 uB) lim) a, 0, 0) := by unfold lnA; rw [if_pos g0, if_neg m0]
      rw [e] at h2
      exact h2 (by show a + nd (GS (I0 uB) lim) a ≠ -1; omega) J0 L _ s2
    have elnA : lnA (GS (I0 uB) lim) a n = lnB (GS (I0 uB) lim) (a + nd (GS (I0 uB) lim) a + 1) n := by unfold lnA; rw [if_pos g0, if_pos m0]
    rw [elnA] at h1 h2 hcv
    obtain ⟨a2, eb⟩ : ∃ x, x = a + nd (GS (I0 uB) lim) a + 1 := ⟨_, rfl⟩
    rw [← eb] at h1 h2 s2 hcv
    have nb1 := nbad_eq (GS (I0 uB) lim) a2
    have nr1 := nd_rng (GS (I0 uB) lim) a2
    refine rc_number (lo := 0) (hi := 9) t s2 (by omega) rfl rfl (fun g1 r1 Ia1 e1 s3 => ⟨fun c => ?_, fun _ => ?_⟩) (fun g1 Ia1 s3 => ⟨fun _ => ?_, fun c => absurd rfl c⟩)
    rotate_left 2
    · have e : lnB (GS (I0 uB) lim) a2 n = (nbad (GS (I0 uB) lim) a2, 0, 0) := by unfold lnB; rw [if_neg g1]
      rw [e] at h2
      exact h2 (by show nbad _ _ ≠ -1; omega) Ia1 L _ s3
    · have := (i_eq (x := r1) (y := -1) rfl (show (-1 : Int32).toInt = -1 from rfl)).mp c
      omega
    refine rc_mark (k := 44) t s3 (by omega) rfl (by decide) (fun m1 J1 s4 => ⟨fun _ => ?_, fun c => absurd c (by decide)⟩) (fun m1 J1 s4 => ⟨fun c => absurd rfl c, fun _ => ?_⟩)
    rotate_left
    · have e : lnB (GS (I0 uB) lim) a2 n = (a2 + nd (GS (I0 uB) lim) a2, 0, 0) := by unfold lnB; rw [if_pos g1, if_neg m1]
      rw [e] at h2
      exact h2 (by show a2 + nd (GS (I0 uB) lim) a2 ≠ -1; omega) J1 L _ s4
    have elnB : lnB (GS (I0 uB) lim) a2 n = lnC (GS (I0 uB) lim) (a2 + nd (GS (I0 uB) lim) a2 + 1) n := by unfold lnB; rw [if_pos g1, if_pos m1]
    rw [elnB] at h1 h2 hcv
    obtain ⟨a3, ec⟩ : ∃ x, x = a2 + nd (GS (I0 uB) lim) a2 + 1 := ⟨_, rfl⟩
    rw [← ec] at h1 h2 s4 hcv
    have nb2 := nbad_eq (GS (I0 uB) lim) a3
    have nr2 := nd_rng (GS (I0 uB) lim) a3
    refine rc_number (lo := 0) (hi := 20) t s4 (by omega) rfl rfl (fun g2 r2 Ia2 e2 s5 => ⟨fun c => ?_, fun _ => ?_⟩) (fun g2 Ia2 s5 => ⟨fun _ => ?_, fun c => absurd rfl c⟩)
    rotate_left 2
    · have e : lnC (GS (I0 uB) lim) a3 n = (nbad (GS (I0 uB) lim) a3, 0, 0) := by unfold lnC; rw [if_neg g2]
      rw [e] at h2
      exact h2 (by show nbad _ _ ≠ -1; omega) Ia2 L _ s5
    · have := (i_eq (x := r2) (y := -1) rfl (show (-1 : Int32).toInt = -1 from rfl)).mp c
      omega
    refine rc_mark (k := 64) t s5 (by omega) rfl (by decide) (fun m2 J2 s6 => ⟨fun _ => ?_, fun c => absurd c (by decide)⟩) (fun m2 J2 s6 => ⟨fun c => absurd rfl c, fun _ => ?_⟩)
    rotate_left
    · have e : lnC (GS (I0 uB) lim) a3 n = (a3 + nd (GS (I0 uB) lim) a3, 0, 0) := by unfold lnC; rw [if_pos g2, if_neg m2]
      rw [e] at h2
      exact h2 (by show a3 + nd (GS (I0 uB) lim) a3 ≠ -1; omega) J2 L _ s6
    have elnC : lnC (GS (I0 uB) lim) a3 n = lnD (GS (I0 uB) lim) (a3 + nd (GS (I0 uB) lim) a3 + 1) n := by unfold lnC; rw [if_pos g2, if_pos m2]
    rw [elnC] at h1 h2 hcv
    obtain ⟨a4, ed⟩ : ∃ x, x = a3 + nd (GS (I0 uB) lim) a3 + 1 := ⟨_, rfl⟩
    rw [← ed] at h1 h2 s6 hcv
    refine rc_family t s6 (by omega) (fun g3 r3 Ia3 e3 s7 => ⟨fun _ => ?_, fun c => ?_⟩) (fun g3 Ia3 s7 => ⟨fun c => absurd rfl c, fun _ => ?_⟩)
    rotate_left
    · have := (i_eq (x := r3) (y := -1) rfl (show (-1 : Int32).toInt = -1 from rfl)).mp c
      omega
    · have e : lnD (GS (I0 uB) lim) a4 n = (a4, 0, 0) := by unfold lnD; rw [if_neg g3]
      rw [e] at h2
      exact h2 (by show a4 ≠ -1; omega) Ia3 L _ s7
    have elnD : lnD (GS (I0 uB) lim) a4 n = lnE (GS (I0 uB) lim) (a4 + 1 + (if (GS (I0 uB) lim) (a4 + 1) = 119 then 1 else 0)) n := by unfold lnD; rw [if_pos g3]
    rw [elnD] at h1 h2 hcv
    refine rc_look t s7 (by omega) (fun r8 hr => ⟨fun c => ?_, fun c => ?_⟩)
    · have hw : ¬ (GS (I0 uB) lim) (a4 + 1) = 119 := fun q => c ((i_eq rfl (show (119 : Int32).toInt = 119 from rfl)).mpr (by have := hr.1 (by omega); omega))
      rw [if_neg hw] at h1 h2 hcv
      exact rc_lineE (d := 0) t s7 rfl (by omega) (by omega) (by omega) (fun q q1 q2 => ⟨(hcv q q1 q2 0).trans e0.symm, (hcv q q1 q2 1).trans (by show nv (GS (I0 uB) lim) (a + nd (GS (I0 uB) lim) a + 1) = _; rw [← eb]; exact e1.symm), (hcv q q1 q2 2).trans (by show nv (GS (I0 uB) lim) (a + nd (GS (I0 uB) lim) a + 1 + nd (GS (I0 uB) lim) (a + nd (GS (I0 uB) lim) a + 1) + 1) = _; rw [← eb, ← ec]; exact e2.symm), (hcv q q1 q2 3).trans (by show (if GS (I0 uB) lim (a + nd (GS (I0 uB) lim) a + 1 + nd (GS (I0 uB) lim) (a + nd (GS (I0 uB) lim) a + 1) + 1 + nd (GS (I0 uB) lim) (a + nd (GS (I0 uB) lim) a + 1 + nd (GS (I0 uB) lim) (a + nd (GS (I0 uB) lim) a + 1) + 1) + 1 + 1) = 119 then (1 : Int) else 0) = _; rw [← eb, ← ec, ← ed, if_neg hw]; rfl), (hcv q q1 q2 4).trans (by show GS (I0 uB) lim (a + nd (GS (I0 uB) lim) a + 1 + nd (GS (I0 uB) lim) (a + nd (GS (I0 uB) lim) a + 1) + 1 + nd (GS (I0 uB) lim) (a + nd (GS (I0 uB) lim) a + 1 + nd (GS (I0 uB) lim) (a + nd (GS (I0 uB) lim) a + 1) + 1) + 1) - 48 = _; rw [← eb, ← ec, ← ed]; exact e3.symm)⟩) h1 h2
    · have c := (i_eq (x := r8) (y := 119) rfl (show (119 : Int32).toInt = 119 from rfl)).mp c
      have hw : (GS (I0 uB) lim) (a4 + 1) = 119 := by unfold CLk at hr; omega
      rw [if_pos hw] at h1 h2 hcv
      exact rc_lineE (d := 1) t s7 rfl (by omega) (by omega) (by omega) (fun q q1 q2 => ⟨(hcv q q1 q2 0).trans e0.symm, (hcv q q1 q2 1).trans (by show nv (GS (I0 uB) lim) (a + nd (GS (I0 uB) lim) a + 1) = _; rw [← eb]; exact e1.symm), (hcv q q1 q2 2).trans (by show nv (GS (I0 uB) lim) (a + nd (GS (I0 uB) lim) a + 1 + nd (GS (I0 uB) lim) (a + nd (GS (I0 uB) lim) a + 1) + 1) = _; rw [← eb, ← ec]; exact e2.symm), (hcv q q1 q2 3).trans (by show (if GS (I0 uB) lim (a + nd (GS (I0 uB) lim) a + 1 + nd (GS (I0 uB) lim) (a + nd (GS (I0 uB) lim) a + 1) + 1 + nd (GS (I0 uB) lim) (a + nd (GS (I0 uB) lim) a + 1 + nd (GS (I0 uB) lim) (a + nd (GS (I0 uB) lim) a + 1) + 1) + 1 + 1) = 119 then (1 : Int) else 0) = _; rw [← eb, ← ec, ← ed, if_pos hw]; rfl), (hcv q q1 q2 4).trans (by show GS (I0 uB) lim (a + nd (GS (I0 uB) lim) a + 1 + nd (GS (I0 uB) lim) (a + nd (GS (I0 uB) lim) a + 1) + 1 + nd (GS (I0 uB) lim) (a + nd (GS (I0 uB) lim) a + 1 + nd (GS (I0 uB) lim) (a + nd (GS (I0 uB) lim) a + 1) + 1) + 1) - 48 = _; rw [← eb, ← ec, ← ed]; exact e3.symm)⟩) h1 h2
  · have c := (not_congr (i_lt s.2.2.2.1 (show (24 : Int32).toInt = 24 from rfl))).mp c
    refine rc_fail t s (fun I' s' => h3 (by omega) I' ?_)
    rw [s.2.2.1] at s'
    exact s'
theorem rc_lines {cc : Nat → Nat → Int} {Z : jZ} {I0 : jI} {v0 v1 uB : Nat} {lim : Int} {Q : Int32 → jI → jL → Prop} (t : TX Z I0 v0 v1 uB lim)
    (hE : ∀ (I : jI) (L : jL) (a' F n' : Int), RSc cc Z I0 v0 lim I a' n' F → (F, n') = rdS (GS (I0 uB) lim) lim 77 0 0 → f_X9_read_b81 Z Q v0 v1 I L) :
    ∀ (m k : Nat) (v3 : Int32) (a n : Int) (I : jI) (L : jL), RSc cc Z I0 v0 lim I a n (-1) → 0 ≤ n → n ≤ 24 → 8 * v3.toInt ≤ a → 0 ≤ v3.toInt → a ≤ lim → lim + 2 - a ≤ (m : Int) → lim + 1 - a ≤ (k : Int) → rdS (GS (I0 uB) lim) lim k a n = rdS (GS (I0 uB) lim) lim 77 0 0 → (∀ j (q : Nat), n ≤ (q : Int) → cS (GS (I0 uB) lim) k a n j q = cc j q) → f_X9_read_L43 Z Q m v0 v1 1 v3 I L := by
  have tl := t.2.2.2.2.2.1
  have out : ∀ (m : Nat) (v3 : Int32) (a' F n' : Int) (I : jI) (L : jL), RSc cc Z I0 v0 lim I a' n' F → (F, n') = rdS (GS (I0 uB) lim) lim 77 0 0 → f_X9_read_L43 Z Q (m + 1) v0 v1 0 v3 I L := by
    intro m v3 a' F n' I L s e
    unfold f_X9_read_L43
    exact ⟨fun _ => hE I L a' F n' s e, fun c => absurd rfl c⟩
  intro m
  induction m with
  | zero => intro k v3 a n I L s h1 h2 h3 h4 h5 h6; exfalso; omega
  | succ m ih =>
    intro k v3 a n I L s h1 h2 h3 h4 h5 h6 h7 hr hc
    have hm : ∃ m', m = m' + 1 := ⟨m - 1, by omega⟩
    obtain ⟨m', em⟩ := hm
    unfold f_X9_read_L43
    refine ⟨fun c => absurd c (by decide), fun _ => ⟨fun c => ?_, fun c => ?_⟩⟩
    · have := (i_le (x := 76) (y := v3) (show (76 : Int32).toInt = 76 from rfl) rfl).mp c
      omega
    have hk : ∃ k', k = k' + 1 := ⟨k - 1, by omega⟩
    obtain ⟨k', ek⟩ := hk
    subst ek
    have d3 : ∀ x : Int32, x = v3 + 1 → x.toInt = v3.toInt + 1 := fun x ex => by rw [ex]; exact i_add rfl (show (1 : Int32).toInt = 1 from rfl) (by omega) (by omega)
    unfold rdS at hr
    refine rc_line t s (by omega) ⟨h1, h2⟩ (fun q q1 q2 j => (hc j q q1).symm.trans (cS_here q2)) (fun hn e I1 L1 s1 => ?_) (fun hn e I1 L1 a1 s1 => ?_) (fun hn I1 s1 => ?_)
    · rw [if_pos hn, if_pos e] at hr
      have ok := lnA_ok hn e (by omega)
      refine ⟨fun c => absurd c (by decide), fun _ => ?_⟩
      refine rc_break t s1 (by omega) (fun hl g I2 s2 => ⟨fun c => absurd c (by decide), fun _ => ?_⟩) (fun hl g I2 s2 => ⟨fun _ => ?_, fun c => absurd rfl c⟩) (fun hl => ⟨fun _ => ?_, fun c => absurd rfl c⟩)
      · rw [if_pos hl, if_pos g] at hr
        unfold f_X9_read_b74
        intro x6 e6
        have := d3 x6 e6
        exact ih k' x6 _ _ I2 L1 s2 (by omega) (by omega) (by omega) (by omega) (by omega) (by omega) (by omega) hr (fun j q hq => (cS_step (by omega)).symm.trans (hc j q (by omega)))
      · rw [if_pos hl, if_neg g] at hr
        unfold f_X9_read_b73 f_X9_read_b74
        intro x6 e6
        rw [em]
        exact out m' x6 _ _ _ I2 L1 s2 hr
      · rw [if_neg (by omega)] at hr
        unfold f_X9_read_b73 f_X9_read_b74
        intro x6 e6
        rw [em]
        exact out m' x6 _ _ _ I1 L1 s1 hr
    · rw [if_pos hn, if_neg e] at hr
      refine ⟨fun _ => ?_, fun c => absurd rfl c⟩
      unfold f_X9_read_b73 f_X9_read_b74
      intro x6 e6
      rw [em]
      exact out m' x6 _ _ _ I1 L1 s1 hr
    · rw [if_neg (by omega)] at hr
      refine ⟨fun _ => ?_, fun c => absurd rfl c⟩
      unfold f_X9_read_b73 f_X9_read_b74
      intro x6 e6
      rw [em]
      exact out m' x6 _ _ _ I1 L s1 hr
theorem rc_read {Z : jZ} {I0 : jI} {L : jL} {v0 v1 uB : Nat} {Q : Int32 → jI → jL → Prop} (w0 : WD Z I0) (k0 : jk Z v0 9) (k1 : jk Z v1 10) (hB : jr Z v1 0 = some uB) (kB : jk Z uB 13) (hb : BY (I0 uB))
    (hQ : ∀ (r : Int32) (I' : jI) (L' : jL), WD Z I' → FR Ws_X9_read Z I0 Z I' → r.toInt = stA (I0 uB) (I0 v1 1).toInt → (0 ≤ r.toInt → (I' v0 5).toInt = r.toInt) → (0 ≤ r.toInt → CNt (cT (I0 uB) (I0 v1 1).toInt) Z I' v0 r.toInt) → Q r I' L') : f_X9_read v0 v1 Z I0 L Q := by
  have sz : 0 ≤ (I0 v1 1).toInt ∧ (I0 v1 1).toInt ≤ 80 := w0.fld 10 1 k1 (by decide)
  have t : TX Z I0 v0 v1 uB (min (I0 v1 1).toInt 76) := ⟨w0, k0, k1, hB, kB, ⟨by omega, by omega, by omega⟩, hb⟩
  have hne : v1 ≠ v0 := fun e => by subst e; have := k0.2.symm.trans k1.2; omega
  unfold f_X9_read
  intro I26 e26 I27 e27 I28 e28 I29 e29
  have w26 : WD Z I26 := by rw [e26]; exact WD_putF w0 9 5 k0 (by decide) (by decide) (by constructor <;> decide)
  have f26 : FR Ws_X9_read Z I0 Z I26 := by rw [e26]; exact FR_putF k0 (by decide) (by decide)
  have w27 : WD Z I27 := by rw [e27]; exact WD_putF w26 9 6 k0 (by decide) (by decide) trivial
  have f27 : FR Ws_X9_read Z I0 Z I27 := f26.trans w0.1 w0.2.1 (by rw [e27]; exact FR_putF k0 (by decide) (by decide))
  have w28 : WD Z I28 := by rw [e28]; exact WD_putF w27 9 8 k0 (by decide) (by decide) trivial
  have f28 : FR Ws_X9_read Z I0 Z I28 := f27.trans w0.1 w0.2.1 (by rw [e28]; exact FR_putF k0 (by decide) (by decide))
  have w29 : WD Z I29 := by rw [e29]; exact WD_putF w28 9 7 k0 (by decide) (by decide) trivial
  have f29 : FR Ws_X9_read Z I0 Z I29 := f28.trans w0.1 w0.2.1 (by rw [e29]; exact FR_putF k0 (by decide) (by decide))
  have z1 : I28 v1 1 = I0 v1 1 := f28.2.2.1 v1 10 1 k1 (by decide) (by decide)
  have z2 : I29 v1 1 = I0 v1 1 := f29.2.2.1 v1 10 1 k1 (by decide) (by decide)
  have s : RSc (cT (I0 uB) (I0 v1 1).toInt) Z I0 v0 (min (I0 v1 1).toInt 76) I29 0 0 (-1) := by
    refine ⟨⟨w29, fun j u hj hu q hq => absurd hq (by omega)⟩, f29, ?_, ?_, ?_, ?_⟩
    · rw [e29, jpI_o (by decide), e28, jpI_o (by decide), e27, jpI_at]; rfl
    · rw [e29, jpI_o (by decide), e28, jpI_o (by decide), e27, jpI_o (by decide), e26, jpI_at]; rfl
    · rw [e29, jpI_o (by decide), e28, jpI_at]; rfl
    · rw [e29, jpI_at, z1]
      exact i_min rfl (show (76 : Int32).toInt = 76 from rfl)
  have last : ∀ (I : jI) (L : jL) (a' F n' : Int), RSc (cT (I0 uB) (I0 v1 1).toInt) Z I0 v0 (min (I0 v1 1).toInt 76) I a' n' F → (F = -1 → 2 ≤ n' → n' = stA (I0 uB) (I0 v1 1).toInt) → (F = -1 → n' < 2 → -100 = stA (I0 uB) (I0 v1 1).toInt) → (F ≠ -1 → 0 ≤ F ∧ -1 - F = stA (I0 uB) (I0 v1 1).toInt) → f_X9_read_b104 Z Q v0 I L := by
    intro I L a' F n' s g1 g2 g3
    unfold f_X9_read_b104
    have sF := s.2.2.2.2.1
    have sn := s.2.2.2.1
    refine ⟨fun c => ⟨fun c1 => ?_, fun c1 => ?_⟩, fun c => ?_⟩
    · have c := (i_eq sF (show (-1 : Int32).toInt = -1 from rfl)).mp c
      have c1 := (i_le (show (2 : Int32).toInt = 2 from rfl) sn).mp c1
      exact hQ _ I L s.1.1 s.2.1 (sn.trans (g1 c c1)) (fun _ => rfl) (fun _ => by rw [sn]; exact s.1.2)
    · have c := (i_eq sF (show (-1 : Int32).toInt = -1 from rfl)).mp c
      have c1 := (not_congr (i_le (show (2 : Int32).toInt = 2 from rfl) sn)).mp c1
      exact hQ _ I L s.1.1 s.2.1 (g2 c (by omega)) (fun q => absurd q (by decide)) (fun q => absurd q (by decide))
    · have c := (not_congr (i_eq sF (show (-1 : Int32).toInt = -1 from rfl))).mp c
      obtain ⟨q1, q3⟩ := g3 c
      have rr := i_rng (I v0 8)
      have e : ((-1 : Int32) - (I v0 8)).toInt = -1 - F := i_sub (show (-1 : Int32).toInt = -1 from rfl) sF (by omega) (by omega)
      exact hQ _ I L s.1.1 s.2.1 (e.trans q3) (fun q => by omega) (fun q => absurd q (by omega))
  have hE : ∀ (I : jI) (L : jL) (a' F n' : Int), RSc (cT (I0 uB) (I0 v1 1).toInt) Z I0 v0 (min (I0 v1 1).toInt 76) I a' n' F → ((I0 v1 1).toInt ≤ 0 → F = -1 ∧ n' = 0) → (0 < (I0 v1 1).toInt → (F, n') = rdS (GS (I0 uB) (min (I0 v1 1).toInt 76)) (min (I0 v1 1).toInt 76) 77 0 0) → f_X9_read_b81 Z Q v0 v1 I L := by
    intro I L a' F n' s g0 e
    have sF := s.2.2.2.2.1
    have e1 := (RSc_txt t s).1
    have hlo := rdS_lo (g := GS (I0 uB) (min (I0 v1 1).toInt 76)) (lim := min (I0 v1 1).toInt 76) 77 0 0 (by omega)
    have hS : stA (I0 uB) (I0 v1 1).toInt = if F = -1 then (if (I0 v1 1).toInt ≤ 76 then (if 2 ≤ n' then n' else -100) else -77) else -1 - F := by
      unfold stA
      by_cases c : (I0 v1 1).toInt ≤ 0
      · obtain ⟨q1, q2⟩ := g0 c
        rw [if_pos c, if_pos q1, if_pos (by omega), if_neg (by omega)]
      · have e := e (by omega)
        rw [if_neg c, ← e]
    have hF : -1 ≤ F := by
      by_cases c : (I0 v1 1).toInt ≤ 0
      · have := (g0 c).1; omega
      · have e := e (by omega)
        rw [← e] at hlo
        exact hlo
    unfold f_X9_read_b81
    refine ⟨fun c => ?_, fun c => ⟨fun c1 => ?_, fun c1 => ?_⟩⟩
    · have c := (not_congr (i_eq sF (show (-1 : Int32).toInt = -1 from rfl))).mp c
      rw [if_neg c] at hS
      exact last I L a' F n' s (fun q => absurd q c) (fun q => absurd q c) (fun _ => ⟨by omega, hS.symm⟩)
    · have c := (i_eq sF (show (-1 : Int32).toInt = -1 from rfl)).mp c
      rw [e1] at c1
      have c1 := (i_le (y := 76) rfl (show (76 : Int32).toInt = 76 from rfl)).mp c1
      rw [if_pos c, if_pos c1] at hS
      exact last I L a' F n' s (fun _ q => by rw [if_pos q] at hS; exact hS.symm) (fun _ q => by rw [if_neg (by omega)] at hS; exact hS.symm) (fun q => absurd c q)
    · have c := (i_eq sF (show (-1 : Int32).toInt = -1 from rfl)).mp c
      rw [e1] at c1
      have c1 := (not_congr (i_le (y := 76) rfl (show (76 : Int32).toInt = 76 from rfl))).mp c1
      rw [if_pos c, if_neg c1] at hS
      intro I5 e5
      obtain ⟨q1, q2⟩ := RSc_put (j := 8) (x := 76) t s (by decide) trivial
      refine last I5 L a' 76 n' ?_ (fun q => by omega) (fun q => by omega) (fun _ => ⟨by omega, hS.symm⟩)
      rw [e5]
      refine ⟨q1, q2, ?_, ?_, ?_, ?_⟩
      · rw [jpI_o (by decide)]; exact s.2.2.1
      · rw [jpI_o (by decide)]; exact s.2.2.2.1
      · rw [jpI_at]; rfl
      · rw [jpI_o (by decide)]; exact s.2.2.2.2.2
  rw [z2]
  unfold f_X9_read_b40
  refine ⟨fun c => ?_, fun c => ?_⟩
  · have c := (i_le (y := 0) rfl (show (0 : Int32).toInt = 0 from rfl)).mp c
    refine ⟨1, ?_⟩
    unfold f_X9_read_L43
    exact ⟨fun _ => hE I29 L 0 (-1) 0 s (fun _ => ⟨rfl, rfl⟩) (fun q => by omega), fun c => absurd rfl c⟩
  · have c := (not_congr (i_le (y := 0) rfl (show (0 : Int32).toInt = 0 from rfl))).mp c
    have z : (0 : Int32).toInt = 0 := rfl
    exact ⟨79, rc_lines t (fun I L a' F n' s e => hE I L a' F n' s (fun q => by omega) (fun _ => e)) 79 77 0 0 0 I29 L s (by omega) (by omega) (by rw [z]; omega) (by rw [z]; omega) (by omega) (by omega) (by omega) rfl (fun _ _ _ => rfl)⟩
