section
/-! ===== pilgrims on both sides ===== -/
/-- a pilgrim just told -/
def PVp (z : Nat → Int32) (v1 v2 v3 v4 : Int32) : Prop := z 0 = v1 ∧ z 1 = v2 ∧ z 2 = v3 ∧ z 3 = v4 ∧ z 4 = 0 ∧ z 5 = -1 ∧ z 6 = v1 ∧ z 7 = v2
def pvm (v1 v2 v3 v4 : Int32) : Nat → Int32 := fun m => match m with
  | 9 => v1
  | 10 => v2
  | 11 => v3
  | 12 => v4
  | 13 => 0
  | 14 => -1
  | 15 => v1
  | 16 => v2
  | _ => 0
/-- a cell that is there keeps its ints -/
def KA (a : Nat) (z : Nat → Int32) (Z : jZ) (I : jI) : Prop := a ∈ Z.1 ∧ I a = z
theorem KA_nw {a : Nat} {z : Nat → Int32} {Z : jZ} {I : jI} {q k m : Nat} (h : KA a z Z I) (hq : q ∉ Z.1) : KA a z (jnw Z q k m) (jz0 I q) := by
  have hne : a ≠ q := fun e => hq (by rw [← e]; exact h.1)
  exact ⟨List.mem_append_left _ h.1, (va_up_ne _ _ hne).trans h.2⟩
theorem KA_pR {a : Nat} {z : Nat → Int32} {Z : jZ} {I : jI} {b j : Nat} {v : Option Nat} (h : KA a z Z I) : KA a z (jpR Z b j v) I := ⟨h.1, h.2⟩
theorem KA_pI {a : Nat} {z : Nat → Int32} {Z : jZ} {I : jI} {b j : Nat} {v : Int32} (hne : a ≠ b) (h : KA a z Z I) : KA a z Z (jpI I b j v) := ⟨h.1, (va_up_ne _ _ hne).trans h.2⟩
theorem ka_X7_init {a : Nat} {z : Nat → Int32} {v0 : Nat} {Z : jZ} {I : jI} {L : jL} {Q : jZ → jI → jL → Prop} (hne : a ≠ v0) (h : KA a z Z I) (hQ : ∀ (Z' : jZ) (I' : jI) (L' : jL), KA a z Z' I' → Q Z' I' L') : f_X7_init v0 Z I L Q := by
  unfold f_X7_init
  intro q1 nq1 Z2 eZ2 I3 eI3 L4 eL4
  have hq1 : a ≠ q1 := fun e => nq1 (e ▸ h.1)
  have h := KA_nw (k := 15) (m := 64) h nq1
  rw [← eZ2, ← eI3] at h
  intro Z6 eZ6
  have h := KA_pR (b := v0) (j := 0) (v := some q1) h
  rw [← eZ6] at h
  intro q8 nq8 Z9 eZ9 I10 eI10 L11 eL11
  have hq8 : a ≠ q8 := fun e => nq8 (e ▸ h.1)
  have h := KA_nw (k := 14) (m := 25) h nq8
  rw [← eZ9, ← eI10] at h
  intro Z13 eZ13
  have h := KA_pR (b := v0) (j := 1) (v := some q8) h
  rw [← eZ13] at h
  intro q15 nq15 Z16 eZ16 I17 eI17 L18 eL18
  have hq15 : a ≠ q15 := fun e => nq15 (e ▸ h.1)
  have h := KA_nw (k := 14) (m := 25) h nq15
  rw [← eZ16, ← eI17] at h
  intro Z20 eZ20
  have h := KA_pR (b := v0) (j := 2) (v := some q15) h
  rw [← eZ20] at h
  intro I22 eI22
  have h := KA_pI (b := v0) (j := 3) (v := (0 : Int32)) hne h
  rw [← eI22] at h
  intro q23 nq23 Z24 eZ24 I25 eI25 L26 eL26
  have hq23 : a ≠ q23 := fun e => nq23 (e ▸ h.1)
  have h := KA_nw (k := 14) (m := 3) h nq23
  rw [← eZ24, ← eI25] at h
  intro Z28 eZ28
  have h := KA_pR (b := v0) (j := 4) (v := some q23) h
  rw [← eZ28] at h
  intro q30 nq30 Z31 eZ31 I32 eI32 L33 eL33
  have hq30 : a ≠ q30 := fun e => nq30 (e ▸ h.1)
  have h := KA_nw (k := 14) (m := 3) h nq30
  rw [← eZ31, ← eI32] at h
  intro Z35 eZ35
  have h := KA_pR (b := v0) (j := 5) (v := some q30) h
  rw [← eZ35] at h
  intro q37 nq37 Z38 eZ38 I39 eI39 L40 eL40
  have hq37 : a ≠ q37 := fun e => nq37 (e ▸ h.1)
  have h := KA_nw (k := 15) (m := 3) h nq37
  rw [← eZ38, ← eI39] at h
  intro Z42 eZ42
  have h := KA_pR (b := v0) (j := 6) (v := some q37) h
  rw [← eZ42] at h
  intro q44 nq44 Z45 eZ45 I46 eI46 L47 eL47
  have hq44 : a ≠ q44 := fun e => nq44 (e ▸ h.1)
  have h := KA_nw (k := 15) (m := 3) h nq44
  rw [← eZ45, ← eI46] at h
  intro Z49 eZ49
  have h := KA_pR (b := v0) (j := 7) (v := some q44) h
  rw [← eZ49] at h
  intro I51 eI51
  have h := KA_pI (b := v0) (j := 8) (v := (0 : Int32)) hne h
  rw [← eI51] at h
  intro I52 eI52
  have h := KA_pI (b := v0) (j := 9) (v := (0 : Int32)) hne h
  rw [← eI52] at h
  exact hQ Z49 I52 L47 h
theorem ka_X6_init {a : Nat} {z : Nat → Int32} {v0 v1 : Nat} {v2 v3 v4 : Int32} {Z : jZ} {I : jI} {L : jL} {Q : jZ → jI → jL → Prop} (hne : a ≠ v0) (h : KA a z Z I) (hQ : ∀ (Z' : jZ) (I' : jI) (L' : jL), KA a z Z' I' → Q Z' I' L') : f_X6_init v0 v1 v2 v3 v4 Z I L Q := by
  unfold f_X6_init
  intro q1 nq1 Z2 eZ2 I3 eI3 L4 eL4
  have hq1 : a ≠ q1 := fun e => nq1 (e ▸ h.1)
  have h := KA_nw (k := 14) (m := 75) h nq1
  rw [← eZ2, ← eI3] at h
  intro Z7 eZ7
  have h := KA_pR (b := v0) (j := 4) (v := some q1) h
  rw [← eZ7] at h
  intro q10 nq10 Z11 eZ11 I12 eI12 L13 eL13
  have hq10 : a ≠ q10 := fun e => nq10 (e ▸ h.1)
  have h := KA_nw (k := 14) (m := 75) h nq10
  rw [← eZ11, ← eI12] at h
  intro Z16 eZ16
  have h := KA_pR (b := v0) (j := 5) (v := some q10) h
  rw [← eZ16] at h
  intro q19 nq19 Z20 eZ20 I21 eI21 L22 eL22
  have hq19 : a ≠ q19 := fun e => nq19 (e ▸ h.1)
  have h := KA_nw (k := 16) (m := 25) h nq19
  rw [← eZ20, ← eI21] at h
  intro Z25 eZ25
  have h := KA_pR (b := v0) (j := 6) (v := some q19) h
  rw [← eZ25] at h
  intro q28 nq28 Z29 eZ29 I30 eI30 L31 eL31
  have hq28 : a ≠ q28 := fun e => nq28 (e ▸ h.1)
  have h := KA_nw (k := 14) (m := 25) h nq28
  rw [← eZ29, ← eI30] at h
  intro Z34 eZ34
  have h := KA_pR (b := v0) (j := 7) (v := some q28) h
  rw [← eZ34] at h
  intro q37 nq37 Z38 eZ38 I39 eI39 L40 eL40
  have hq37 : a ≠ q37 := fun e => nq37 (e ▸ h.1)
  have h := KA_nw (k := 14) (m := 25) h nq37
  rw [← eZ38, ← eI39] at h
  intro Z43 eZ43
  have h := KA_pR (b := v0) (j := 8) (v := some q37) h
  rw [← eZ43] at h
  intro q46 nq46 Z47 eZ47 I48 eI48 L49 eL49
  have hq46 : a ≠ q46 := fun e => nq46 (e ▸ h.1)
  have h := KA_nw (k := 7) (m := 0) h nq46
  rw [← eZ47, ← eI48] at h
  refine ka_X7_init hq46 h (fun Z53 I54 L55 h => ?_)
  intro Z61 eZ61
  have h := KA_pR (b := v0) (j := 9) (v := some q46) h
  rw [← eZ61] at h
  intro q64 nq64 Z65 eZ65 I66 eI66 L67 eL67
  have hq64 : a ≠ q64 := fun e => nq64 (e ▸ h.1)
  have h := KA_nw (k := 7) (m := 0) h nq64
  rw [← eZ65, ← eI66] at h
  refine ka_X7_init hq64 h (fun Z71 I72 L73 h => ?_)
  intro Z79 eZ79
  have h := KA_pR (b := v0) (j := 10) (v := some q64) h
  rw [← eZ79] at h
  intro q82 nq82 Z83 eZ83 I84 eI84 L85 eL85
  have hq82 : a ≠ q82 := fun e => nq82 (e ▸ h.1)
  have h := KA_nw (k := 15) (m := 21) h nq82
  rw [← eZ83, ← eI84] at h
  intro Z88 eZ88
  have h := KA_pR (b := v0) (j := 11) (v := some q82) h
  rw [← eZ88] at h
  intro q91 nq91 Z92 eZ92 I93 eI93 L94 eL94
  have hq91 : a ≠ q91 := fun e => nq91 (e ▸ h.1)
  have h := KA_nw (k := 14) (m := 21) h nq91
  rw [← eZ92, ← eI93] at h
  intro Z97 eZ97
  have h := KA_pR (b := v0) (j := 12) (v := some q91) h
  rw [← eZ97] at h
  intro q100 nq100 Z101 eZ101 I102 eI102 L103 eL103
  have hq100 : a ≠ q100 := fun e => nq100 (e ▸ h.1)
  have h := KA_nw (k := 14) (m := 21) h nq100
  rw [← eZ101, ← eI102] at h
  intro Z106 eZ106
  have h := KA_pR (b := v0) (j := 13) (v := some q100) h
  rw [← eZ106] at h
  intro I109 eI109
  have h := KA_pI (b := v0) (j := 14) (v := (0 : Int32)) hne h
  rw [← eI109] at h
  intro I110 eI110
  have h := KA_pI (b := v0) (j := 15) (v := (0 : Int32)) hne h
  rw [← eI110] at h
  intro Z111 eZ111
  have h := KA_pR (b := v0) (j := 0) (v := some v1) h
  rw [← eZ111] at h
  intro I114 eI114
  have h := KA_pI (b := v0) (j := 1) (v := v2) hne h
  rw [← eI114] at h
  intro I115 eI115
  have h := KA_pI (b := v0) (j := 2) (v := v3) hne h
  rw [← eI115] at h
  intro I116 eI116
  have h := KA_pI (b := v0) (j := 3) (v := v4) hne h
  rw [← eI116] at h
  exact hQ Z111 I116 L103 h
theorem ka_X5_init {v0 v1 : Nat} {v2 v3 v4 v5 : Int32} {Z : jZ} {I : jI} {L : jL} {Q : jZ → jI → jL → Prop} (hv : v0 ∈ Z.1) (hQ : ∀ (Z' : jZ) (I' : jI) (L' : jL), PVp (I' v0) v2 v3 v4 v5 → Q Z' I' L') : f_X5_init v0 v1 v2 v3 v4 v5 Z I L Q := by
  unfold f_X5_init
  intro I1 eI1
  intro I2 eI2
  intro I3 eI3
  intro I4 eI4
  intro I5 eI5
  intro I6 eI6
  intro I7 eI7
  intro I8 eI8
  have h : KA v0 (I8 v0) Z I8 := ⟨hv, rfl⟩
  intro q9 nq9 Z10 eZ10 I11 eI11 L12 eL12
  have hq9 : v0 ≠ q9 := fun e => nq9 (e ▸ h.1)
  have h := KA_nw (k := 6) (m := 0) h nq9
  rw [← eZ10, ← eI11] at h
  refine ka_X6_init hq9 h (fun Z16 I17 L18 h => ?_)
  intro Z24 eZ24
  have h := KA_pR (b := v0) (j := 8) (v := some q9) h
  rw [← eZ24] at h
  exact hQ Z24 I17 L18 ⟨(by rw [h.2, eI8, jpI_o (by decide), eI7, jpI_o (by decide), eI6, jpI_o (by decide), eI5, jpI_o (by decide), eI4, jpI_o (by decide), eI3, jpI_at]), (by rw [h.2, eI8, jpI_o (by decide), eI7, jpI_o (by decide), eI6, jpI_o (by decide), eI5, jpI_o (by decide), eI4, jpI_at]), (by rw [h.2, eI8, jpI_o (by decide), eI7, jpI_o (by decide), eI6, jpI_o (by decide), eI5, jpI_at]), (by rw [h.2, eI8, jpI_o (by decide), eI7, jpI_o (by decide), eI6, jpI_at]), (by rw [h.2, eI8, jpI_o (by decide), eI7, jpI_o (by decide), eI6, jpI_o (by decide), eI5, jpI_o (by decide), eI4, jpI_o (by decide), eI3, jpI_o (by decide), eI2, jpI_o (by decide), eI1, jpI_at]), (by rw [h.2, eI8, jpI_o (by decide), eI7, jpI_o (by decide), eI6, jpI_o (by decide), eI5, jpI_o (by decide), eI4, jpI_o (by decide), eI3, jpI_o (by decide), eI2, jpI_at]), (by rw [h.2, eI8, jpI_o (by decide), eI7, jpI_at]), (by rw [h.2, eI8, jpI_at])⟩
theorem cj2_X5_init {v0 v1 : Nat} {v2 v3 v4 v5 : Int32} {Z : jZ} {I : jI} {L : jL} {Q1 Q3 : jZ → jI → jL → Prop} (h1 : f_X5_init v0 v1 v2 v3 v4 v5 Z I L Q1) (h2 : f_X5_init v0 v1 v2 v3 v4 v5 Z I L (fun Z I L => Q1 Z I L → Q3 Z I L)) : f_X5_init v0 v1 v2 v3 v4 v5 Z I L Q3 := cj_X5_init h1 h2 (fun _ _ _ a b => b a)
/-- what becomes of the pilgrims' row -/
def NPp (Z : jZ) (I : jI) (Z' : jZ) (I' : jI) (v0 : Nat) (v1 v2 v3 v4 r : Int32) : Prop := (r.toInt = -1 ∧ Z' = Z ∧ I' = I) ∨ (¬ r.toInt = -1 ∧ ∀ A, jr Z v0 3 = some A → jr Z' v0 3 = some A ∧ (∀ i, i ≠ (I v0 4).toNatClampNeg → jr Z' A i = jr Z A i) ∧ ∃ q, jr Z' A (I v0 4).toNatClampNeg = some q ∧ jk Z' q 5 ∧ PVp (I' q) v1 v2 v3 v4)
set_option maxHeartbeats 4000000 in
theorem s12_X11_pilgrim {B : Nat × Nat} {T : Nat} {Z : jZ} {I : jI} {L : jL} (w : WD Z I) (bd : BUD B Z T) (v0 : Nat) (v1 v2 v3 v4 : Int32) (kv0 : jk Z v0 11) (ht : (I v0 4).toInt + (T : Int) = 6) {Q : Int32 → jZ → jI → jL → Prop}
    (hQ : ∀ (r : Int32) (Z' : jZ) (I' : jI) (L' : jL) (T' : Nat), WD Z' I' → BUD B Z' T' → (I' v0 4).toInt + (T' : Int) = 6 → jext Z Z' → jle Z Z' → FRp Z I Z' I' → PSp v0 v1 v2 v3 v4 r I I' → NPp Z I Z' I' v0 v1 v2 v3 v4 r → Q r Z' I' L') : f_X11_pilgrim v0 v1 v2 v3 v4 Z I L Q := by
  have no : ∀ s0 : Int32, ((s0 = 0 ∧ ¬ FITp v1 v2 v3 v4) ∨ (s0 = 1 ∧ FITp v1 v2 v3 v4)) → f_X11_pilgrim_b49 Q v0 v1 v2 v3 v4 s0 Z I L := by
    intro s0 hs0
    unfold f_X11_pilgrim_b49
    have fr0 : FRp Z I Z I := ⟨fun _ _ _ _ _ => rfl, fun _ _ _ _ _ => rfl⟩
    refine ⟨fun c0 => hQ _ _ _ _ T w bd ht jext_rfl jle_rfl fr0 (Or.inl ⟨rfl, rfl, fun g => ?_⟩) (Or.inl ⟨rfl, rfl, rfl⟩), fun c0 => ⟨fun c1 => ?_, fun c1 => hQ _ _ _ _ T w bd ht jext_rfl jle_rfl fr0 (Or.inl ⟨rfl, rfl, fun g => c1 ((i_lt rfl (show (6 : Int32).toInt = 6 from rfl)).mpr g.2)⟩) (Or.inl ⟨rfl, rfl, rfl⟩)⟩⟩
    · rcases hs0 with h | h
      · exact h.2 g.1
      · rw [h.1] at c0; cases c0
    have hF : FITp v1 v2 v3 v4 := (hs0.resolve_left (fun h => c0 h.1)).2
    have hl : 1 ≤ v3.toInt ∧ v3.toInt ≤ 3 := ⟨hF.2.2.2.2.1, hF.2.2.2.2.2.1⟩
    have t1 : (I v0 4).toInt < 6 := (i_lt rfl (show (6 : Int32).toInt = 6 from rfl)).mp c1
    have t0 : 0 ≤ (I v0 4).toInt ∧ (I v0 4).toInt ≤ 6 := w.fld 11 4 kv0 (by decide)
    intro b3 e3 q nq Z5 eZ5 I6 eI6 L7 eL7 b11 e11
    have hne : v0 ≠ q := fun e => nq (e ▸ kv0.1)
    obtain ⟨b8, f8, k8⟩ := sh_o w.1 kv0 (j := 2) (k := 8) rfl
    have : b11 = b8 := by
      rw [eZ5, jr_old hne, f8] at e11
      exact (Option.some.inj e11).symm
    subst this
    obtain ⟨b9, f9, k9, l9⟩ := sh_f w.1 kv0 (j := 3) (k := 18) (m := 6) rfl
    cases e3.symm.trans f9
    have c0' := CW_nw 5 0 (CW_start w.2) nq
    rw [← eZ5, ← eI6] at c0'
    refine cj2_X5_init (ka_X5_init (Q := fun _ I' _ => PVp (I' q) v1 v2 v3 v4) (by rw [eZ5]; exact jk_nw.1) (fun _ _ _ h => h)) ?_
    refine cw_X5_init v1 v2 v3 v4 k8 ⟨by omega, hl.2⟩ I Z5 I6 L7 [] q 1 (0 + jcs 5 0) 0 _ c0' (by rw [eZ5]; exact jk_nw) List.not_mem_nil (fun j => by rw [eZ5]; exact jr_new) (fun j => by rw [eI6]; exact congrFun (va_up_self _ _ _) j) (fun Z13 I14 L15 c1 kq nhq _ x1 _ => ?_)
    intro hpv
    have w1 : WD Z13 I14 := ⟨CW_SH c1 w.1, c1.2.2.2.1⟩
    have k3 : jk Z13 b3 18 := (c1.1 _ _ k9).1
    have kv : jk Z13 v0 11 := (c1.1 _ _ kv0).1
    have ev : I14 v0 = I v0 := (c1.2.1 v0 kv0.1).2
    refine ⟨vi_of rfl (by omega) (by omega), ?_⟩
    intro Z22 eZ22 I24 eI24
    have w2 : WD Z22 I14 := by rw [eZ22]; exact WD_put18 w1 k3 kq nhq
    have t2 : (I14 v0 4).toInt = (I v0 4).toInt := by rw [ev]
    have t3 : ((I14 v0 4) + (1 : Int32)).toInt = (I v0 4).toInt + 1 := (i_add rfl (show (1 : Int32).toInt = 1 from rfl) (by omega) (by omega)).trans (by omega)
    have kv' : jk Z22 v0 11 := by rw [eZ22]; exact kv
    have w3 : WD Z22 I24 := by rw [eI24]; exact WD_putF w2 11 4 kv' (by decide) (by decide) (by constructor <;> omega)
    refine ⟨w2.1, hQ _ _ _ _ (T - 1) w3 ?_ ?_ ?_ ?_ ⟨fun a c j ha h18 => ?_, fun a c j ha h11 => ?_⟩ (Or.inr ⟨?_, ?_, hF, t1⟩) (Or.inr ⟨?_, fun A hA => ?_⟩)⟩
    · obtain ⟨hb1, hb2⟩ := bd
      obtain ⟨g1, g2, g3⟩ := c1.2.2.2.2.2.1
      have hp : potc Z22 = potc Z13 := by rw [eZ22]; exact potc_put k3 (by omega) (by omega)
      have hc : jcz Z22 = jcz Z13 := by rw [eZ22]; rfl
      have hs : jsz Z22 = jsz Z13 := by rw [eZ22]; rfl
      have j5 : jcs 5 0 = 9 := rfl
      have hT : T = (T - 1) + 1 := by omega
      constructor
      · rw [hp, hc]; omega
      · rw [hp, hs]; omega
    · rw [eI24, jpI_at]; omega
    · have x2 : jext Z Z13 := c1.1
      rw [eZ22]; exact jext_trans x2 jext_putr
    · rw [eZ22]; exact jle_ext w.2.1 (jext_trans c1.1 jext_putr)
    · have hna : a ≠ b3 := fun e => by subst e; exact h18 (ha.2.symm.trans k9.2)
      rw [eZ22, jrR_ne hna]
      exact congrFun (c1.2.1 a ha.1).1 j
    · rw [eI24]
      by_cases e : a = v0
      · subst e
        have hj : j ≠ 4 := fun q => h11 ⟨ha.2.symm.trans kv0.2, q⟩
        show va_up I14 a (upd (I14 a) 4 _) a j = _
        rw [va_up_self]
        exact (if_neg hj).trans (by rw [ev])
      · show va_up I14 v0 _ a j = _
        rw [va_up_ne _ _ e]
        exact congrFun (c1.2.1 a ha.1).2 j
    · rw [eI24, jpI_at]
      exact (i_sub t3 (show (1 : Int32).toInt = 1 from rfl) (by omega) (by omega)).trans (by omega)
    · rw [eI24, jpI_at]; exact t3
    · rw [eI24, jpI_at]
      have h9 := i_sub t3 (show (1 : Int32).toInt = 1 from rfl) (by omega) (by omega)
      omega
    · cases e3.symm.trans hA
      have n3 : v0 ≠ b3 := fun e => by subst e; have := kv0.2.symm.trans k9.2; omega
      refine ⟨?_, fun i hi => ?_, q, ?_, ?_, ?_⟩
      · rw [eZ22, jrR_ne n3]
        exact (congrFun (c1.2.1 v0 kv0.1).1 3).trans e3
      · rw [eZ22, jrR_off hi]
        exact congrFun (c1.2.1 b3 k9.1).1 i
      · rw [eZ22]; exact jrR_at
      · rw [eZ22]; exact kq
      · have e9 : I24 q = I14 q := by rw [eI24]; exact jpI_ne (fun e => hne e.symm)
        rw [e9]; exact hpv
  unfold f_X11_pilgrim f_X11_pilgrim_b48
  refine ⟨fun c => no 0 (Or.inl ⟨rfl, fun g => ?_⟩), fun c0 => ?_⟩
  · have h := (i_lt (x := v1) (y := 1) rfl (show (1 : Int32).toInt = 1 from rfl)).mp c
    unfold FITp at g
    omega
  have h0 := (not_congr (i_lt (x := v1) (y := 1) rfl (show (1 : Int32).toInt = 1 from rfl))).mp c0
  refine ⟨fun c => no 0 (Or.inl ⟨rfl, fun g => ?_⟩), fun c1 => ?_⟩
  · have h := (i_lt (x := 120) (y := v1) (show (120 : Int32).toInt = 120 from rfl) rfl).mp c
    unfold FITp at g
    omega
  have h1 := (not_congr (i_lt (x := 120) (y := v1) (show (120 : Int32).toInt = 120 from rfl) rfl)).mp c1
  refine ⟨fun c => no 0 (Or.inl ⟨rfl, fun g => ?_⟩), fun c2 => ?_⟩
  · have h := (i_lt (x := v2) (y := 0) rfl (show (0 : Int32).toInt = 0 from rfl)).mp c
    unfold FITp at g
    omega
  have h2 := (not_congr (i_lt (x := v2) (y := 0) rfl (show (0 : Int32).toInt = 0 from rfl))).mp c2
  refine ⟨fun c => no 0 (Or.inl ⟨rfl, fun g => ?_⟩), fun c3 => ?_⟩
  · have h := (i_lt (x := 999) (y := v2) (show (999 : Int32).toInt = 999 from rfl) rfl).mp c
    unfold FITp at g
    omega
  have h3 := (not_congr (i_lt (x := 999) (y := v2) (show (999 : Int32).toInt = 999 from rfl) rfl)).mp c3
  refine ⟨fun c => no 0 (Or.inl ⟨rfl, fun g => ?_⟩), fun c4 => ?_⟩
  · have h := (i_lt (x := v3) (y := 1) rfl (show (1 : Int32).toInt = 1 from rfl)).mp c
    unfold FITp at g
    omega
  have h4 := (not_congr (i_lt (x := v3) (y := 1) rfl (show (1 : Int32).toInt = 1 from rfl))).mp c4
  refine ⟨fun c => no 0 (Or.inl ⟨rfl, fun g => ?_⟩), fun c5 => ?_⟩
  · have h := (i_lt (x := 3) (y := v3) (show (3 : Int32).toInt = 3 from rfl) rfl).mp c
    unfold FITp at g
    omega
  have h5 := (not_congr (i_lt (x := 3) (y := v3) (show (3 : Int32).toInt = 3 from rfl) rfl)).mp c5
  refine ⟨fun c => no 0 (Or.inl ⟨rfl, fun g => ?_⟩), fun c6 => ?_⟩
  · have h := (i_lt (x := v4) (y := 0) rfl (show (0 : Int32).toInt = 0 from rfl)).mp c
    unfold FITp at g
    omega
  have h6 := (not_congr (i_lt (x := v4) (y := 0) rfl (show (0 : Int32).toInt = 0 from rfl))).mp c6
  refine ⟨fun c => no 0 (Or.inl ⟨rfl, fun g => ?_⟩), fun c7 => ?_⟩
  · have h := (i_lt (x := 50) (y := v4) (show (50 : Int32).toInt = 50 from rfl) rfl).mp c
    unfold FITp at g
    omega
  have h7 := (not_congr (i_lt (x := 50) (y := v4) (show (50 : Int32).toInt = 50 from rfl) rfl)).mp c7
  refine no 1 (Or.inr ⟨rfl, ?_⟩)
  unfold FITp
  omega
theorem dne {Z : jZ} {v0 c j j' b b' : Nat} (u : UQ Z) (k : jk Z v0 c) (h : jr Z v0 j = some b) (h' : jr Z v0 j' = some b') (s : jsr c j = false) (s' : jsr c j' = false) (n : j ≠ j') : b ≠ b' := fun e => by
  subst e
  exact n (u.2.2 v0 c j v0 c j' b k k h h' s s').2
theorem kne {Z : jZ} {a b c d : Nat} (h : jk Z a c) (g : jk Z b d) (n : c ≠ d) : a ≠ b := fun e => by
  subst e
  exact n (h.2.symm.trans g.2)
/-- what becomes of the reference's rows -/
def NQm (Z : jZ) (I I' : jI) (v0 : Nat) (v1 v2 v3 v4 r : Int32) : Prop := (r.toInt = -1 ∧ ∀ a, a ≠ v0 → I' a = I a) ∨ (¬ r.toInt = -1 ∧ ∀ m u, 9 ≤ m → m ≤ 16 → jr Z v0 m = some u → I' u = upd (I u) (I v0 8).toNatClampNeg (pvm v1 v2 v3 v4 m))
set_option maxHeartbeats 4000000 in
theorem m12_X12_pilgrim {Z : jZ} {I : jI} {L : jL} (w : WD Z I) (v0 : Nat) (v1 v2 v3 v4 : Int32) (kv0 : jk Z v0 12) {Q : Int32 → jI → jL → Prop}
    (hQ : ∀ (r : Int32) (I' : jI) (L' : jL), WD Z I' → FR Ws_X12_pilgrim Z I Z I' → ((r.toInt = -1 ∧ (I' v0 8).toInt = (I v0 8).toInt ∧ ¬ (FITp v1 v2 v3 v4 ∧ (I v0 8).toInt < 6)) ∨ (r.toInt = (I v0 8).toInt ∧ (I' v0 8).toInt = (I v0 8).toInt + 1 ∧ FITp v1 v2 v3 v4 ∧ (I v0 8).toInt < 6)) → NQm Z I I' v0 v1 v2 v3 v4 r → Q r I' L') : f_X12_pilgrim v0 v1 v2 v3 v4 Z I L Q := by
  unfold f_X12_pilgrim
  intro I1 e1
  have w1 : WD Z I1 := by rw [e1]; exact WD_putF w 12 22 kv0 (by decide) (by decide) trivial
  have f1 : FR Ws_X12_pilgrim Z I Z I1 := by rw [e1]; exact FR_putF kv0 (by decide) (by decide)
  have o1 : ∀ a, a ≠ v0 → I1 a = I a := fun a ha => by rw [e1]; exact jpI_ne ha
  have s1 : I1 v0 8 = I v0 8 := by rw [e1]; exact jpI_o (by decide)
  have bad : ¬ (FITp v1 v2 v3 v4 ∧ (I v0 8).toInt < 6) → Q (-1 : Int32) I1 L := fun h => hQ _ I1 L w1 f1 (Or.inl ⟨rfl, by rw [s1], h⟩) (Or.inl ⟨rfl, o1⟩)
  have t8 : 0 ≤ (I v0 8).toInt ∧ (I v0 8).toInt ≤ 6 := w.fld 12 8 kv0 (by decide)
  have z0 : (0 : Int32).toInt = 0 := rfl
  have z1 : (1 : Int32).toInt = 1 := rfl
  have z3 : (3 : Int32).toInt = 3 := rfl
  have z50 : (50 : Int32).toInt = 50 := rfl
  have z120 : (120 : Int32).toInt = 120 := rfl
  have z999 : (999 : Int32).toInt = 999 := rfl
  unfold FITp at bad hQ
  refine s_X12_in w1 _ _ _ (fun r1 p1 => ⟨fun c1 => bad (by have h9 := (i_eq rfl z0).mp c1; omega), fun c1 => ?_⟩)
  have c1 := (not_congr (i_eq rfl z0)).mp c1
  refine s_X12_in w1 _ _ _ (fun r2 p2 => ⟨fun c2 => bad (by have h9 := (i_eq rfl z0).mp c2; omega), fun c2 => ?_⟩)
  have c2 := (not_congr (i_eq rfl z0)).mp c2
  refine s_X12_in w1 _ _ _ (fun r3 p3 => ⟨fun c3 => bad (by have h9 := (i_eq rfl z0).mp c3; omega), fun c3 => ?_⟩)
  have c3 := (not_congr (i_eq rfl z0)).mp c3
  refine s_X12_in w1 _ _ _ (fun r4 p4 => ⟨fun c4 => bad (by have h9 := (i_eq rfl z0).mp c4; omega), fun c4 => ?_⟩)
  have c4 := (not_congr (i_eq rfl z0)).mp c4
  refine ⟨fun c5 => ?_, fun c5 => bad (by have h9 := congrArg Int32.toInt c5; rw [s1, show (6 : Int32).toInt = 6 from rfl] at h9; omega)⟩
  have c5 := (not_congr (i_eq (x := I1 v0 8) (y := 6) rfl (show (6 : Int32).toInt = 6 from rfl))).mp c5
  rw [s1] at c5
  obtain ⟨u9, h9, k9, l9⟩ := sh_f w.1 kv0 (j := 9) (k := 14) (m := 6) rfl
  have n9 : v0 ≠ u9 := kne kv0 k9 (by decide)
  obtain ⟨u10, h10, k10, l10⟩ := sh_f w.1 kv0 (j := 10) (k := 14) (m := 6) rfl
  have n10 : v0 ≠ u10 := kne kv0 k10 (by decide)
  obtain ⟨u11, h11, k11, l11⟩ := sh_f w.1 kv0 (j := 11) (k := 14) (m := 6) rfl
  have n11 : v0 ≠ u11 := kne kv0 k11 (by decide)
  obtain ⟨u12, h12, k12, l12⟩ := sh_f w.1 kv0 (j := 12) (k := 14) (m := 6) rfl
  have n12 : v0 ≠ u12 := kne kv0 k12 (by decide)
  obtain ⟨u13, h13, k13, l13⟩ := sh_f w.1 kv0 (j := 13) (k := 14) (m := 6) rfl
  have n13 : v0 ≠ u13 := kne kv0 k13 (by decide)
  obtain ⟨u14, h14, k14, l14⟩ := sh_f w.1 kv0 (j := 14) (k := 14) (m := 6) rfl
  have n14 : v0 ≠ u14 := kne kv0 k14 (by decide)
  obtain ⟨u15, h15, k15, l15⟩ := sh_f w.1 kv0 (j := 15) (k := 14) (m := 6) rfl
  have n15 : v0 ≠ u15 := kne kv0 k15 (by decide)
  obtain ⟨u16, h16, k16, l16⟩ := sh_f w.1 kv0 (j := 16) (k := 14) (m := 6) rfl
  have n16 : v0 ≠ u16 := kne kv0 k16 (by decide)
  intro b9 e9
  cases h9.symm.trans e9
  refine ⟨vi_of (x := I1 v0 8) rfl (by rw [s1]; omega) (by rw [s1]; omega), ?_⟩
  intro J9 x9
  rw [s1] at x9
  have y9 : WD Z J9 := by rw [x9]; exact WD_putA w1 12 9 kv0 h9 k9 rfl rfl (by decide) ⟨by omega, by omega⟩
  have g9 : FR Ws_X12_pilgrim Z I Z J9 := f1.trans w.1 w.2.1 (by rw [x9]; exact FR_upA w1.2.1 kv0 h9 k9 rfl rfl (by decide))
  have t9 : J9 v0 8 = I v0 8 := by rw [x9, jpI_ne n9]; exact s1
  intro b10 e10
  cases h10.symm.trans e10
  refine ⟨vi_of (x := J9 v0 8) rfl (by rw [t9]; omega) (by rw [t9]; omega), ?_⟩
  intro J10 x10
  rw [t9] at x10
  have y10 : WD Z J10 := by rw [x10]; exact WD_putA y9 12 10 kv0 h10 k10 rfl rfl (by decide) ⟨by omega, by omega⟩
  have g10 : FR Ws_X12_pilgrim Z I Z J10 := g9.trans w.1 w.2.1 (by rw [x10]; exact FR_upA y9.2.1 kv0 h10 k10 rfl rfl (by decide))
  have t10 : J10 v0 8 = I v0 8 := by rw [x10, jpI_ne n10]; exact t9
  intro b11 e11
  cases h11.symm.trans e11
  refine ⟨vi_of (x := J10 v0 8) rfl (by rw [t10]; omega) (by rw [t10]; omega), ?_⟩
  intro J11 x11
  rw [t10] at x11
  have y11 : WD Z J11 := by rw [x11]; exact WD_putA y10 12 11 kv0 h11 k11 rfl rfl (by decide) ⟨by omega, by omega⟩
  have g11 : FR Ws_X12_pilgrim Z I Z J11 := g10.trans w.1 w.2.1 (by rw [x11]; exact FR_upA y10.2.1 kv0 h11 k11 rfl rfl (by decide))
  have t11 : J11 v0 8 = I v0 8 := by rw [x11, jpI_ne n11]; exact t10
  intro b12 e12
  cases h12.symm.trans e12
  refine ⟨vi_of (x := J11 v0 8) rfl (by rw [t11]; omega) (by rw [t11]; omega), ?_⟩
  intro J12 x12
  rw [t11] at x12
  have y12 : WD Z J12 := by rw [x12]; exact WD_putA y11 12 12 kv0 h12 k12 rfl rfl (by decide) ⟨by omega, by omega⟩
  have g12 : FR Ws_X12_pilgrim Z I Z J12 := g11.trans w.1 w.2.1 (by rw [x12]; exact FR_upA y11.2.1 kv0 h12 k12 rfl rfl (by decide))
  have t12 : J12 v0 8 = I v0 8 := by rw [x12, jpI_ne n12]; exact t11
  intro b13 e13
  cases h13.symm.trans e13
  refine ⟨vi_of (x := J12 v0 8) rfl (by rw [t12]; omega) (by rw [t12]; omega), ?_⟩
  intro J13 x13
  rw [t12] at x13
  have y13 : WD Z J13 := by rw [x13]; exact WD_putA y12 12 13 kv0 h13 k13 rfl rfl (by decide) trivial
  have g13 : FR Ws_X12_pilgrim Z I Z J13 := g12.trans w.1 w.2.1 (by rw [x13]; exact FR_upA y12.2.1 kv0 h13 k13 rfl rfl (by decide))
  have t13 : J13 v0 8 = I v0 8 := by rw [x13, jpI_ne n13]; exact t12
  intro b14 e14
  cases h14.symm.trans e14
  refine ⟨vi_of (x := J13 v0 8) rfl (by rw [t13]; omega) (by rw [t13]; omega), ?_⟩
  intro J14 x14
  rw [t13] at x14
  have y14 : WD Z J14 := by rw [x14]; exact WD_putA y13 12 14 kv0 h14 k14 rfl rfl (by decide) ⟨by decide, by decide⟩
  have g14 : FR Ws_X12_pilgrim Z I Z J14 := g13.trans w.1 w.2.1 (by rw [x14]; exact FR_upA y13.2.1 kv0 h14 k14 rfl rfl (by decide))
  have t14 : J14 v0 8 = I v0 8 := by rw [x14, jpI_ne n14]; exact t13
  intro b15 e15
  cases h15.symm.trans e15
  refine ⟨vi_of (x := J14 v0 8) rfl (by rw [t14]; omega) (by rw [t14]; omega), ?_⟩
  intro J15 x15
  rw [t14] at x15
  have y15 : WD Z J15 := by rw [x15]; exact WD_putA y14 12 15 kv0 h15 k15 rfl rfl (by decide) trivial
  have g15 : FR Ws_X12_pilgrim Z I Z J15 := g14.trans w.1 w.2.1 (by rw [x15]; exact FR_upA y14.2.1 kv0 h15 k15 rfl rfl (by decide))
  have t15 : J15 v0 8 = I v0 8 := by rw [x15, jpI_ne n15]; exact t14
  intro b16 e16
  cases h16.symm.trans e16
  refine ⟨vi_of (x := J15 v0 8) rfl (by rw [t15]; omega) (by rw [t15]; omega), ?_⟩
  intro J16 x16
  rw [t15] at x16
  have y16 : WD Z J16 := by rw [x16]; exact WD_putA y15 12 16 kv0 h16 k16 rfl rfl (by decide) trivial
  have g16 : FR Ws_X12_pilgrim Z I Z J16 := g15.trans w.1 w.2.1 (by rw [x16]; exact FR_upA y15.2.1 kv0 h16 k16 rfl rfl (by decide))
  have t16 : J16 v0 8 = I v0 8 := by rw [x16, jpI_ne n16]; exact t15
  intro J e
  have tJ : (J v0 8).toInt = (I v0 8).toInt + 1 := by rw [e, jpI_at, t16]; exact i_add rfl z1 (by omega) (by omega)
  have wJ : WD Z J := by rw [e]; exact WD_putF y16 12 8 kv0 (by decide) (by decide) (by rw [t16]; constructor <;> rw [i_add (x := I v0 8) rfl z1 (by omega) (by omega)] <;> omega)
  have fJ : FR Ws_X12_pilgrim Z I Z J := g16.trans w.1 w.2.1 (by rw [e]; exact FR_putF kv0 (by decide) (by decide))
  have rJ : (J v0 8 - 1).toInt = (I v0 8).toInt := (i_sub tJ z1 (by omega) (by omega)).trans (by omega)
  refine hQ _ J L wJ fJ (Or.inr ⟨rJ, tJ, by omega, by omega⟩) (Or.inr ⟨by omega, fun m u hm1 hm2 hu => ?_⟩)
  have hm : m = 9 ∨ m = 10 ∨ m = 11 ∨ m = 12 ∨ m = 13 ∨ m = 14 ∨ m = 15 ∨ m = 16 := by omega
  rcases hm with rfl | rfl | rfl | rfl | rfl | rfl | rfl | rfl
  · cases h9.symm.trans hu
    have b9 : I1 u9 = I u9 := by exact o1 u9 (fun e9 => n9 e9.symm)
    rw [e, jpI_ne (fun e9 => n9 e9.symm), x16, jpI_ne (dne w.2.1 kv0 h9 h16 rfl rfl (by decide)), x15, jpI_ne (dne w.2.1 kv0 h9 h15 rfl rfl (by decide)), x14, jpI_ne (dne w.2.1 kv0 h9 h14 rfl rfl (by decide)), x13, jpI_ne (dne w.2.1 kv0 h9 h13 rfl rfl (by decide)), x12, jpI_ne (dne w.2.1 kv0 h9 h12 rfl rfl (by decide)), x11, jpI_ne (dne w.2.1 kv0 h9 h11 rfl rfl (by decide)), x10, jpI_ne (dne w.2.1 kv0 h9 h10 rfl rfl (by decide)), x9, ← b9]
    exact va_up_self _ _ _
  · cases h10.symm.trans hu
    have b9 : J9 u10 = I u10 := by rw [x9, jpI_ne (dne w.2.1 kv0 h10 h9 rfl rfl (by decide))]; exact o1 u10 (fun e9 => n10 e9.symm)
    rw [e, jpI_ne (fun e9 => n10 e9.symm), x16, jpI_ne (dne w.2.1 kv0 h10 h16 rfl rfl (by decide)), x15, jpI_ne (dne w.2.1 kv0 h10 h15 rfl rfl (by decide)), x14, jpI_ne (dne w.2.1 kv0 h10 h14 rfl rfl (by decide)), x13, jpI_ne (dne w.2.1 kv0 h10 h13 rfl rfl (by decide)), x12, jpI_ne (dne w.2.1 kv0 h10 h12 rfl rfl (by decide)), x11, jpI_ne (dne w.2.1 kv0 h10 h11 rfl rfl (by decide)), x10, ← b9]
    exact va_up_self _ _ _
  · cases h11.symm.trans hu
    have b9 : J10 u11 = I u11 := by rw [x10, jpI_ne (dne w.2.1 kv0 h11 h10 rfl rfl (by decide)), x9, jpI_ne (dne w.2.1 kv0 h11 h9 rfl rfl (by decide))]; exact o1 u11 (fun e9 => n11 e9.symm)
    rw [e, jpI_ne (fun e9 => n11 e9.symm), x16, jpI_ne (dne w.2.1 kv0 h11 h16 rfl rfl (by decide)), x15, jpI_ne (dne w.2.1 kv0 h11 h15 rfl rfl (by decide)), x14, jpI_ne (dne w.2.1 kv0 h11 h14 rfl rfl (by decide)), x13, jpI_ne (dne w.2.1 kv0 h11 h13 rfl rfl (by decide)), x12, jpI_ne (dne w.2.1 kv0 h11 h12 rfl rfl (by decide)), x11, ← b9]
    exact va_up_self _ _ _
  · cases h12.symm.trans hu
    have b9 : J11 u12 = I u12 := by rw [x11, jpI_ne (dne w.2.1 kv0 h12 h11 rfl rfl (by decide)), x10, jpI_ne (dne w.2.1 kv0 h12 h10 rfl rfl (by decide)), x9, jpI_ne (dne w.2.1 kv0 h12 h9 rfl rfl (by decide))]; exact o1 u12 (fun e9 => n12 e9.symm)
    rw [e, jpI_ne (fun e9 => n12 e9.symm), x16, jpI_ne (dne w.2.1 kv0 h12 h16 rfl rfl (by decide)), x15, jpI_ne (dne w.2.1 kv0 h12 h15 rfl rfl (by decide)), x14, jpI_ne (dne w.2.1 kv0 h12 h14 rfl rfl (by decide)), x13, jpI_ne (dne w.2.1 kv0 h12 h13 rfl rfl (by decide)), x12, ← b9]
    exact va_up_self _ _ _
  · cases h13.symm.trans hu
    have b9 : J12 u13 = I u13 := by rw [x12, jpI_ne (dne w.2.1 kv0 h13 h12 rfl rfl (by decide)), x11, jpI_ne (dne w.2.1 kv0 h13 h11 rfl rfl (by decide)), x10, jpI_ne (dne w.2.1 kv0 h13 h10 rfl rfl (by decide)), x9, jpI_ne (dne w.2.1 kv0 h13 h9 rfl rfl (by decide))]; exact o1 u13 (fun e9 => n13 e9.symm)
    rw [e, jpI_ne (fun e9 => n13 e9.symm), x16, jpI_ne (dne w.2.1 kv0 h13 h16 rfl rfl (by decide)), x15, jpI_ne (dne w.2.1 kv0 h13 h15 rfl rfl (by decide)), x14, jpI_ne (dne w.2.1 kv0 h13 h14 rfl rfl (by decide)), x13, ← b9]
    exact va_up_self _ _ _
  · cases h14.symm.trans hu
    have b9 : J13 u14 = I u14 := by rw [x13, jpI_ne (dne w.2.1 kv0 h14 h13 rfl rfl (by decide)), x12, jpI_ne (dne w.2.1 kv0 h14 h12 rfl rfl (by decide)), x11, jpI_ne (dne w.2.1 kv0 h14 h11 rfl rfl (by decide)), x10, jpI_ne (dne w.2.1 kv0 h14 h10 rfl rfl (by decide)), x9, jpI_ne (dne w.2.1 kv0 h14 h9 rfl rfl (by decide))]; exact o1 u14 (fun e9 => n14 e9.symm)
    rw [e, jpI_ne (fun e9 => n14 e9.symm), x16, jpI_ne (dne w.2.1 kv0 h14 h16 rfl rfl (by decide)), x15, jpI_ne (dne w.2.1 kv0 h14 h15 rfl rfl (by decide)), x14, ← b9]
    exact va_up_self _ _ _
  · cases h15.symm.trans hu
    have b9 : J14 u15 = I u15 := by rw [x14, jpI_ne (dne w.2.1 kv0 h15 h14 rfl rfl (by decide)), x13, jpI_ne (dne w.2.1 kv0 h15 h13 rfl rfl (by decide)), x12, jpI_ne (dne w.2.1 kv0 h15 h12 rfl rfl (by decide)), x11, jpI_ne (dne w.2.1 kv0 h15 h11 rfl rfl (by decide)), x10, jpI_ne (dne w.2.1 kv0 h15 h10 rfl rfl (by decide)), x9, jpI_ne (dne w.2.1 kv0 h15 h9 rfl rfl (by decide))]; exact o1 u15 (fun e9 => n15 e9.symm)
    rw [e, jpI_ne (fun e9 => n15 e9.symm), x16, jpI_ne (dne w.2.1 kv0 h15 h16 rfl rfl (by decide)), x15, ← b9]
    exact va_up_self _ _ _
  · cases h16.symm.trans hu
    have b9 : J15 u16 = I u16 := by rw [x15, jpI_ne (dne w.2.1 kv0 h16 h15 rfl rfl (by decide)), x14, jpI_ne (dne w.2.1 kv0 h16 h14 rfl rfl (by decide)), x13, jpI_ne (dne w.2.1 kv0 h16 h13 rfl rfl (by decide)), x12, jpI_ne (dne w.2.1 kv0 h16 h12 rfl rfl (by decide)), x11, jpI_ne (dne w.2.1 kv0 h16 h11 rfl rfl (by decide)), x10, jpI_ne (dne w.2.1 kv0 h16 h10 rfl rfl (by decide)), x9, jpI_ne (dne w.2.1 kv0 h16 h9 rfl rfl (by decide))]; exact o1 u16 (fun e9 => n16 e9.symm)
    rw [e, jpI_ne (fun e9 => n16 e9.symm), x16, ← b9]
    exact va_up_self _ _ _
/-- of each told pilgrim a number is the same on both sides -/
def PRr (j : Nat) (Z : jZ) (I : jI) (v1 uA uM : Nat) : Prop := ∀ i : Nat, (i : Int) < (I v1 4).toInt → ∃ p, jr Z uA i = some p ∧ jk Z p 5 ∧ I p j = I uM i
theorem PRr_fr {W : List (Nat × Nat)} {j : Nat} {Z Z' : jZ} {I I' : jI} {v1 uA uM : Nat} (f : FR W Z I Z' I') (k1 : jk Z v1 11) (kA : jk Z uA 18) (eM : I' uM = I uM) (n0 : (11, 4) ∉ W) (n1 : (5, j) ∉ W) (h : PRr j Z I v1 uA uM) : PRr j Z' I' v1 uA uM := by
  intro i hi
  rw [f.2.2.1 v1 11 4 k1 (by decide) n0] at hi
  obtain ⟨p, hp, kp, e⟩ := h i hi
  refine ⟨p, (f.2.1 uA 18 i kA (by omega) (by omega)).trans hp, (f.1 _ _ kp).1, ?_⟩
  rw [f.2.2.1 p 5 j kp (by decide) n1, eM]
  exact e
theorem eMf {W : List (Nat × Nat)} {m : Nat} {Z Z' : jZ} {I I' : jI} {v2 uM : Nat} (f : FR W Z I Z' I') (k2 : jk Z v2 12) (hM : jr Z v2 m = some uM) (kM : jk Z uM 14) (hs : jsr 12 m = false) (n2 : (12, m) ∉ W) : I' uM = I uM := f.2.2.2 v2 12 m uM k2 hM (by rw [kM.2]; rfl) hs n2
theorem clampE {x y : Int32} (h : x.toInt = y.toInt) : x.toNatClampNeg = y.toNatClampNeg := by
  show x.toInt.toNat = y.toInt.toNat
  rw [h]
theorem PRr_pil {W : List (Nat × Nat)} {j m : Nat} {Z Z' : jZ} {I I' I2 : jI} {v1 v2 uA uM : Nat} {a1 a2 a3 a4 r1 r2 : Int32} (h : PRr j Z I v1 uA uM) (x : jext Z Z') (f : FRp Z I Z' I') (n : NPp Z I Z' I' v1 a1 a2 a3 a4 r1) (p : PSp v1 a1 a2 a3 a4 r1 I I') (f2 : FR W Z' I' Z' I2) (n2 : NQm Z' I' I2 v2 a1 a2 a3 a4 r2) (er : r1.toInt = r2.toInt) (e48 : (I v1 4).toInt = (I v2 8).toInt)
    (k1 : jk Z v1 11) (k2 : jk Z v2 12) (hA : jr Z v1 3 = some uA) (kM : jk Z uM 14) (hM : jr Z v2 m = some uM) (hm : 9 ≤ m ∧ m ≤ 16) (w1 : (5, j) ∉ W) (w2 : (11, 4) ∉ W) (hv : ∀ z, PVp z a1 a2 a3 a4 → z j = pvm a1 a2 a3 a4 m) : PRr j Z' I2 v1 uA uM := by
  have hM' : jr Z' v2 m = some uM := (f.1 v2 12 m k2 (by decide)).trans hM
  rcases n with ⟨hr, rfl, rfl⟩ | ⟨hr, hn⟩
  · rcases n2 with ⟨-, ho⟩ | ⟨hr2, -⟩
    · intro i hi
      rw [ho v1 (kne k1 k2 (by decide))] at hi
      obtain ⟨q, hq, kq, e⟩ := h i hi
      refine ⟨q, hq, kq, ?_⟩
      rw [ho q (kne kq k2 (by decide)), ho uM (kne kM k2 (by decide))]
      exact e
    · exact absurd (er.symm.trans hr) hr2
  · rcases n2 with ⟨hr2, -⟩ | ⟨-, ho⟩
    · exact absurd (er.trans hr2) hr
    · obtain ⟨-, hoff, q, hq, kq, pq⟩ := hn uA hA
      have e8 : I' v2 8 = I v2 8 := f.2 v2 12 8 k2 (by decide)
      have eN : (I v1 4).toNatClampNeg = (I' v2 8).toNatClampNeg := by rw [e8]; exact clampE e48
      have eU := ho m uM hm.1 hm.2 hM'
      have t : (I' v1 4).toInt = (I v1 4).toInt + 1 := by
        rcases p with ⟨h1, -⟩ | ⟨-, h2, -⟩
        · exact absurd h1 hr
        · exact h2
      have k1' := (x _ _ k1).1
      intro i hi
      rw [f2.2.2.1 v1 11 4 k1' (by decide) w2, t] at hi
      by_cases hin : i = (I v1 4).toNatClampNeg
      · refine ⟨q, by rw [hin]; exact hq, kq, ?_⟩
        rw [f2.2.2.1 q 5 j kq (by decide) w1, eU, hin, eN, hv _ pq]
        exact (if_pos rfl).symm
      · have hi0 : (i : Int) < (I v1 4).toInt := by
          have h0 : 0 ≤ (I v1 4).toInt ∨ (I v1 4).toInt < 0 := by omega
          rcases h0 with h0 | h0
          · have := i_nat (x := I v1 4) rfl h0
            omega
          · omega
        obtain ⟨b, hb, kb, e⟩ := h i hi0
        have kb' := (x _ _ kb).1
        refine ⟨b, (hoff i hin).trans hb, kb', ?_⟩
        rw [f2.2.2.1 b 5 j kb' (by decide) w1, eU, f.2 b 5 j kb (by omega), e]
        have e1 : upd (I' uM) (I' v2 8).toNatClampNeg (pvm a1 a2 a3 a4 m) i = I' uM i := if_neg (fun g => hin (by rw [eN]; exact g))
        rw [e1, f.2 uM 14 i kM (by omega)]
/-- vow on both sides -/
def VO11 (Z : jZ) (I I' : jI) (v0 uA : Nat) (v1 v2 r : Int32) : Prop := (r.toInt = -1 ∧ I' = I ∧ ¬ (0 ≤ v1.toInt ∧ v1.toInt < (I v0 4).toInt ∧ 0 ≤ v2.toInt ∧ v2.toInt ≤ 255)) ∨ ((0 ≤ v1.toInt ∧ v1.toInt < (I v0 4).toInt ∧ 0 ≤ v2.toInt ∧ v2.toInt ≤ 255) ∧ ∃ p, jr Z uA v1.toNatClampNeg = some p ∧ jk Z p 5 ∧ r = I p 4 ∧ I' = jpI I p 4 v2)
def VO12 (I I' : jI) (v0 uV : Nat) (v1 v2 r : Int32) : Prop := (r.toInt = -1 ∧ (∀ a, a ≠ v0 → I' a = I a) ∧ ¬ (0 ≤ v1.toInt ∧ v1.toInt < (I v0 8).toInt ∧ 0 ≤ v2.toInt ∧ v2.toInt ≤ 255)) ∨ ((0 ≤ v1.toInt ∧ v1.toInt < (I v0 8).toInt ∧ 0 ≤ v2.toInt ∧ v2.toInt ≤ 255) ∧ r = I uV v1.toNatClampNeg ∧ (∀ a, a ≠ v0 → a ≠ uV → I' a = I a) ∧ I' uV = upd (I uV) v1.toNatClampNeg v2)
theorem s12_X11_vow {Z : jZ} {I : jI} {L : jL} (w : WD Z I) (v0 : Nat) (v1 v2 : Int32) (kv0 : jk Z v0 11) (uA : Nat) (hA : jr Z v0 3 = some uA) (uV : Nat) (hp : PRr 4 Z I v0 uA uV) {Q : Int32 → jI → jL → Prop} (hQ : ∀ (r : Int32) (I' : jI) (L' : jL), WD Z I' → FR Ws_X11_vow Z I Z I' → VO11 Z I I' v0 uA v1 v2 r → Q r I' L') : f_X11_vow v0 v1 v2 Z I L Q := by
  have bad : ¬ (0 ≤ v1.toInt ∧ v1.toInt < (I v0 4).toInt ∧ 0 ≤ v2.toInt ∧ v2.toInt ≤ 255) → Q (-1 : Int32) I L := fun h => hQ _ I L w FR.rf (Or.inl ⟨rfl, rfl, h⟩)
  have t4 : 0 ≤ (I v0 4).toInt ∧ (I v0 4).toInt ≤ 6 := w.fld 11 4 kv0 (by decide)
  unfold f_X11_vow f_X11_find f_X11_find_b30
  refine ⟨fun c => ?_, fun c => ?_⟩
  · have c := (i_lt (x := v1) (y := 0) rfl (show (0 : Int32).toInt = 0 from rfl)).mp c
    exact ⟨fun _ => bad (by omega), fun b hb => (by cases hb)⟩
  have c := (not_congr (i_lt (x := v1) (y := 0) rfl (show (0 : Int32).toInt = 0 from rfl))).mp c
  refine ⟨fun c1 => ?_, fun c1 => ?_⟩
  · have c1 := (i_le (x := I v0 4) (y := v1) rfl rfl).mp c1
    exact ⟨fun _ => bad (by omega), fun b hb => (by cases hb)⟩
  have c1 := (not_congr (i_le (x := I v0 4) (y := v1) rfl rfl)).mp c1
  intro b3 e3
  refine ⟨fun c2 => ?_, fun c2 => ?_⟩
  · have c2 := (i_le (x := 6) (y := v1) (show (6 : Int32).toInt = 6 from rfl) rfl).mp c2
    exact absurd c2 (by omega)
  intro b5 e5
  cases hA.symm.trans e5
  have n1 := i_nat (x := v1) rfl (by omega)
  obtain ⟨p, hpp, kp, -⟩ := hp v1.toNatClampNeg (by omega)
  refine ⟨vi_of rfl (by omega) (by omega), fun hn => ?_, fun b7 h7 => ?_⟩
  · rw [hpp] at hn; cases hn
  cases hpp.symm.trans h7
  refine ⟨fun hn => (by cases hn), fun b8 h8 => ?_⟩
  cases h8
  refine ⟨fun c3 => ?_, fun c3 => ⟨fun c4 => ?_, fun c4 => ?_⟩⟩
  · have c3 := (i_lt (x := v2) (y := 0) rfl (show (0 : Int32).toInt = 0 from rfl)).mp c3
    exact bad (by omega)
  · have c3 := (not_congr (i_lt (x := v2) (y := 0) rfl (show (0 : Int32).toInt = 0 from rfl))).mp c3
    have c4 := (i_le (x := v2) (y := 255) rfl (show (255 : Int32).toInt = 255 from rfl)).mp c4
    intro x12 e12 I13 e13
    refine hQ x12 I13 L ?_ ?_ (Or.inr ⟨by omega, p, hpp, kp, e12, e13⟩)
    · rw [e13]; exact WD_putF w 5 4 kp (by decide) (by decide) trivial
    · rw [e13]; exact FR_putF kp (by decide) List.mem_cons_self
  · have c4 := (not_congr (i_le (x := v2) (y := 255) rfl (show (255 : Int32).toInt = 255 from rfl))).mp c4
    exact bad (by omega)
theorem s12_X12_vow {Z : jZ} {I : jI} {L : jL} (w : WD Z I) (v0 : Nat) (v1 v2 : Int32) (kv0 : jk Z v0 12) (uV : Nat) (hV : jr Z v0 13 = some uV) {Q : Int32 → jI → jL → Prop} (hQ : ∀ (r : Int32) (I' : jI) (L' : jL), WD Z I' → FR Ws_X12_vow Z I Z I' → VO12 I I' v0 uV v1 v2 r → Q r I' L') : f_X12_vow v0 v1 v2 Z I L Q := by
  obtain ⟨x, ex, kV, lV⟩ := sh_f w.1 kv0 (j := 13) (k := 14) (m := 6) rfl
  cases hV.symm.trans ex
  have nV : uV ≠ v0 := kne kV kv0 (by decide)
  unfold f_X12_vow
  intro I1 e1
  have w1 : WD Z I1 := by rw [e1]; exact WD_putF w 12 22 kv0 (by decide) (by decide) trivial
  have f1 : FR Ws_X12_vow Z I Z I1 := by rw [e1]; exact FR_putF kv0 (by decide) (by decide)
  have o1 : ∀ a, a ≠ v0 → I1 a = I a := fun a ha => by rw [e1]; exact jpI_ne ha
  have s8 : I1 v0 8 = I v0 8 := by rw [e1]; exact jpI_o (by decide)
  have z0 : (0 : Int32).toInt = 0 := rfl
  have z2 : (255 : Int32).toInt = 255 := rfl
  have bad : ¬ (0 ≤ v1.toInt ∧ v1.toInt < (I v0 8).toInt ∧ 0 ≤ v2.toInt ∧ v2.toInt ≤ 255) → Q (-1 : Int32) I1 L := fun h => hQ _ I1 L w1 f1 (Or.inl ⟨rfl, o1, h⟩)
  have t8 : 0 ≤ (I v0 8).toInt ∧ (I v0 8).toInt ≤ 6 := w.fld 12 8 kv0 (by decide)
  refine s_X12_isOne w1 v0 v1 kv0 (fun r p => ?_)
  rw [s8] at p
  refine ⟨fun c => ?_, fun c => ?_⟩
  · have c := (i_eq rfl z0).mp c
    exact bad (by omega)
  have c := (not_congr (i_eq rfl z0)).mp c
  refine s_X12_in w1 _ _ _ (fun r2 p2 => ?_)
  refine ⟨fun c2 => ?_, fun c2 => ?_⟩
  · have c2 := (not_congr (i_eq rfl z0)).mp c2
    have n1 := i_nat (x := v1) rfl (by omega)
    intro b18 e18
    cases hV.symm.trans e18
    refine ⟨vi_of rfl (by omega) (by omega), ?_⟩
    intro x20 e20 b21 e21
    cases hV.symm.trans e21
    refine ⟨vi_of rfl (by omega) (by omega), ?_⟩
    intro I23 e23
    refine hQ x20 I23 L ?_ ?_ (Or.inr ⟨by omega, ?_, fun a h1 h2 => ?_, ?_⟩)
    · rw [e23]; exact WD_putA w1 12 13 kv0 hV kV rfl rfl (by decide) trivial
    · refine f1.trans w.1 w.2.1 ?_
      rw [e23]; exact FR_upA w1.2.1 kv0 hV kV rfl rfl (by decide)
    · rw [e20, o1 uV nV]
    · rw [e23, jpI_ne h2, o1 a h1]
    · rw [e23, ← o1 uV nV]; exact va_up_self _ _ _
  · have c2 := (i_eq rfl z0).mp c2
    exact bad (by omega)
theorem PRr_vow {Z : jZ} {I0 I1 I2 : jI} {v1 v2 uA uV : Nat} {a b r1 r2 : Int32} (uq : UQ Z) (h : PRr 4 Z I0 v1 uA uV) (k1 : jk Z v1 11) (kA : jk Z uA 18) (k2 : jk Z v2 12) (kV : jk Z uV 14) (e48 : (I0 v1 4).toInt = (I0 v2 8).toInt) (p1 : VO11 Z I0 I1 v1 uA a b r1) (p2 : VO12 I1 I2 v2 uV a b r2) : r1.toInt = r2.toInt ∧ PRr 4 Z I2 v1 uA uV := by
  rcases p1 with ⟨h1, rfl, hn⟩ | ⟨hc, p, hp, kp, e1, e2⟩
  · rcases p2 with ⟨h2, ho, -⟩ | ⟨hc, -⟩
    · refine ⟨h1.trans h2.symm, fun i hi => ?_⟩
      rw [ho v1 (kne k1 k2 (by decide))] at hi
      obtain ⟨q, hq, kq, e⟩ := h i hi
      exact ⟨q, hq, kq, by rw [ho q (kne kq k2 (by decide)), ho uV (kne kV k2 (by decide))]; exact e⟩
    · exact absurd hc (by rw [← e48]; exact hn)
  · have o1 : ∀ x, x ≠ p → I1 x = I0 x := fun x hx => by rw [e2]; exact jpI_ne hx
    have np : uV ≠ p := kne kV kp (by decide)
    have n2 : v2 ≠ p := kne k2 kp (by decide)
    have n1 : v1 ≠ p := kne k1 kp (by decide)
    rcases p2 with ⟨-, -, hn⟩ | ⟨-, e3, ho, eV⟩
    · rw [o1 v2 n2] at hn
      exact absurd hc (by rw [e48]; exact hn)
    · obtain ⟨q, hq, kq, e⟩ := h a.toNatClampNeg (by have := i_nat (x := a) rfl hc.1; omega)
      cases hp.symm.trans hq
      refine ⟨by rw [e1, e3, e, o1 uV np], fun i hi => ?_⟩
      rw [ho v1 (kne k1 k2 (by decide)) (kne k1 kV (by decide)), o1 v1 n1] at hi
      obtain ⟨q', hq', kq', e'⟩ := h i hi
      refine ⟨q', hq', kq', ?_⟩
      rw [ho q' (kne kq' k2 (by decide)) (kne kq' kV (by decide)), eV, o1 uV np]
      by_cases hia : i = a.toNatClampNeg
      · have : q' = p := by rw [hia, hp] at hq'; exact (Option.some.inj hq').symm
        rw [this, e2, jpI_at, hia]
        exact (if_pos rfl).symm
      · have hne : q' ≠ p := fun g => by
          subst g
          exact hia (uq.2.2 uA 18 i uA 18 a.toNatClampNeg q' kA kA hq' hp rfl rfl).2
        rw [o1 q' hne, e']
        exact (if_neg hia).symm
/-- breaks of the reference leaves the vows as they were -/
theorem bk_L56 {B : Nat × Nat} {T : Nat} {Z0 : jZ} {I0 : jI} {Q : Int32 → jZ → jI → jL → Prop} (w0 : WD Z0 I0) (v0 : Nat) (v1 : Int32) (kv0 : jk Z0 v0 12) (uV : Nat) (hV : jr Z0 v0 13 = some uV) (v2 v3 : Int32) (hv3 : v3 = I0 uV v1.toNatClampNeg) (hp : 0 ≤ v1.toInt ∧ v1.toInt ≤ 5)
    (hQ : ∀ (r : Int32) (Z' : jZ) (I' : jI) (L' : jL), WD Z' I' → BUD B Z' T → FR Ws_X12_breaks Z0 I0 Z' I' → CP Z0 Z' → I' uV = I0 uV → Q r Z' I' L') :
    ∀ (n : Nat) (v4 v5 v6 : Int32) (Z : jZ) (I : jI) (L : jL), WD Z I → BUD B Z T → FR Ws_X12_breaks Z0 I0 Z I → CP Z0 Z → (∀ i, i ≠ v1.toNatClampNeg → I uV i = I0 uV i) → 1 ≤ (I v0 0).toInt → 0 ≤ v6.toInt → v6.toInt ≤ 8 → 9 ≤ (n : Int) + v6.toInt → f_X12_breaks_L56 B Q n v0 v1 v2 v3 v4 v5 v6 Z I L := by
  intro n
  induction n with
  | zero => intro v4 v5 v6 Z I L w bd q cp ho h0 h1 h2 h3; exfalso; omega
  | succ n ih =>
    intro v4 v5 v6 Z I L w bd q cp ho h0 h1 h2 h3
    have k := (q.1 _ _ kv0).1
    have hVZ : jr Z v0 13 = some uV := (q.2.1 v0 12 13 kv0 (by decide) (by decide)).trans hV
    obtain ⟨x, ex, kV, lV⟩ := sh_f w.1 k (j := 13) (k := 14) (m := 6) rfl
    cases hVZ.symm.trans ex
    have nV : uV ≠ v0 := kne kV k (by decide)
    have n1 := i_nat (x := v1) rfl hp.1
    unfold f_X12_breaks_L56
    refine ⟨fun c => ?_, fun c => ?_⟩
    · intro b4 e4
      cases hVZ.symm.trans e4
      refine ⟨vi_of rfl (by omega) (by omega), ?_⟩
      intro I6 e6
      have w6 : WD Z I6 := by rw [e6]; exact WD_putA w 12 13 k hVZ kV rfl rfl (by decide) trivial
      have q6 : FR Ws_X12_breaks Z0 I0 Z I6 := q.trans w0.1 w0.2.1 (by rw [e6]; exact FR_upA w.2.1 k hVZ kV rfl rfl (by decide))
      have eV : I6 uV = I0 uV := funext fun i => by
        by_cases hi : i = v1.toNatClampNeg
        · rw [e6, hi, jpI_at]; exact hv3
        · rw [e6, jpI_off hi]; exact ho i hi
      refine ⟨fun c4 => ?_, fun c4 => hQ _ Z I6 L w6 bd q6 cp eV⟩
      intro I8 e8
      have w8 : WD Z I8 := by rw [e8]; exact WD_putF w6 12 21 k (by decide) (by decide) ⟨by decide, by decide⟩
      have q8 : FR Ws_X12_breaks Z0 I0 Z I8 := q6.trans w0.1 w0.2.1 (by rw [e8]; exact FR_putF k (by decide) (by decide))
      have eV8 : I8 uV = I0 uV := by rw [e8, jpI_ne nV]; exact eV
      have t8 : (I8 v0 21).toInt = 0 := by rw [e8, jpI_at]; rfl
      refine s_X12_tell w8 v0 _ k (by omega) (fun I11 L12 w11 f11 p11 => ?_)
      refine s_X12_tell w11 v0 _ k (by omega) (fun I17 L18 w17 f17 p17 => ?_)
      refine hQ _ Z I17 L18 w17 bd ((q8.trans w0.1 w0.2.1 (f11.mono (by decide))).trans w0.1 w0.2.1 (f17.mono (by decide))) cp ?_
      rw [eMf f17 k hVZ kV rfl (by decide), eMf f11 k hVZ kV rfl (by decide)]
      exact eV8
    · have c := (not_congr (i_le (x := 8) (y := v6) (show (8 : Int32).toInt = 8 from rfl) rfl)).mp c
      have nx : ∀ x : Int32, x = v6 + 1 → x.toInt = v6.toInt + 1 := fun x e => by rw [e]; exact i_add rfl (show (1 : Int32).toInt = 1 from rfl) (by omega) (by omega)
      refine s_X12_has w v3 v6 (fun r27 => ⟨fun c27 => ?_, fun c27 => ?_⟩)
      · intro b29 e29
        cases hVZ.symm.trans e29
        refine ⟨vi_of rfl (by omega) (by omega), ?_⟩
        intro I31 e31
        have w31 : WD Z I31 := by rw [e31]; exact WD_putA w 12 13 k hVZ kV rfl rfl (by decide) trivial
        have q31 : FR Ws_X12_breaks Z0 I0 Z I31 := q.trans w0.1 w0.2.1 (by rw [e31]; exact FR_upA w.2.1 k hVZ kV rfl rfl (by decide))
        have o31 : ∀ i, i ≠ v1.toNatClampNeg → I31 uV i = I0 uV i := fun i hi => by rw [e31, jpI_off hi]; exact ho i hi
        have s31 : (I31 v0 0).toInt = (I v0 0).toInt := by rw [e31, jpI_ne (fun e => nV e.symm)]
        obtain ⟨b34, eb34, -⟩ := sh_f w31.1 k (j := 37) (k := 14) (m := 75) rfl
        obtain ⟨b35, eb35, -⟩ := sh_f w31.1 k (j := 38) (k := 14) (m := 75) rfl
        obtain ⟨b36, eb36, -⟩ := sh_f w31.1 k (j := 40) (k := 14) (m := 25000) rfl
        obtain ⟨b37, eb37, -⟩ := sh_f w31.1 k (j := 9) (k := 14) (m := 6) rfl
        obtain ⟨b38, eb38, -⟩ := sh_f w31.1 k (j := 44) (k := 14) (m := 24) rfl
        refine s_X12_findClimb w31 bd v0 v1 k b34 eb34 b35 eb35 b36 eb36 b37 eb37 b38 eb38 hp (by omega) (fun r38 Z33 I34 L35 w34 bd34 f34 c34 p34 => ?_)
        have q34 : FR Ws_X12_breaks Z0 I0 Z33 I34 := q31.trans w0.1 w0.2.1 (f34.mono (by decide))
        have cp34 : CP Z0 Z33 := cp.trans q31.1 c34
        have o34 : ∀ i, i ≠ v1.toNatClampNeg → I34 uV i = I0 uV i := fun i hi => by rw [eMf f34 k hVZ kV rfl (by decide)]; exact o31 i hi
        have s34 : (I34 v0 0).toInt = (I31 v0 0).toInt := by rw [f34.2.2.1 v0 12 0 k (by decide) (by decide)]
        have go : ∀ (y4 y5 : Int32), f_X12_breaks_b124 B (f_X12_breaks_L56 B Q n) Q v0 v1 v2 v3 y4 y5 v6 Z33 I34 L35 := fun y4 y5 x ex => ih y4 y5 x Z33 I34 L35 w34 bd34 q34 cp34 o34 (by omega) (by have := nx x ex; omega) (by have := nx x ex; omega) (by have := nx x ex; omega)
        refine ⟨fun _ => go _ _, fun _ => ⟨fun _ => ?_, fun _ => ⟨fun _ => ?_, fun _ => go _ _⟩⟩⟩
        · exact fun x2 _ => go _ _
        · exact fun x2 _ => go _ _
      · exact fun x ex => ih v4 v5 x Z I L w bd q cp ho h0 (by have := nx x ex; omega) (by have := nx x ex; omega) (by have := nx x ex; omega)
theorem s12_X12_breaks {B : Nat × Nat} {T : Nat} {Z : jZ} {I : jI} {L : jL} (w : WD Z I) (bd : BUD B Z T) (v0 : Nat) (v1 : Int32) (kv0 : jk Z v0 12) (uV : Nat) (hV : jr Z v0 13 = some uV) {Q : Int32 → jZ → jI → jL → Prop} (hQ : ∀ (r : Int32) (Z' : jZ) (I' : jI) (L' : jL), WD Z' I' → BUD B Z' T → FR Ws_X12_breaks Z I Z' I' → CP Z Z' → I' uV = I uV → Q r Z' I' L') : f_X12_breaks B v0 v1 Z I L Q := by
  obtain ⟨x, ex, kV, lV⟩ := sh_f w.1 kv0 (j := 13) (k := 14) (m := 6) rfl
  cases hV.symm.trans ex
  have nV : uV ≠ v0 := kne kV kv0 (by decide)
  have z0 : (0 : Int32).toInt = 0 := rfl
  unfold f_X12_breaks
  intro I1 e1
  have w1 : WD Z I1 := by rw [e1]; exact WD_putF w 12 22 kv0 (by decide) (by decide) trivial
  have f1 : FR Ws_X12_breaks Z I Z I1 := by rw [e1]; exact FR_putF kv0 (by decide) (by decide)
  have o1 : I1 uV = I uV := by rw [e1]; exact jpI_ne nV
  refine s_X12_isOne w1 v0 v1 kv0 (fun r p => ⟨fun c => hQ _ Z I1 L w1 bd f1 CP.rf o1, fun c => ⟨fun c2 => ?_, fun c2 => hQ _ Z I1 L w1 bd f1 CP.rf o1⟩⟩)
  have c := (not_congr (i_eq rfl z0)).mp c
  have c2 := (not_congr (i_eq (x := I1 v0 0) (y := 0) rfl z0)).mp c2
  have t0 : 0 ≤ (I1 v0 0).toInt ∧ (I1 v0 0).toInt ≤ 24 := w1.fld 12 0 kv0 (by decide)
  obtain ⟨b34, eb34, -⟩ := sh_f w1.1 kv0 (j := 37) (k := 14) (m := 75) rfl
  obtain ⟨b35, eb35, -⟩ := sh_f w1.1 kv0 (j := 38) (k := 14) (m := 75) rfl
  obtain ⟨b36, eb36, -⟩ := sh_f w1.1 kv0 (j := 40) (k := 14) (m := 25000) rfl
  obtain ⟨b37, eb37, -⟩ := sh_f w1.1 kv0 (j := 9) (k := 14) (m := 6) rfl
  obtain ⟨b38, eb38, -⟩ := sh_f w1.1 kv0 (j := 44) (k := 14) (m := 24) rfl
  refine s_X12_findClimb w1 bd v0 v1 kv0 b34 eb34 b35 eb35 b36 eb36 b37 eb37 b38 eb38 (by omega) (by omega) (fun r63 Z2 I2 L2 w2 bd2 f2 cp2 p2 => ?_)
  have q2 : FR Ws_X12_breaks Z I Z2 I2 := f1.trans w.1 w.2.1 (f2.mono (by decide))
  have o2 : I2 uV = I uV := (eMf f2 kv0 hV kV rfl (by decide)).trans o1
  have s2 : (I2 v0 0).toInt = (I1 v0 0).toInt := by rw [f2.2.2.1 v0 12 0 kv0 (by decide) (by decide)]
  have go : ∀ s : Int32, f_X12_breaks_b38 B Q v0 v1 s Z2 I2 L2 := fun s b43 e43 => by
    cases (((f2.2.1 v0 12 13 kv0 (by decide) (by decide)).trans hV).symm.trans e43)
    refine ⟨vi_of rfl (by omega) (by omega), ?_⟩
    intro x45 e45
    exact ⟨9, bk_L56 w v0 v1 kv0 uV hV s x45 (by rw [e45, o2]) (by omega) hQ 9 _ _ 0 Z2 I2 L2 w2 bd2 q2 cp2 (fun i _ => by rw [o2]) (by omega) (by decide) (by decide) (by decide)⟩
  exact ⟨fun _ => go _, fun _ => go _⟩
end
section
/-! ===== what THE STAIRS tell: the contents ===== -/
/-- of a line from a on: RISE, STATE, ASKS, whether a WIDOW's, FAMILY -/
def lnV (g : Int → Int) (a : Int) : Nat → Int := fun j => match j with
  | 0 => nv g a
  | 1 => nv g (a + nd g a + 1)
  | 2 => nv g (a + nd g a + 1 + nd g (a + nd g a + 1) + 1)
  | 3 => if g (a + nd g a + 1 + nd g (a + nd g a + 1) + 1 + nd g (a + nd g a + 1 + nd g (a + nd g a + 1) + 1) + 1 + 1) = 119 then 1 else 0
  | _ => g (a + nd g a + 1 + nd g (a + nd g a + 1) + 1 + nd g (a + nd g a + 1 + nd g (a + nd g a + 1) + 1) + 1) - 48
/-- of a STEP, as the lines from a on say it (n told before) -/
def cS (g : Int → Int) : Nat → Int → Int → Nat → Nat → Int
  | 0, _, _, _, _ => 0
  | k + 1, a, n, j, s => if (s : Int) < n + (lnA g a n).2.2 then lnV g a j else cS g k ((lnA g a n).2.1 + 1) (n + (lnA g a n).2.2) j s
theorem cS_here {g : Int → Int} {k : Nat} {a n : Int} {j s : Nat} (h : (s : Int) < n + (lnA g a n).2.2) : cS g (k + 1) a n j s = lnV g a j := by
  show (if _ then _ else _) = _
  rw [if_pos h]
theorem cS_step {g : Int → Int} {k : Nat} {a n : Int} {j s : Nat} (h : ¬ (s : Int) < n + (lnA g a n).2.2) : cS g (k + 1) a n j s = cS g k ((lnA g a n).2.1 + 1) (n + (lnA g a n).2.2) j s := by
  show (if _ then _ else _) = _
  rw [if_neg h]
/-- the contents of a text of s signs -/
def cT (f : Nat → Int32) (s : Int) : Nat → Nat → Int := fun j q => cS (GS f (min s 76)) 77 0 0 j q
theorem cT_cong {f g : Nat → Int32} {s : Int} (h : ∀ i : Nat, (i : Int) < s → f i = g i) : cT f s = cT g s := by
  unfold cT
  rw [GS_cong (f := f) (g := g) (s := s) (lim := min s 76) (by omega) h]
/-- the class's reader holds them -/
def CNt (cc : Nat → Nat → Int) (Z : jZ) (I : jI) (v0 : Nat) (n : Int) : Prop := ∀ j u, j < 5 → jr Z v0 j = some u → ∀ s : Nat, (s : Int) < n → (I u s).toInt = cc j s
theorem CNt_fld {cc : Nat → Nat → Int} {Z : jZ} {I : jI} {v0 i : Nat} {n : Int} {x : Int32} (sh : SH Z) (k0 : jk Z v0 9) (h : CNt cc Z I v0 n) : CNt cc Z (jpI I v0 i x) v0 n := by
  intro j u hj hu s hs
  have ku : jk Z u 14 := by
    have hj : j = 0 ∨ j = 1 ∨ j = 2 ∨ j = 3 ∨ j = 4 := by omega
    rcases hj with rfl | rfl | rfl | rfl | rfl
    · obtain ⟨b, e, kb, -⟩ := sh_f sh k0 (j := 0) (k := 14) (m := 24) rfl; cases hu.symm.trans e; exact kb
    · obtain ⟨b, e, kb, -⟩ := sh_f sh k0 (j := 1) (k := 14) (m := 24) rfl; cases hu.symm.trans e; exact kb
    · obtain ⟨b, e, kb, -⟩ := sh_f sh k0 (j := 2) (k := 14) (m := 24) rfl; cases hu.symm.trans e; exact kb
    · obtain ⟨b, e, kb, -⟩ := sh_f sh k0 (j := 3) (k := 14) (m := 24) rfl; cases hu.symm.trans e; exact kb
    · obtain ⟨b, e, kb, -⟩ := sh_f sh k0 (j := 4) (k := 14) (m := 24) rfl; cases hu.symm.trans e; exact kb
  have hne : u ≠ v0 := fun e => by subst e; have := k0.2.symm.trans ku.2; omega
  rw [jpI_ne hne]
  exact h j u hj hu s hs
theorem ds_ne {Z : jZ} {v0 c j j' b b' : Nat} (u : UQ Z) (k : jk Z v0 c) (h : jr Z v0 j = some b) (h' : jr Z v0 j' = some b') (s : jsr c j = false) (s' : jsr c j' = false) (n : j ≠ j') : b ≠ b' := fun e => by
  subst e
  exact n (u.2.2 v0 c j v0 c j' b k k h h' s s').2
theorem ks_ne {Z : jZ} {a b c d : Nat} (h : jk Z a c) (g : jk Z b d) (n : c ≠ d) : a ≠ b := fun e => by
  subst e
  exact n (h.2.symm.trans g.2)
set_option maxHeartbeats 1000000 in
theorem rc_put1 {cc : Nat → Nat → Int} {Z : jZ} {I : jI} {L : jL} {v0 : Nat} {n : Int} {v1 v2 v3 v4 v5 : Int32} {Q : jI → jL → Prop} (w : WD Z I) (k0 : jk Z v0 9) (cn : CNt cc Z I v0 n) (sn : (I v0 5).toInt = n) (hn : 0 ≤ n ∧ n < 24) (h3 : 0 ≤ v3.toInt ∧ v3.toInt ≤ 20) (hv : cc 0 n.toNat = v1.toInt ∧ cc 1 n.toNat = v2.toInt ∧ cc 2 n.toNat = v3.toInt ∧ cc 3 n.toNat = v4.toInt ∧ cc 4 n.toNat = v5.toInt)
    (hQ : ∀ (I' : jI) (L' : jL), WD Z I' → FR Ws_X9_put Z I Z I' → (I' v0 5).toInt = n + 1 → CNt cc Z I' v0 (n + 1) → Q I' L') : f_X9_put v0 v1 v2 v3 v4 v5 Z I L Q := by
  unfold f_X9_put
  refine ⟨fun c => ?_, fun c => ?_⟩
  · have c := (i_le (show (24 : Int32).toInt = 24 from rfl) sn).mp c
    omega
  obtain ⟨u0, hu0, ku0, l0⟩ := sh_f w.1 k0 (j := 0) (k := 14) (m := 24) rfl
  have n0 : v0 ≠ u0 := ks_ne k0 ku0 (by decide)
  obtain ⟨u1, hu1, ku1, l1⟩ := sh_f w.1 k0 (j := 1) (k := 14) (m := 24) rfl
  have n1 : v0 ≠ u1 := ks_ne k0 ku1 (by decide)
  obtain ⟨u2, hu2, ku2, l2⟩ := sh_f w.1 k0 (j := 2) (k := 14) (m := 24) rfl
  have n2 : v0 ≠ u2 := ks_ne k0 ku2 (by decide)
  obtain ⟨u3, hu3, ku3, l3⟩ := sh_f w.1 k0 (j := 3) (k := 14) (m := 24) rfl
  have n3 : v0 ≠ u3 := ks_ne k0 ku3 (by decide)
  obtain ⟨u4, hu4, ku4, l4⟩ := sh_f w.1 k0 (j := 4) (k := 14) (m := 24) rfl
  have n4 : v0 ≠ u4 := ks_ne k0 ku4 (by decide)
  have s0 : I v0 5 = I v0 5 := rfl
  intro b0 e0
  cases hu0.symm.trans e0
  refine ⟨vi_of (x := I v0 5) (A := n) (by rw [s0]; exact sn) (by omega) (by omega), ?_⟩
  intro J0 x0
  have y0 : WD Z J0 := by rw [x0]; exact WD_putA w 9 0 k0 hu0 ku0 rfl rfl (by decide) trivial
  have g0 : FR Ws_X9_put Z I Z J0 := by rw [x0]; exact FR_upA w.2.1 k0 hu0 ku0 rfl rfl (by decide)
  have t0 : J0 v0 5 = I v0 5 := by rw [x0, jpI_ne n0]
  intro b1 e1
  cases hu1.symm.trans e1
  refine ⟨vi_of (x := J0 v0 5) (A := n) (by rw [t0]; exact sn) (by omega) (by omega), ?_⟩
  intro J1 x1
  rw [t0] at x1
  have y1 : WD Z J1 := by rw [x1]; exact WD_putA y0 9 1 k0 hu1 ku1 rfl rfl (by decide) trivial
  have g1 : FR Ws_X9_put Z I Z J1 := g0.trans w.1 w.2.1 (by rw [x1]; exact FR_upA y0.2.1 k0 hu1 ku1 rfl rfl (by decide))
  have t1 : J1 v0 5 = I v0 5 := by rw [x1, jpI_ne n1]; exact t0
  intro b2 e2
  cases hu2.symm.trans e2
  refine ⟨vi_of (x := J1 v0 5) (A := n) (by rw [t1]; exact sn) (by omega) (by omega), ?_⟩
  intro J2 x2
  rw [t1] at x2
  have y2 : WD Z J2 := by rw [x2]; exact WD_putA y1 9 2 k0 hu2 ku2 rfl rfl (by decide) h3
  have g2 : FR Ws_X9_put Z I Z J2 := g1.trans w.1 w.2.1 (by rw [x2]; exact FR_upA y1.2.1 k0 hu2 ku2 rfl rfl (by decide))
  have t2 : J2 v0 5 = I v0 5 := by rw [x2, jpI_ne n2]; exact t1
  intro b3 e3
  cases hu3.symm.trans e3
  refine ⟨vi_of (x := J2 v0 5) (A := n) (by rw [t2]; exact sn) (by omega) (by omega), ?_⟩
  intro J3 x3
  rw [t2] at x3
  have y3 : WD Z J3 := by rw [x3]; exact WD_putA y2 9 3 k0 hu3 ku3 rfl rfl (by decide) trivial
  have g3 : FR Ws_X9_put Z I Z J3 := g2.trans w.1 w.2.1 (by rw [x3]; exact FR_upA y2.2.1 k0 hu3 ku3 rfl rfl (by decide))
  have t3 : J3 v0 5 = I v0 5 := by rw [x3, jpI_ne n3]; exact t2
  intro b4 e4
  cases hu4.symm.trans e4
  refine ⟨vi_of (x := J3 v0 5) (A := n) (by rw [t3]; exact sn) (by omega) (by omega), ?_⟩
  intro J4 x4
  rw [t3] at x4
  have y4 : WD Z J4 := by rw [x4]; exact WD_putA y3 9 4 k0 hu4 ku4 rfl rfl (by decide) trivial
  have g4 : FR Ws_X9_put Z I Z J4 := g3.trans w.1 w.2.1 (by rw [x4]; exact FR_upA y3.2.1 k0 hu4 ku4 rfl rfl (by decide))
  have t4 : J4 v0 5 = I v0 5 := by rw [x4, jpI_ne n4]; exact t3
  intro J e
  have z1 : (1 : Int32).toInt = 1 := rfl
  have tJ : (J v0 5).toInt = n + 1 := by rw [e, jpI_at, t4]; exact i_add sn z1 (by omega) (by omega)
  have wJ : WD Z J := by rw [e]; exact WD_putF y4 9 5 k0 (by decide) (by decide) (show rg 0 24 _ by rw [t4]; constructor <;> rw [i_add sn z1 (by omega) (by omega)] <;> omega)
  have fJ : FR Ws_X9_put Z I Z J := g4.trans w.1 w.2.1 (by rw [e]; exact FR_putF k0 (by decide) (by decide))
  have hN : (I v0 5).toNatClampNeg = n.toNat := by show (I v0 5).toInt.toNat = n.toNat; rw [sn]
  have key : ∀ j u, j < 5 → jr Z v0 j = some u → J u = upd (I u) n.toNat (match j with | 0 => v1 | 1 => v2 | 2 => v3 | 3 => v4 | _ => v5) := by
    intro j u hj hu
    have hj : j = 0 ∨ j = 1 ∨ j = 2 ∨ j = 3 ∨ j = 4 := by omega
    rcases hj with rfl | rfl | rfl | rfl | rfl
    · cases hu0.symm.trans hu
      have b9 : I u0 = I u0 := rfl
      rw [e, jpI_ne (fun e9 => n0 e9.symm), x4, jpI_ne (ds_ne w.2.1 k0 hu0 hu4 rfl rfl (by decide)), x3, jpI_ne (ds_ne w.2.1 k0 hu0 hu3 rfl rfl (by decide)), x2, jpI_ne (ds_ne w.2.1 k0 hu0 hu2 rfl rfl (by decide)), x1, jpI_ne (ds_ne w.2.1 k0 hu0 hu1 rfl rfl (by decide)), x0, ← b9, hN]
      exact va_up_self _ _ _
    · cases hu1.symm.trans hu
      have b9 : J0 u1 = I u1 := by rw [x0, jpI_ne (ds_ne w.2.1 k0 hu1 hu0 rfl rfl (by decide))]
      rw [e, jpI_ne (fun e9 => n1 e9.symm), x4, jpI_ne (ds_ne w.2.1 k0 hu1 hu4 rfl rfl (by decide)), x3, jpI_ne (ds_ne w.2.1 k0 hu1 hu3 rfl rfl (by decide)), x2, jpI_ne (ds_ne w.2.1 k0 hu1 hu2 rfl rfl (by decide)), x1, ← b9, hN]
      exact va_up_self _ _ _
    · cases hu2.symm.trans hu
      have b9 : J1 u2 = I u2 := by rw [x1, jpI_ne (ds_ne w.2.1 k0 hu2 hu1 rfl rfl (by decide)), x0, jpI_ne (ds_ne w.2.1 k0 hu2 hu0 rfl rfl (by decide))]
      rw [e, jpI_ne (fun e9 => n2 e9.symm), x4, jpI_ne (ds_ne w.2.1 k0 hu2 hu4 rfl rfl (by decide)), x3, jpI_ne (ds_ne w.2.1 k0 hu2 hu3 rfl rfl (by decide)), x2, ← b9, hN]
      exact va_up_self _ _ _
    · cases hu3.symm.trans hu
      have b9 : J2 u3 = I u3 := by rw [x2, jpI_ne (ds_ne w.2.1 k0 hu3 hu2 rfl rfl (by decide)), x1, jpI_ne (ds_ne w.2.1 k0 hu3 hu1 rfl rfl (by decide)), x0, jpI_ne (ds_ne w.2.1 k0 hu3 hu0 rfl rfl (by decide))]
      rw [e, jpI_ne (fun e9 => n3 e9.symm), x4, jpI_ne (ds_ne w.2.1 k0 hu3 hu4 rfl rfl (by decide)), x3, ← b9, hN]
      exact va_up_self _ _ _
    · cases hu4.symm.trans hu
      have b9 : J3 u4 = I u4 := by rw [x3, jpI_ne (ds_ne w.2.1 k0 hu4 hu3 rfl rfl (by decide)), x2, jpI_ne (ds_ne w.2.1 k0 hu4 hu2 rfl rfl (by decide)), x1, jpI_ne (ds_ne w.2.1 k0 hu4 hu1 rfl rfl (by decide)), x0, jpI_ne (ds_ne w.2.1 k0 hu4 hu0 rfl rfl (by decide))]
      rw [e, jpI_ne (fun e9 => n4 e9.symm), x4, ← b9, hN]
      exact va_up_self _ _ _
  refine hQ J L wJ fJ tJ (fun j u hj hu s hs => ?_)
  rw [key j u hj hu]
  by_cases q : s = n.toNat
  · rw [q]
    refine (congrArg Int32.toInt (if_pos rfl)).trans ?_
    have hj : j = 0 ∨ j = 1 ∨ j = 2 ∨ j = 3 ∨ j = 4 := by omega
    rcases hj with rfl | rfl | rfl | rfl | rfl
    · exact hv.1.symm
    · exact hv.2.1.symm
    · exact hv.2.2.1.symm
    · exact hv.2.2.2.1.symm
    · exact hv.2.2.2.2.symm
  · refine (congrArg Int32.toInt (if_neg q)).trans ?_
    exact cn j u hj hu s (by omega)
/-- the reference's rows hold them -/
def CM (cc : Nat → Nat → Int) (Z : jZ) (I : jI) (v0 : Nat) (n : Int) : Prop := ∀ u, jr Z v0 28 = some u → ∀ s : Nat, (s : Int) < n → (I u (5 * s)).toInt = cc 0 s ∧ (I u (5 * s + 1)).toInt = cc 1 s ∧ (I u (5 * s + 2)).toInt = cc 2 s ∧ (I u (5 * s + 3)).toInt = cc 4 s ∧ (I u (5 * s + 4)).toInt = cc 3 s
theorem CM_fld {cc : Nat → Nat → Int} {Z : jZ} {I : jI} {v0 i : Nat} {n : Int} {x : Int32} (sh : SH Z) (k0 : jk Z v0 12) (h : CM cc Z I v0 n) : CM cc Z (jpI I v0 i x) v0 n := by
  intro u hu s hs
  have ku : jk Z u 14 := by obtain ⟨b, e, kb, -⟩ := sh_f sh k0 (j := 28) (k := 14) (m := 120) rfl; cases hu.symm.trans e; exact kb
  have hne : u ≠ v0 := fun e => by subst e; have := k0.2.symm.trans ku.2; omega
  rw [jpI_ne hne]
  exact h u hu s hs
def RSc (cc : Nat → Nat → Int) (Z : jZ) (I0 : jI) (v0 : Nat) (lim : Int) (I : jI) (a n F : Int) : Prop := (WD Z I ∧ CNt cc Z I v0 n) ∧ FR Ws_X9_read Z I0 Z I ∧ (I v0 6).toInt = a ∧ (I v0 5).toInt = n ∧ (I v0 8).toInt = F ∧ (I v0 7).toInt = lim
theorem RSc_txt {cc : Nat → Nat → Int} {Z : jZ} {I0 I : jI} {v0 v1 uB : Nat} {lim a n F : Int} (t : TX Z I0 v0 v1 uB lim) (s : RSc cc Z I0 v0 lim I a n F) : I v1 1 = I0 v1 1 ∧ I uB = I0 uB := by
  obtain ⟨w0, k0, k1, hB, kB, hl, hb⟩ := t
  exact ⟨s.2.1.2.2.1 v1 10 1 k1 (by decide) (by decide), s.2.1.2.2.2 v1 10 0 uB k1 hB (by rw [kB.2]; rfl) rfl (by decide)⟩
theorem RSc_put {cc : Nat → Nat → Int} {Z : jZ} {I0 I : jI} {v0 v1 uB j : Nat} {lim a n F : Int} {x : Int32} (t : TX Z I0 v0 v1 uB lim) (s : RSc cc Z I0 v0 lim I a n F) (hm : (9, j) ∈ Ws_X9_read) (ok : okF 9 j x) : (WD Z (jpI I v0 j x) ∧ CNt cc Z (jpI I v0 j x) v0 n) ∧ FR Ws_X9_read Z I0 Z (jpI I v0 j x) := by
  obtain ⟨w0, k0, k1, hB, kB, hl, hb⟩ := t
  exact ⟨⟨WD_putF s.1.1 9 j k0 (by decide) (by decide) ok, CNt_fld w0.1 k0 s.1.2⟩, s.2.1.trans w0.1 w0.2.1 (FR_putF k0 (by decide) hm)⟩
theorem RSc_at {cc : Nat → Nat → Int} {Z : jZ} {I0 I : jI} {v0 v1 uB : Nat} {lim a n F : Int} {y : Int32} {d : Int} (t : TX Z I0 v0 v1 uB lim) (s : RSc cc Z I0 v0 lim I a n F) (hy : y.toInt = d) (h1 : -1000 ≤ a + d) (h2 : a + d ≤ 1000) : RSc cc Z I0 v0 lim (jpI I v0 6 ((I v0 6) + y)) (a + d) n F := by
  obtain ⟨g1, g2⟩ := RSc_put (j := 6) (x := (I v0 6) + y) t s (by decide) trivial
  refine ⟨g1, g2, ?_, ?_, ?_, ?_⟩
  · rw [jpI_at]; exact i_add s.2.2.1 hy (by omega) (by omega)
  · rw [jpI_o (by decide)]; exact s.2.2.2.1
  · rw [jpI_o (by decide)]; exact s.2.2.2.2.1
  · rw [jpI_o (by decide)]; exact s.2.2.2.2.2
theorem rc_fail {cc : Nat → Nat → Int} {Z : jZ} {I0 I : jI} {L : jL} {v0 v1 uB : Nat} {lim a n F : Int} {y : Int32} {Q : Int32 → jI → jL → Prop} (t : TX Z I0 v0 v1 uB lim) (s : RSc cc Z I0 v0 lim I a n F) (h : ∀ I', RSc cc Z I0 v0 lim I' a n y.toInt → Q 0 I' L) : f_X9_fail v0 y Z I L Q := by
  unfold f_X9_fail
  intro I1 e1
  obtain ⟨g1, g2⟩ := RSc_put (j := 8) (x := y) t s (by decide) trivial
  rw [e1]
  refine h _ ⟨g1, g2, ?_, ?_, ?_, ?_⟩
  · rw [jpI_o (by decide)]; exact s.2.2.1
  · rw [jpI_o (by decide)]; exact s.2.2.2.1
  · rw [jpI_at]
  · rw [jpI_o (by decide)]; exact s.2.2.2.2.2
theorem rc_look {cc : Nat → Nat → Int} {Z : jZ} {I0 I : jI} {L : jL} {v0 v1 uB : Nat} {lim a n F : Int} {Q : Int32 → jI → jL → Prop} (t : TX Z I0 v0 v1 uB lim) (s : RSc cc Z I0 v0 lim I a n F) (h0 : 0 ≤ a) (h : ∀ r : Int32, CLk (GS (I0 uB) lim a) r.toInt → Q r I L) : f_X9_look v0 v1 Z I L Q := by
  obtain ⟨e1, e2⟩ := RSc_txt t s
  obtain ⟨w0, k0, k1, hB, kB, hl, hb⟩ := t
  obtain ⟨w, f, sa, sn, sF, sl⟩ := s
  unfold f_X9_look
  refine ⟨fun c => h _ ?_, fun c => ?_⟩
  · exact CLk_out ((i_le sl sa).mp c)
  have c := (not_congr (i_le sl sa)).mp c
  unfold f_X10_signAt
  refine ⟨fun c1 => ?_, fun c1 => ⟨fun c2 => ?_, fun c2 => ⟨fun c3 => ?_, fun c3 => ?_⟩⟩⟩
  · have := (i_lt sa (show (0 : Int32).toInt = 0 from rfl)).mp c1
    omega
  · rw [e1] at c2
    have := (i_le rfl sa).mp c2
    omega
  · have := (i_le (show (80 : Int32).toInt = 80 from rfl) sa).mp c3
    omega
  · intro b eb
    cases hB.symm.trans eb
    refine ⟨vi_of sa (by omega) (by omega), h _ ?_⟩
    rw [e2]
    have := CLk_in (f := I0 uB) (lim := lim) (x := I v0 6) hb (by omega) (by omega)
    rw [sa] at this
    exact this
theorem rc_mark {cc : Nat → Nat → Int} {Z : jZ} {I0 I : jI} {L : jL} {v0 v1 uB : Nat} {lim a n F : Int} {c : Int32} {k : Int} {Q : Int32 → jI → jL → Prop} (t : TX Z I0 v0 v1 uB lim) (s : RSc cc Z I0 v0 lim I a n F) (h0 : 0 ≤ a ∧ a ≤ 100) (hk : c.toInt = k) (hc : 0 ≤ k ∧ k ≤ 127) (h1 : GS (I0 uB) lim a = k → ∀ I', RSc cc Z I0 v0 lim I' (a + 1) n F → Q 1 I' L) (h2 : GS (I0 uB) lim a ≠ k → ∀ I', RSc cc Z I0 v0 lim I' a n a → Q 0 I' L) : f_X9_readMark v0 v1 c Z I L Q := by
  unfold f_X9_readMark
  refine rc_look t s h0.1 (fun r hr => ⟨fun e => ?_, fun e => ?_⟩)
  · intro I9 e9
    rw [e9]
    refine h1 ?_ _ (RSc_at t s (show (1 : Int32).toInt = 1 from rfl) (by omega) (by omega))
    subst e
    unfold CLk at hr
    omega
  · refine rc_fail t s (fun I' s' => ?_)
    rw [s.2.2.1] at s'
    refine h2 (fun q => e ((i_eq rfl rfl).mpr ?_)) _ s'
    have := hr.1 (by omega)
    omega
theorem rc_break {cc : Nat → Nat → Int} {Z : jZ} {I0 I : jI} {L : jL} {v0 v1 uB : Nat} {lim a n F : Int} {Q : Int32 → jI → jL → Prop} (t : TX Z I0 v0 v1 uB lim) (s : RSc cc Z I0 v0 lim I a n F) (h0 : 0 ≤ a ∧ a ≤ 100) (h1 : a < lim → GS (I0 uB) lim a = 59 → ∀ I', RSc cc Z I0 v0 lim I' (a + 1) n F → Q 1 I' L) (h2 : a < lim → GS (I0 uB) lim a ≠ 59 → ∀ I', RSc cc Z I0 v0 lim I' a n a → Q 0 I' L) (h3 : lim ≤ a → Q 0 I L) : f_X9_readBreak v0 v1 Z I L Q := by
  unfold f_X9_readBreak
  refine ⟨fun c => h3 ((i_le s.2.2.2.2.2 s.2.2.1).mp c), fun c => ?_⟩
  have c := (not_congr (i_le s.2.2.2.2.2 s.2.2.1)).mp c
  refine rc_mark (k := 59) t s h0 rfl (by decide) (fun g I' s' => ⟨fun e => absurd e (by decide), fun _ => h1 (by omega) g I' s'⟩) (fun g I' s' => ⟨fun _ => h2 (by omega) g I' s', fun e => absurd rfl e⟩)
theorem rc_num {cc : Nat → Nat → Int} {Z : jZ} {I0 : jI} {L : jL} {v0 v1 uB : Nat} {lim a n F : Int} {v2 v3 : Int32} {Q : Int32 → jI → jL → Prop} (t : TX Z I0 v0 v1 uB lim) (h0 : 0 ≤ a ∧ a ≤ 100)
    (h1 : 1 ≤ nd (GS (I0 uB) lim) a ∧ v2.toInt ≤ nv (GS (I0 uB) lim) a ∧ nv (GS (I0 uB) lim) a ≤ v3.toInt → ∀ (r : Int32) I', r.toInt = nv (GS (I0 uB) lim) a → RSc cc Z I0 v0 lim I' (a + nd (GS (I0 uB) lim) a) n F → Q r I' L)
    (h2 : ¬ (1 ≤ nd (GS (I0 uB) lim) a ∧ v2.toInt ≤ nv (GS (I0 uB) lim) a ∧ nv (GS (I0 uB) lim) a ≤ v3.toInt) → ∀ I', RSc cc Z I0 v0 lim I' (a + nd (GS (I0 uB) lim) a) n (nbad (GS (I0 uB) lim) a) → Q (-1) I' L) :
    ∀ (m : Nat) (v4 v5 : Int32) (p : Int) (I : jI), RSc cc Z I0 v0 lim I p n F → NI (GS (I0 uB) lim) a v5.toInt v4.toInt p → 3 - v5.toInt ≤ (m : Int) → f_X9_readNumber_L6 Z Q m v0 v1 v2 v3 v4 v5 I L := by
  have fin : ∀ (v4 v5 : Int32) (I : jI), RSc cc Z I0 v0 lim I (a + nd (GS (I0 uB) lim) a) n F → nd (GS (I0 uB) lim) a = v5.toInt → nv (GS (I0 uB) lim) a = v4.toInt → f_X9_readNumber_b55 Z Q v0 v2 v3 v4 v5 I L := by
    intro v4 v5 I s e1 e2
    have nr := nd_rng (GS (I0 uB) lim) a
    have nb := nbad_eq (GS (I0 uB) lim) a
    have bad : ¬ (1 ≤ nd (GS (I0 uB) lim) a ∧ v2.toInt ≤ nv (GS (I0 uB) lim) a ∧ nv (GS (I0 uB) lim) a ≤ v3.toInt) → f_X9_readNumber_b77 Z Q v0 v4 v5 0 I L := by
      intro hb
      unfold f_X9_readNumber_b77
      refine ⟨fun c => absurd rfl c, fun _ => ⟨fun c => ?_, fun c => ?_⟩⟩
      · unfold f_X9_readNumber_b103
        refine rc_fail t s (fun I' s' => ?_)
        unfold f_X9_readNumber_b107
        refine ⟨fun _ => h2 hb I' ?_, fun c => absurd rfl c⟩
        have hc := (not_congr (i_eq (x := v5) (y := 0) rfl (show (0 : Int32).toInt = 0 from rfl))).mp c
        have : ((I v0 6) - (1 : Int32)).toInt = nbad (GS (I0 uB) lim) a := (i_sub s.2.2.1 (show (1 : Int32).toInt = 1 from rfl) (by omega) (by omega)).trans (by omega)
        rw [this] at s'
        exact s'
      · unfold f_X9_readNumber_b103
        refine rc_fail t s (fun I' s' => ?_)
        unfold f_X9_readNumber_b107
        refine ⟨fun _ => h2 hb I' ?_, fun c => absurd rfl c⟩
        have hc := (i_eq (x := v5) (y := 0) rfl (show (0 : Int32).toInt = 0 from rfl)).mp c
        have : (I v0 6).toInt = nbad (GS (I0 uB) lim) a := s.2.2.1.trans (by omega)
        rw [this] at s'
        exact s'
    unfold f_X9_readNumber_b55 f_X9_readNumber_b76
    refine ⟨fun c => bad ?_, fun c => ⟨fun c1 => bad ?_, fun c1 => ⟨fun c2 => bad ?_, fun c2 => ?_⟩⟩⟩
    · have := (i_le (x := v5) (y := 0) rfl (show (0 : Int32).toInt = 0 from rfl)).mp c
      omega
    · have := (i_lt (x := v4) (y := v2) rfl rfl).mp c1
      omega
    · have := (i_lt (x := v3) (y := v4) rfl rfl).mp c2
      omega
    · have g := (not_congr (i_le (x := v5) (y := 0) rfl (show (0 : Int32).toInt = 0 from rfl))).mp c
      have g1 := (not_congr (i_lt (x := v4) (y := v2) rfl rfl)).mp c1
      have g2 := (not_congr (i_lt (x := v3) (y := v4) rfl rfl)).mp c2
      unfold f_X9_readNumber_b77
      refine ⟨fun _ => ?_, fun c => absurd c (by decide)⟩
      unfold f_X9_readNumber_b107
      exact ⟨fun c => absurd c (by decide), fun _ => h1 (by omega) v4 I (by omega) s⟩
  intro m
  induction m with
  | zero =>
    intro v4 v5 p I s hN hm
    exfalso
    obtain ⟨-, h | h | h⟩ := hN <;> omega
  | succ m ih =>
    intro v4 v5 p I s hN hm
    have hp : p = a + v5.toInt := hN.1
    have hd : 0 ≤ v5.toInt ∧ v5.toInt ≤ 2 := by obtain ⟨-, h | h | h⟩ := hN <;> omega
    have hv : 0 ≤ v4.toInt ∧ v4.toInt ≤ 99 := by obtain ⟨-, h | h | h⟩ := hN <;> omega
    unfold f_X9_readNumber_L6
    refine ⟨fun c => ?_, fun c => ?_⟩
    · have c := (i_le (x := 2) (y := v5) (show (2 : Int32).toInt = 2 from rfl) rfl).mp c
      obtain ⟨g1, g2, g3⟩ := NI_end hN (Or.inl (by omega))
      rw [g3, ← g1] at s
      exact fin v4 v5 I s g1 g2
    have c := (not_congr (i_le (x := 2) (y := v5) (show (2 : Int32).toInt = 2 from rfl) rfl)).mp c
    refine rc_look t s (by omega) (fun r hr => ?_)
    unfold f_X10_isDigit
    have stop : ¬ (48 ≤ GS (I0 uB) lim p ∧ GS (I0 uB) lim p ≤ 57) → f_X9_readNumber_b55 Z Q v0 v2 v3 v4 v5 I L := fun hn => by
      obtain ⟨g1, g2, g3⟩ := NI_end hN (Or.inr hn)
      rw [g3, ← g1] at s
      exact fin v4 v5 I s g1 g2
    refine ⟨fun c1 => ?_, fun c1 => ⟨fun c2 => ?_, fun c2 => ?_⟩⟩
    · have c1 := (i_lt (x := r) (y := 48) rfl (show (48 : Int32).toInt = 48 from rfl)).mp c1
      exact ⟨fun _ => stop (fun q => by have := hr.1 (by omega); omega), fun e => absurd rfl e⟩
    · have c2 := (i_lt (x := 57) (y := r) (show (57 : Int32).toInt = 57 from rfl) rfl).mp c2
      exact ⟨fun _ => stop (fun q => by have := hr.1 (by omega); omega), fun e => absurd rfl e⟩
    · have c1 := (not_congr (i_lt (x := r) (y := 48) rfl (show (48 : Int32).toInt = 48 from rfl))).mp c1
      have c2 := (not_congr (i_lt (x := 57) (y := r) (show (57 : Int32).toInt = 57 from rfl) rfl)).mp c2
      have hg : GS (I0 uB) lim p = r.toInt := by unfold CLk at hr; omega
      refine ⟨fun e => absurd e (by decide), fun _ => ?_⟩
      refine rc_look t s (by omega) (fun r2 hr2 => ?_)
      have hg2 : r2.toInt = r.toInt := by have := hr2.1 (by omega); omega
      intro x37 e37 I38 e38 x39 e39
      rw [e38]
      have d37 : x37.toInt = v4.toInt * 10 + GS (I0 uB) lim p - 48 := by
        rw [e37]
        exact (i_sub (i_add (i_mul (x := v4) rfl (show (10 : Int32).toInt = 10 from rfl) (by omega) (by omega)) hg2 (by omega) (by omega)) (show (48 : Int32).toInt = 48 from rfl) (by omega) (by omega)).trans (by omega)
      have d39 : x39.toInt = v5.toInt + 1 := by
        rw [e39]
        exact i_add rfl (show (1 : Int32).toInt = 1 from rfl) (by omega) (by omega)
      exact ih x37 x39 (p + 1) _ (RSc_at t s (show (1 : Int32).toInt = 1 from rfl) (by omega) (by omega)) (NI_step hN (by omega) (by omega) d39 d37 rfl) (by omega)
theorem rc_number {cc : Nat → Nat → Int} {Z : jZ} {I0 I : jI} {L : jL} {v0 v1 uB : Nat} {lim a n F lo hi : Int} {v2 v3 : Int32} {Q : Int32 → jI → jL → Prop} (t : TX Z I0 v0 v1 uB lim) (s : RSc cc Z I0 v0 lim I a n F) (h0 : 0 ≤ a ∧ a ≤ 100) (e2 : v2.toInt = lo) (e3 : v3.toInt = hi)
    (h1 : 1 ≤ nd (GS (I0 uB) lim) a ∧ lo ≤ nv (GS (I0 uB) lim) a ∧ nv (GS (I0 uB) lim) a ≤ hi → ∀ (r : Int32) I', r.toInt = nv (GS (I0 uB) lim) a → RSc cc Z I0 v0 lim I' (a + nd (GS (I0 uB) lim) a) n F → Q r I' L)
    (h2 : ¬ (1 ≤ nd (GS (I0 uB) lim) a ∧ lo ≤ nv (GS (I0 uB) lim) a ∧ nv (GS (I0 uB) lim) a ≤ hi) → ∀ I', RSc cc Z I0 v0 lim I' (a + nd (GS (I0 uB) lim) a) n (nbad (GS (I0 uB) lim) a) → Q (-1) I' L) : f_X9_readNumber v0 v1 v2 v3 Z I L Q := by
  subst e2; subst e3
  unfold f_X9_readNumber
  have z : (0 : Int32).toInt = 0 := rfl
  exact ⟨3, rc_num t h0 h1 h2 3 0 0 a I s (by rw [z]; exact NI_0) (by rw [z]; omega)⟩
theorem rc_family {cc : Nat → Nat → Int} {Z : jZ} {I0 I : jI} {L : jL} {v0 v1 uB : Nat} {lim a n F : Int} {Q : Int32 → jI → jL → Prop} (t : TX Z I0 v0 v1 uB lim) (s : RSc cc Z I0 v0 lim I a n F) (h0 : 0 ≤ a ∧ a ≤ 100)
    (h1 : 48 ≤ GS (I0 uB) lim a ∧ GS (I0 uB) lim a ≤ 55 → ∀ (r : Int32) I', r.toInt = GS (I0 uB) lim a - 48 → RSc cc Z I0 v0 lim I' (a + 1) n F → Q r I' L)
    (h2 : ¬ (48 ≤ GS (I0 uB) lim a ∧ GS (I0 uB) lim a ≤ 55) → ∀ I', RSc cc Z I0 v0 lim I' a n a → Q (-1) I' L) : f_X9_readFamily v0 v1 Z I L Q := by
  unfold f_X9_readFamily
  refine rc_look t s h0.1 (fun r hr => ?_)
  have rr := i_rng r
  intro x8 e8
  have hbig : r.toInt ≤ 255 ∨ 255 < r.toInt := by omega
  have hr2 : -1 ≤ r.toInt := by
    have gr := GS_rng (f := I0 uB) (lim := lim) (a := a) t.2.2.2.2.2.2
    unfold CLk at hr
    omega
  have d8 : x8.toInt = r.toInt - 48 := by
    rw [e8]
    exact i_sub rfl (show (48 : Int32).toInt = 48 from rfl) (by omega) (by omega)
  refine s_X11_isFamily s.1.1 x8 (fun r15 p15 => ⟨fun c => ?_, fun c => ?_⟩)
  · intro I17 e17
    rw [e17]
    have c := (not_congr (i_eq (x := r15) (y := 0) rfl (show (0 : Int32).toInt = 0 from rfl))).mp c
    have hg : GS (I0 uB) lim a = r.toInt := by unfold CLk at hr; omega
    exact h1 (by omega) x8 _ (by omega) (RSc_at t s (show (1 : Int32).toInt = 1 from rfl) (by omega) (by omega))
  · have c := (i_eq (x := r15) (y := 0) rfl (show (0 : Int32).toInt = 0 from rfl)).mp c
    refine rc_fail t s (fun I' s' => ?_)
    rw [s.2.2.1] at s'
    refine h2 (fun q => ?_) I' s'
    have := hr.1 (by omega)
    omega
theorem rc_times {cc : Nat → Nat → Int} {Z : jZ} {I0 I : jI} {L : jL} {v0 v1 uB : Nat} {lim a n F : Int} {Q : Int32 → jI → jL → Prop} (t : TX Z I0 v0 v1 uB lim) (s : RSc cc Z I0 v0 lim I a n F) (h0 : 0 ≤ a ∧ a ≤ 99) (hn : 0 ≤ n ∧ n ≤ 24)
    (h1 : GS (I0 uB) lim a ≠ 42 → Q 1 I L)
    (h2 : GS (I0 uB) lim a = 42 → 1 ≤ nd (GS (I0 uB) lim) (a + 1) ∧ 1 ≤ nv (GS (I0 uB) lim) (a + 1) ∧ nv (GS (I0 uB) lim) (a + 1) ≤ 24 - n → ∀ (r : Int32) I', r.toInt = nv (GS (I0 uB) lim) (a + 1) → RSc cc Z I0 v0 lim I' (a + 1 + nd (GS (I0 uB) lim) (a + 1)) n F → Q r I' L)
    (h3 : GS (I0 uB) lim a = 42 → ¬ (1 ≤ nd (GS (I0 uB) lim) (a + 1) ∧ 1 ≤ nv (GS (I0 uB) lim) (a + 1) ∧ nv (GS (I0 uB) lim) (a + 1) ≤ 24 - n) → ∀ I', RSc cc Z I0 v0 lim I' (a + 1 + nd (GS (I0 uB) lim) (a + 1)) n (nbad (GS (I0 uB) lim) (a + 1)) → Q (-1) I' L) : f_X9_readTimes v0 v1 Z I L Q := by
  unfold f_X9_readTimes
  refine rc_look t s h0.1 (fun r hr => ⟨fun c => ?_, fun c => ?_⟩)
  · have c := (i_eq (x := r) (y := 42) rfl (show (42 : Int32).toInt = 42 from rfl)).mp c
    have hg : GS (I0 uB) lim a = 42 := by unfold CLk at hr; omega
    intro I9 e9
    rw [e9]
    have s9 := RSc_at t s (show (1 : Int32).toInt = 1 from rfl) (by omega) (by omega)
    refine rc_number (lo := 1) (hi := 24 - n) t s9 (by omega) rfl (i_sub (show (24 : Int32).toInt = 24 from rfl) s9.2.2.2.1 (by omega) (by omega)) (fun g r I' e s' => h2 hg g r I' e s') (fun g I' s' => h3 hg g I' s')
  · refine h1 (fun q => c ((i_eq rfl (show (42 : Int32).toInt = 42 from rfl)).mpr ?_))
    have := hr.1 (by omega)
    omega
theorem rc_puts {cc : Nat → Nat → Int} {Z : jZ} {I0 : jI} {v0 v1 uB : Nat} {lim a n F : Int} {v2 v3 v4 v5 v6 v7 : Int32} {Q : Int32 → jI → jL → Prop} (t : TX Z I0 v0 v1 uB lim) (h4 : 0 ≤ v4.toInt ∧ v4.toInt ≤ 20) (h7 : 1 ≤ v7.toInt ∧ n + v7.toInt ≤ 24 ∧ 0 ≤ n)
    (hcv : ∀ q : Nat, n ≤ (q : Int) → (q : Int) < n + v7.toInt → cc 0 q = v2.toInt ∧ cc 1 q = v3.toInt ∧ cc 2 q = v4.toInt ∧ cc 3 q = v6.toInt ∧ cc 4 q = v5.toInt)
    (hQ : ∀ I' L', RSc cc Z I0 v0 lim I' a (n + v7.toInt) F → Q 1 I' L') :
    ∀ (m : Nat) (v8 : Int32) (I : jI) (L : jL), RSc cc Z I0 v0 lim I a (n + v8.toInt) F → 0 ≤ v8.toInt → v8.toInt ≤ v7.toInt → v7.toInt - v8.toInt < (m : Int) → f_X9_readLine_L151 Z Q m v0 v2 v3 v4 v5 v6 v7 v8 I L := by
  intro m
  induction m with
  | zero => intro v8 I L s h1 h2 h3; exfalso; omega
  | succ m ih =>
    intro v8 I L s h1 h2 h3
    unfold f_X9_readLine_L151
    refine ⟨fun c => ⟨fun e => ?_, fun _ => ?_⟩, fun c => ?_⟩
    · have := (i_eq (x := v7) (y := -1) rfl (show (-1 : Int32).toInt = -1 from rfl)).mp e
      omega
    · have c := (i_le (x := v7) (y := v8) rfl rfl).mp c
      rw [show v8.toInt = v7.toInt by omega] at s
      exact hQ I L s
    · have c := (not_congr (i_le (x := v7) (y := v8) rfl rfl)).mp c
      have k0 := t.2.1
      refine rc_put1 (n := n + v8.toInt) s.1.1 k0 s.1.2 s.2.2.2.1 (by omega) h4 (hcv (n + v8.toInt).toNat (by omega) (by omega)) (fun I5 L6 w5 f5 p5 c5 => ?_)
      intro x9 e9
      have d9 : x9.toInt = v8.toInt + 1 := by
        rw [e9]
        exact i_add rfl (show (1 : Int32).toInt = 1 from rfl) (by omega) (by omega)
      have sn := s.2.2.2.1
      refine ih x9 I5 L6 ⟨⟨w5, by rw [show n + x9.toInt = n + v8.toInt + 1 by omega]; exact c5⟩, s.2.1.trans t.1.1 t.1.2.1 (f5.mono (by decide)), ?_, ?_, ?_, ?_⟩ (by omega) (by omega) (by omega)
      · rw [f5.2.2.1 v0 9 6 k0 (by decide) (by decide)]; exact s.2.2.1
      · omega
      · rw [f5.2.2.1 v0 9 8 k0 (by decide) (by decide)]; exact s.2.2.2.2.1
      · rw [f5.2.2.1 v0 9 7 k0 (by decide) (by decide)]; exact s.2.2.2.2.2
theorem rc_lineE {cc : Nat → Nat → Int} {Z : jZ} {I0 I : jI} {L : jL} {v0 v1 uB : Nat} {lim a n : Int} {v2 v3 v4 v5 s0 : Int32} {d : Int} {Q : Int32 → jI → jL → Prop} (t : TX Z I0 v0 v1 uB lim) (s : RSc cc Z I0 v0 lim I a n (-1)) (hd : s0.toInt = d) (h0 : 0 ≤ a + d ∧ a + d ≤ 99) (hn : 0 ≤ n ∧ n < 24) (h4 : 0 ≤ v4.toInt ∧ v4.toInt ≤ 20)
    (hcv : ∀ q : Nat, n ≤ (q : Int) → (q : Int) < n + (lnE (GS (I0 uB) lim) (a + d) n).2.2 → cc 0 q = v2.toInt ∧ cc 1 q = v3.toInt ∧ cc 2 q = v4.toInt ∧ cc 3 q = s0.toInt ∧ cc 4 q = v5.toInt)
    (h1 : (lnE (GS (I0 uB) lim) (a + d) n).1 = -1 → ∀ I' L', RSc cc Z I0 v0 lim I' (lnE (GS (I0 uB) lim) (a + d) n).2.1 (n + (lnE (GS (I0 uB) lim) (a + d) n).2.2) (-1) → Q 1 I' L')
    (h2 : (lnE (GS (I0 uB) lim) (a + d) n).1 ≠ -1 → ∀ I' L' a', RSc cc Z I0 v0 lim I' a' n (lnE (GS (I0 uB) lim) (a + d) n).1 → Q 0 I' L') : f_X9_readLine_b128 Z Q v0 v1 v2 v3 v4 v5 s0 I L := by
  unfold f_X9_readLine_b128
  intro I10 e10
  rw [e10]
  have s1 := RSc_at t s hd (by omega) (by omega)
  have z : (0 : Int32).toInt = 0 := rfl
  refine rc_times t s1 h0 (by omega) (fun g => ?_) (fun g g1 r I' er s' => ?_) (fun g g1 I' s' => ?_)
  · have e : lnE (GS (I0 uB) lim) (a + d) n = (-1, a + d, 1) := by unfold lnE; rw [if_neg g]
    rw [e] at h1 hcv
    have o : (1 : Int32).toInt = 1 := rfl
    exact ⟨2, rc_puts (n := n) (v7 := 1) t h4 (by rw [o]; omega) (by rw [o]; exact hcv) (fun I' L' s' => h1 rfl I' L' (by rw [o] at s'; exact s')) 2 0 _ L (by rw [z]; rw [show n + 0 = n by omega]; exact s1) (by rw [z]; omega) (by rw [z, o]; omega) (by rw [z, o]; omega)⟩
  · have e : lnE (GS (I0 uB) lim) (a + d) n = (-1, a + d + 1 + nd (GS (I0 uB) lim) (a + d + 1), nv (GS (I0 uB) lim) (a + d + 1)) := by unfold lnE; rw [if_pos g, if_pos g1]
    rw [e] at h1 hcv
    exact ⟨r.toInt.toNat + 1, rc_puts (n := n) (v7 := r) t h4 (by omega) (by rw [er]; exact hcv) (fun I' L' s' => h1 rfl I' L' (by rw [er] at s'; exact s')) _ 0 _ L (by rw [z]; rw [show n + 0 = n by omega]; exact s') (by rw [z]; omega) (by rw [z]; omega) (by rw [z]; omega)⟩
  · have e : lnE (GS (I0 uB) lim) (a + d) n = (nbad (GS (I0 uB) lim) (a + d + 1), 0, 0) := by unfold lnE; rw [if_pos g, if_neg g1]
    rw [e] at h2
    have nb := nbad_eq (GS (I0 uB) lim) (a + d + 1)
    have nr := nd_rng (GS (I0 uB) lim) (a + d + 1)
    refine ⟨1, ?_⟩
    unfold f_X9_readLine_L151
    refine ⟨fun _ => ⟨fun _ => h2 (by show nbad _ _ ≠ -1; omega) I' L _ s', fun c => absurd rfl c⟩, fun c => ?_⟩
    exact absurd (by decide) c
theorem rc_line {cc : Nat → Nat → Int} {Z : jZ} {I0 I : jI} {L : jL} {v0 v1 uB : Nat} {lim a n : Int} {Q : Int32 → jI → jL → Prop} (t : TX Z I0 v0 v1 uB lim) (s : RSc cc Z I0 v0 lim I a n (-1)) (h0 : 0 ≤ a ∧ a ≤ 80) (hn : 0 ≤ n ∧ n ≤ 24)
    (hcv : ∀ q : Nat, n ≤ (q : Int) → (q : Int) < n + (lnA (GS (I0 uB) lim) a n).2.2 → ∀ j, cc j q = lnV (GS (I0 uB) lim) a j)
    (h1 : n < 24 → (lnA (GS (I0 uB) lim) a n).1 = -1 → ∀ I' L', RSc cc Z I0 v0 lim I' (lnA (GS (I0 uB) lim) a n).2.1 (n + (lnA (GS (I0 uB) lim) a n).2.2) (-1) → Q 1 I' L')
    (h2 : n < 24 → (lnA (GS (I0 uB) lim) a n).1 ≠ -1 → ∀ I' L' a', RSc cc Z I0 v0 lim I' a' n (lnA (GS (I0 uB) lim) a n).1 → Q 0 I' L')
    (h3 : 24 ≤ n → ∀ I', RSc cc Z I0 v0 lim I' a n a → Q 0 I' L) : f_X9_readLine v0 v1 Z I L Q := by
  unfold f_X9_readLine
  refine ⟨fun c => ?_, fun c => ?_⟩
  · have c := (i_lt s.2.2.2.1 (show (24 : Int32).toInt = 24 from rfl)).mp c
    have h1 := h1 c
    have h2 := h2 c
    have s0 := s
    have nb0 := nbad_eq (GS (I0 uB) lim) a
    have nr0 := nd_rng (GS (I0 uB) lim) a
    refine rc_number (lo := 1) (hi := 30) t s0 (by omega) rfl rfl (fun g0 r0 Ia0 e0 s1 => ⟨fun c => ?_, fun _ => ?_⟩) (fun g0 Ia0 s1 => ⟨fun _ => ?_, fun c => absurd rfl c⟩)
    rotate_left 2
    · have e : lnA (GS (I0 uB) lim) a n = (nbad (GS (I0 uB) lim) a, 0, 0) := by unfold lnA; rw [if_neg g0]
      rw [e] at h2
      exact h2 (by show nbad _ _ ≠ -1; omega) Ia0 L _ s1
    · have := (i_eq (x := r0) (y := -1) rfl (show (-1 : Int32).toInt = -1 from rfl)).mp c
      omega
    refine rc_mark (k := 44) t s1 (by omega) rfl (by decide) (fun m0 J0 s2 => ⟨fun _ => ?_, fun c => absurd c (by decide)⟩) (fun m0 J0 s2 => ⟨fun c => absurd rfl c, fun _ => ?_⟩)
    rotate_left
    · have e : lnA (GS (I0 uB) lim) a n = (a + nd (GS (I0 uB) lim) a, 0, 0) := by unfold lnA; rw [if_pos g0, if_neg m0]
      rw [e] at h2
      exact h2 (by show a + nd (GS (I0 uB) lim) a ≠ -1; omega) J0 L _ s2
    have elnA : lnA (GS (I0 uB) lim) a n = lnB (GS (I0 uB) lim) (a + nd (GS (I0 uB) lim) a + 1) n := by unfold lnA; rw [if_pos g0, if_pos m0]
    rw [elnA] at h1 h2 hcv
    obtain ⟨a2, eb⟩ : ∃ x, x = a + nd (GS (I0 uB) lim) a + 1 := ⟨_, rfl⟩
    rw [← eb] at h1 h2 s2 hcv
    have nb1 := nbad_eq (GS (I0 uB) lim) a2
    have nr1 := nd_rng (GS (I0 uB) lim) a2
    refine rc_number (lo := 0) (hi := 9) t s2 (by omega) rfl rfl (fun g1 r1 Ia1 e1 s3 => ⟨fun c => ?_, fun _ => ?_⟩) (fun g1 Ia1 s3 => ⟨fun _ => ?_, fun c => absurd rfl c⟩)
    rotate_left 2
    · have e : lnB (GS (I0 uB) lim) a2 n = (nbad (GS (I0 uB) lim) a2, 0, 0) := by unfold lnB; rw [if_neg g1]
      rw [e] at h2
      exact h2 (by show nbad _ _ ≠ -1; omega) Ia1 L _ s3
    · have := (i_eq (x := r1) (y := -1) rfl (show (-1 : Int32).toInt = -1 from rfl)).mp c
      omega
    refine rc_mark (k := 44) t s3 (by omega) rfl (by decide) (fun m1 J1 s4 => ⟨fun _ => ?_, fun c => absurd c (by decide)⟩) (fun m1 J1 s4 => ⟨fun c => absurd rfl c, fun _ => ?_⟩)
    rotate_left
    · have e : lnB (GS (I0 uB) lim) a2 n = (a2 + nd (GS (I0 uB) lim) a2, 0, 0) := by unfold lnB; rw [if_pos g1, if_neg m1]
      rw [e] at h2
      exact h2 (by show a2 + nd (GS (I0 uB) lim) a2 ≠ -1; omega) J1 L _ s4
    have elnB : lnB (GS (I0 uB) lim) a2 n = lnC (GS (I0 uB) lim) (a2 + nd (GS (I0 uB) lim) a2 + 1) n := by unfold lnB; rw [if_pos g1, if_pos m1]
    rw [elnB] at h1 h2 hcv
    obtain ⟨a3, ec⟩ : ∃ x, x = a2 + nd (GS (I0 uB) lim) a2 + 1 := ⟨_, rfl⟩
    rw [← ec] at h1 h2 s4 hcv
    have nb2 := nbad_eq (GS (I0 uB) lim) a3
    have nr2 := nd_rng (GS (I0 uB) lim) a3
    refine rc_number (lo := 0) (hi := 20) t s4 (by omega) rfl rfl (fun g2 r2 Ia2 e2 s5 => ⟨fun c => ?_, fun _ => ?_⟩) (fun g2 Ia2 s5 => ⟨fun _ => ?_, fun c => absurd rfl c⟩)
    rotate_left 2
    · have e : lnC (GS (I0 uB) lim) a3 n = (nbad (GS (I0 uB) lim) a3, 0, 0) := by unfold lnC; rw [if_neg g2]
      rw [e] at h2
      exact h2 (by show nbad _ _ ≠ -1; omega) Ia2 L _ s5
    · have := (i_eq (x := r2) (y := -1) rfl (show (-1 : Int32).toInt = -1 from rfl)).mp c
      omega
    refine rc_mark (k := 64) t s5 (by omega) rfl (by decide) (fun m2 J2 s6 => ⟨fun _ => ?_, fun c => absurd c (by decide)⟩) (fun m2 J2 s6 => ⟨fun c => absurd rfl c, fun _ => ?_⟩)
    rotate_left
    · have e : lnC (GS (I0 uB) lim) a3 n = (a3 + nd (GS (I0 uB) lim) a3, 0, 0) := by unfold lnC; rw [if_pos g2, if_neg m2]
      rw [e] at h2
      exact h2 (by show a3 + nd (GS (I0 uB) lim) a3 ≠ -1; omega) J2 L _ s6
    have elnC : lnC (GS (I0 uB) lim) a3 n = lnD (GS (I0 uB) lim) (a3 + nd (GS (I0 uB) lim) a3 + 1) n := by unfold lnC; rw [if_pos g2, if_pos m2]
    rw [elnC] at h1 h2 hcv
    obtain ⟨a4, ed⟩ : ∃ x, x = a3 + nd (GS (I0 uB) lim) a3 + 1 := ⟨_, rfl⟩
    rw [← ed] at h1 h2 s6 hcv
    refine rc_family t s6 (by omega) (fun g3 r3 Ia3 e3 s7 => ⟨fun _ => ?_, fun c => ?_⟩) (fun g3 Ia3 s7 => ⟨fun c => absurd rfl c, fun _ => ?_⟩)
    rotate_left
    · have := (i_eq (x := r3) (y := -1) rfl (show (-1 : Int32).toInt = -1 from rfl)).mp c
      omega
    · have e : lnD (GS (I0 uB) lim) a4 n = (a4, 0, 0) := by unfold lnD; rw [if_neg g3]
      rw [e] at h2
      exact h2 (by show a4 ≠ -1; omega) Ia3 L _ s7
    have elnD : lnD (GS (I0 uB) lim) a4 n = lnE (GS (I0 uB) lim) (a4 + 1 + (if (GS (I0 uB) lim) (a4 + 1) = 119 then 1 else 0)) n := by unfold lnD; rw [if_pos g3]
    rw [elnD] at h1 h2 hcv
    refine rc_look t s7 (by omega) (fun r8 hr => ⟨fun c => ?_, fun c => ?_⟩)
    · have hw : ¬ (GS (I0 uB) lim) (a4 + 1) = 119 := fun q => c ((i_eq rfl (show (119 : Int32).toInt = 119 from rfl)).mpr (by have := hr.1 (by omega); omega))
      rw [if_neg hw] at h1 h2 hcv
      exact rc_lineE (d := 0) t s7 rfl (by omega) (by omega) (by omega) (fun q q1 q2 => ⟨(hcv q q1 q2 0).trans e0.symm, (hcv q q1 q2 1).trans (by show nv (GS (I0 uB) lim) (a + nd (GS (I0 uB) lim) a + 1) = _; rw [← eb]; exact e1.symm), (hcv q q1 q2 2).trans (by show nv (GS (I0 uB) lim) (a + nd (GS (I0 uB) lim) a + 1 + nd (GS (I0 uB) lim) (a + nd (GS (I0 uB) lim) a + 1) + 1) = _; rw [← eb, ← ec]; exact e2.symm), (hcv q q1 q2 3).trans (by show (if GS (I0 uB) lim (a + nd (GS (I0 uB) lim) a + 1 + nd (GS (I0 uB) lim) (a + nd (GS (I0 uB) lim) a + 1) + 1 + nd (GS (I0 uB) lim) (a + nd (GS (I0 uB) lim) a + 1 + nd (GS (I0 uB) lim) (a + nd (GS (I0 uB) lim) a + 1) + 1) + 1 + 1) = 119 then (1 : Int) else 0) = _; rw [← eb, ← ec, ← ed, if_neg hw]; rfl), (hcv q q1 q2 4).trans (by show GS (I0 uB) lim (a + nd (GS (I0 uB) lim) a + 1 + nd (GS (I0 uB) lim) (a + nd (GS (I0 uB) lim) a + 1) + 1 + nd (GS (I0 uB) lim) (a + nd (GS (I0 uB) lim) a + 1 + nd (GS (I0 uB) lim) (a + nd (GS (I0 uB) lim) a + 1) + 1) + 1) - 48 = _; rw [← eb, ← ec, ← ed]; exact e3.symm)⟩) h1 h2
    · have c := (i_eq (x := r8) (y := 119) rfl (show (119 : Int32).toInt = 119 from rfl)).mp c
      have hw : (GS (I0 uB) lim) (a4 + 1) = 119 := by unfold CLk at hr; omega
      rw [if_pos hw] at h1 h2 hcv
      exact rc_lineE (d := 1) t s7 rfl (by omega) (by omega) (by omega) (fun q q1 q2 => ⟨(hcv q q1 q2 0).trans e0.symm, (hcv q q1 q2 1).trans (by show nv (GS (I0 uB) lim) (a + nd (GS (I0 uB) lim) a + 1) = _; rw [← eb]; exact e1.symm), (hcv q q1 q2 2).trans (by show nv (GS (I0 uB) lim) (a + nd (GS (I0 uB) lim) a + 1 + nd (GS (I0 uB) lim) (a + nd (GS (I0 uB) lim) a + 1) + 1) = _; rw [← eb, ← ec]; exact e2.symm), (hcv q q1 q2 3).trans (by show (if GS (I0 uB) lim (a + nd (GS (I0 uB) lim) a + 1 + nd (GS (I0 uB) lim) (a + nd (GS (I0 uB) lim) a + 1) + 1 + nd (GS (I0 uB) lim) (a + nd (GS (I0 uB) lim) a + 1 + nd (GS (I0 uB) lim) (a + nd (GS (I0 uB) lim) a + 1) + 1) + 1 + 1) = 119 then (1 : Int) else 0) = _; rw [← eb, ← ec, ← ed, if_pos hw]; rfl), (hcv q q1 q2 4).trans (by show GS (I0 uB) lim (a + nd (GS (I0 uB) lim) a + 1 + nd (GS (I0 uB) lim) (a + nd (GS (I0 uB) lim) a + 1) + 1 + nd (GS (I0 uB) lim) (a + nd (GS (I0 uB) lim) a + 1 + nd (GS (I0 uB) lim) (a + nd (GS (I0 uB) lim) a + 1) + 1) + 1) - 48 = _; rw [← eb, ← ec, ← ed]; exact e3.symm)⟩) h1 h2
  · have c := (not_congr (i_lt s.2.2.2.1 (show (24 : Int32).toInt = 24 from rfl))).mp c
    refine rc_fail t s (fun I' s' => h3 (by omega) I' ?_)
    rw [s.2.2.1] at s'
    exact s'
theorem rc_lines {cc : Nat → Nat → Int} {Z : jZ} {I0 : jI} {v0 v1 uB : Nat} {lim : Int} {Q : Int32 → jI → jL → Prop} (t : TX Z I0 v0 v1 uB lim)
    (hE : ∀ (I : jI) (L : jL) (a' F n' : Int), RSc cc Z I0 v0 lim I a' n' F → (F, n') = rdS (GS (I0 uB) lim) lim 77 0 0 → f_X9_read_b81 Z Q v0 v1 I L) :
    ∀ (m k : Nat) (v3 : Int32) (a n : Int) (I : jI) (L : jL), RSc cc Z I0 v0 lim I a n (-1) → 0 ≤ n → n ≤ 24 → 8 * v3.toInt ≤ a → 0 ≤ v3.toInt → a ≤ lim → lim + 2 - a ≤ (m : Int) → lim + 1 - a ≤ (k : Int) → rdS (GS (I0 uB) lim) lim k a n = rdS (GS (I0 uB) lim) lim 77 0 0 → (∀ j (q : Nat), n ≤ (q : Int) → cS (GS (I0 uB) lim) k a n j q = cc j q) → f_X9_read_L43 Z Q m v0 v1 1 v3 I L := by
  have tl := t.2.2.2.2.2.1
  have out : ∀ (m : Nat) (v3 : Int32) (a' F n' : Int) (I : jI) (L : jL), RSc cc Z I0 v0 lim I a' n' F → (F, n') = rdS (GS (I0 uB) lim) lim 77 0 0 → f_X9_read_L43 Z Q (m + 1) v0 v1 0 v3 I L := by
    intro m v3 a' F n' I L s e
    unfold f_X9_read_L43
    exact ⟨fun _ => hE I L a' F n' s e, fun c => absurd rfl c⟩
  intro m
  induction m with
  | zero => intro k v3 a n I L s h1 h2 h3 h4 h5 h6; exfalso; omega
  | succ m ih =>
    intro k v3 a n I L s h1 h2 h3 h4 h5 h6 h7 hr hc
    have hm : ∃ m', m = m' + 1 := ⟨m - 1, by omega⟩
    obtain ⟨m', em⟩ := hm
    unfold f_X9_read_L43
    refine ⟨fun c => absurd c (by decide), fun _ => ⟨fun c => ?_, fun c => ?_⟩⟩
    · have := (i_le (x := 76) (y := v3) (show (76 : Int32).toInt = 76 from rfl) rfl).mp c
      omega
    have hk : ∃ k', k = k' + 1 := ⟨k - 1, by omega⟩
    obtain ⟨k', ek⟩ := hk
    subst ek
    have d3 : ∀ x : Int32, x = v3 + 1 → x.toInt = v3.toInt + 1 := fun x ex => by rw [ex]; exact i_add rfl (show (1 : Int32).toInt = 1 from rfl) (by omega) (by omega)
    unfold rdS at hr
    refine rc_line t s (by omega) ⟨h1, h2⟩ (fun q q1 q2 j => (hc j q q1).symm.trans (cS_here q2)) (fun hn e I1 L1 s1 => ?_) (fun hn e I1 L1 a1 s1 => ?_) (fun hn I1 s1 => ?_)
    · rw [if_pos hn, if_pos e] at hr
      have ok := lnA_ok hn e (by omega)
      refine ⟨fun c => absurd c (by decide), fun _ => ?_⟩
      refine rc_break t s1 (by omega) (fun hl g I2 s2 => ⟨fun c => absurd c (by decide), fun _ => ?_⟩) (fun hl g I2 s2 => ⟨fun _ => ?_, fun c => absurd rfl c⟩) (fun hl => ⟨fun _ => ?_, fun c => absurd rfl c⟩)
      · rw [if_pos hl, if_pos g] at hr
        unfold f_X9_read_b74
        intro x6 e6
        have := d3 x6 e6
        exact ih k' x6 _ _ I2 L1 s2 (by omega) (by omega) (by omega) (by omega) (by omega) (by omega) (by omega) hr (fun j q hq => (cS_step (by omega)).symm.trans (hc j q (by omega)))
      · rw [if_pos hl, if_neg g] at hr
        unfold f_X9_read_b73 f_X9_read_b74
        intro x6 e6
        rw [em]
        exact out m' x6 _ _ _ I2 L1 s2 hr
      · rw [if_neg (by omega)] at hr
        unfold f_X9_read_b73 f_X9_read_b74
        intro x6 e6
        rw [em]
        exact out m' x6 _ _ _ I1 L1 s1 hr
    · rw [if_pos hn, if_neg e] at hr
      refine ⟨fun _ => ?_, fun c => absurd rfl c⟩
      unfold f_X9_read_b73 f_X9_read_b74
      intro x6 e6
      rw [em]
      exact out m' x6 _ _ _ I1 L1 s1 hr
    · rw [if_neg (by omega)] at hr
      refine ⟨fun _ => ?_, fun c => absurd rfl c⟩
      unfold f_X9_read_b73 f_X9_read_b74
      intro x6 e6
      rw [em]
      exact out m' x6 _ _ _ I1 L s1 hr
theorem rc_read {Z : jZ} {I0 : jI} {L : jL} {v0 v1 uB : Nat} {Q : Int32 → jI → jL → Prop} (w0 : WD Z I0) (k0 : jk Z v0 9) (k1 : jk Z v1 10) (hB : jr Z v1 0 = some uB) (kB : jk Z uB 13) (hb : BY (I0 uB))
    (hQ : ∀ (r : Int32) (I' : jI) (L' : jL), WD Z I' → FR Ws_X9_read Z I0 Z I' → r.toInt = stA (I0 uB) (I0 v1 1).toInt → (0 ≤ r.toInt → (I' v0 5).toInt = r.toInt) → (0 ≤ r.toInt → CNt (cT (I0 uB) (I0 v1 1).toInt) Z I' v0 r.toInt) → Q r I' L') : f_X9_read v0 v1 Z I0 L Q := by
  have sz : 0 ≤ (I0 v1 1).toInt ∧ (I0 v1 1).toInt ≤ 80 := w0.fld 10 1 k1 (by decide)
  have t : TX Z I0 v0 v1 uB (min (I0 v1 1).toInt 76) := ⟨w0, k0, k1, hB, kB, ⟨by omega, by omega, by omega⟩, hb⟩
  have hne : v1 ≠ v0 := fun e => by subst e; have := k0.2.symm.trans k1.2; omega
  unfold f_X9_read
  intro I26 e26 I27 e27 I28 e28 I29 e29
  have w26 : WD Z I26 := by rw [e26]; exact WD_putF w0 9 5 k0 (by decide) (by decide) (by constructor <;> decide)
  have f26 : FR Ws_X9_read Z I0 Z I26 := by rw [e26]; exact FR_putF k0 (by decide) (by decide)
  have w27 : WD Z I27 := by rw [e27]; exact WD_putF w26 9 6 k0 (by decide) (by decide) trivial
  have f27 : FR Ws_X9_read Z I0 Z I27 := f26.trans w0.1 w0.2.1 (by rw [e27]; exact FR_putF k0 (by decide) (by decide))
  have w28 : WD Z I28 := by rw [e28]; exact WD_putF w27 9 8 k0 (by decide) (by decide) trivial
  have f28 : FR Ws_X9_read Z I0 Z I28 := f27.trans w0.1 w0.2.1 (by rw [e28]; exact FR_putF k0 (by decide) (by decide))
  have w29 : WD Z I29 := by rw [e29]; exact WD_putF w28 9 7 k0 (by decide) (by decide) trivial
  have f29 : FR Ws_X9_read Z I0 Z I29 := f28.trans w0.1 w0.2.1 (by rw [e29]; exact FR_putF k0 (by decide) (by decide))
  have z1 : I28 v1 1 = I0 v1 1 := f28.2.2.1 v1 10 1 k1 (by decide) (by decide)
  have z2 : I29 v1 1 = I0 v1 1 := f29.2.2.1 v1 10 1 k1 (by decide) (by decide)
  have s : RSc (cT (I0 uB) (I0 v1 1).toInt) Z I0 v0 (min (I0 v1 1).toInt 76) I29 0 0 (-1) := by
    refine ⟨⟨w29, fun j u hj hu q hq => absurd hq (by omega)⟩, f29, ?_, ?_, ?_, ?_⟩
    · rw [e29, jpI_o (by decide), e28, jpI_o (by decide), e27, jpI_at]; rfl
    · rw [e29, jpI_o (by decide), e28, jpI_o (by decide), e27, jpI_o (by decide), e26, jpI_at]; rfl
    · rw [e29, jpI_o (by decide), e28, jpI_at]; rfl
    · rw [e29, jpI_at, z1]
      exact i_min rfl (show (76 : Int32).toInt = 76 from rfl)
  have last : ∀ (I : jI) (L : jL) (a' F n' : Int), RSc (cT (I0 uB) (I0 v1 1).toInt) Z I0 v0 (min (I0 v1 1).toInt 76) I a' n' F → (F = -1 → 2 ≤ n' → n' = stA (I0 uB) (I0 v1 1).toInt) → (F = -1 → n' < 2 → -100 = stA (I0 uB) (I0 v1 1).toInt) → (F ≠ -1 → 0 ≤ F ∧ -1 - F = stA (I0 uB) (I0 v1 1).toInt) → f_X9_read_b104 Z Q v0 I L := by
    intro I L a' F n' s g1 g2 g3
    unfold f_X9_read_b104
    have sF := s.2.2.2.2.1
    have sn := s.2.2.2.1
    refine ⟨fun c => ⟨fun c1 => ?_, fun c1 => ?_⟩, fun c => ?_⟩
    · have c := (i_eq sF (show (-1 : Int32).toInt = -1 from rfl)).mp c
      have c1 := (i_le (show (2 : Int32).toInt = 2 from rfl) sn).mp c1
      exact hQ _ I L s.1.1 s.2.1 (sn.trans (g1 c c1)) (fun _ => rfl) (fun _ => by rw [sn]; exact s.1.2)
    · have c := (i_eq sF (show (-1 : Int32).toInt = -1 from rfl)).mp c
      have c1 := (not_congr (i_le (show (2 : Int32).toInt = 2 from rfl) sn)).mp c1
      exact hQ _ I L s.1.1 s.2.1 (g2 c (by omega)) (fun q => absurd q (by decide)) (fun q => absurd q (by decide))
    · have c := (not_congr (i_eq sF (show (-1 : Int32).toInt = -1 from rfl))).mp c
      obtain ⟨q1, q3⟩ := g3 c
      have rr := i_rng (I v0 8)
      have e : ((-1 : Int32) - (I v0 8)).toInt = -1 - F := i_sub (show (-1 : Int32).toInt = -1 from rfl) sF (by omega) (by omega)
      exact hQ _ I L s.1.1 s.2.1 (e.trans q3) (fun q => by omega) (fun q => absurd q (by omega))
  have hE : ∀ (I : jI) (L : jL) (a' F n' : Int), RSc (cT (I0 uB) (I0 v1 1).toInt) Z I0 v0 (min (I0 v1 1).toInt 76) I a' n' F → ((I0 v1 1).toInt ≤ 0 → F = -1 ∧ n' = 0) → (0 < (I0 v1 1).toInt → (F, n') = rdS (GS (I0 uB) (min (I0 v1 1).toInt 76)) (min (I0 v1 1).toInt 76) 77 0 0) → f_X9_read_b81 Z Q v0 v1 I L := by
    intro I L a' F n' s g0 e
    have sF := s.2.2.2.2.1
    have e1 := (RSc_txt t s).1
    have hlo := rdS_lo (g := GS (I0 uB) (min (I0 v1 1).toInt 76)) (lim := min (I0 v1 1).toInt 76) 77 0 0 (by omega)
    have hS : stA (I0 uB) (I0 v1 1).toInt = if F = -1 then (if (I0 v1 1).toInt ≤ 76 then (if 2 ≤ n' then n' else -100) else -77) else -1 - F := by
      unfold stA
      by_cases c : (I0 v1 1).toInt ≤ 0
      · obtain ⟨q1, q2⟩ := g0 c
        rw [if_pos c, if_pos q1, if_pos (by omega), if_neg (by omega)]
      · have e := e (by omega)
        rw [if_neg c, ← e]
    have hF : -1 ≤ F := by
      by_cases c : (I0 v1 1).toInt ≤ 0
      · have := (g0 c).1; omega
      · have e := e (by omega)
        rw [← e] at hlo
        exact hlo
    unfold f_X9_read_b81
    refine ⟨fun c => ?_, fun c => ⟨fun c1 => ?_, fun c1 => ?_⟩⟩
    · have c := (not_congr (i_eq sF (show (-1 : Int32).toInt = -1 from rfl))).mp c
      rw [if_neg c] at hS
      exact last I L a' F n' s (fun q => absurd q c) (fun q => absurd q c) (fun _ => ⟨by omega, hS.symm⟩)
    · have c := (i_eq sF (show (-1 : Int32).toInt = -1 from rfl)).mp c
      rw [e1] at c1
      have c1 := (i_le (y := 76) rfl (show (76 : Int32).toInt = 76 from rfl)).mp c1
      rw [if_pos c, if_pos c1] at hS
      exact last I L a' F n' s (fun _ q => by rw [if_pos q] at hS; exact hS.symm) (fun _ q => by rw [if_neg (by omega)] at hS; exact hS.symm) (fun q => absurd c q)
    · have c := (i_eq sF (show (-1 : Int32).toInt = -1 from rfl)).mp c
      rw [e1] at c1
      have c1 := (not_congr (i_le (y := 76) rfl (show (76 : Int32).toInt = 76 from rfl))).mp c1
      rw [if_pos c, if_neg c1] at hS
      intro I5 e5
      obtain ⟨q1, q2⟩ := RSc_put (j := 8) (x := 76) t s (by decide) trivial
      refine last I5 L a' 76 n' ?_ (fun q => by omega) (fun q => by omega) (fun _ => ⟨by omega, hS.symm⟩)
      rw [e5]
      refine ⟨q1, q2, ?_, ?_, ?_, ?_⟩
      · rw [jpI_o (by decide)]; exact s.2.2.1
      · rw [jpI_o (by decide)]; exact s.2.2.2.1
      · rw [jpI_at]; rfl
      · rw [jpI_o (by decide)]; exact s.2.2.2.2.2
  rw [z2]
  unfold f_X9_read_b40
  refine ⟨fun c => ?_, fun c => ?_⟩
  · have c := (i_le (y := 0) rfl (show (0 : Int32).toInt = 0 from rfl)).mp c
    refine ⟨1, ?_⟩
    unfold f_X9_read_L43
    exact ⟨fun _ => hE I29 L 0 (-1) 0 s (fun _ => ⟨rfl, rfl⟩) (fun q => by omega), fun c => absurd rfl c⟩
  · have c := (not_congr (i_le (y := 0) rfl (show (0 : Int32).toInt = 0 from rfl))).mp c
    have z : (0 : Int32).toInt = 0 := rfl
    exact ⟨79, rc_lines t (fun I L a' F n' s e => hE I L a' F n' s (fun q => by omega) (fun _ => e)) 79 77 0 0 0 I29 L s (by omega) (by omega) (by rw [z]; omega) (by rw [z]; omega) (by omega) (by omega) (by omega) rfl (fun _ _ _ => rfl)⟩
end
section
def MRc (cc : Nat → Nat → Int) (n : Int) (Z : jZ) (I0 : jI) (v0 : Nat) (sz : Int) (I : jI) (a F : Int) : Prop := (WD Z I ∧ CM cc Z I v0 n) ∧ FR Ws_X12_readLine Z I0 Z I ∧ (I v0 26).toInt = a ∧ (I v0 27).toInt = F ∧ (I v0 24).toInt = sz ∧ (I v0 25).toInt = 76
theorem MRc_txt {cc : Nat → Nat → Int} {nn : Int} {Z : jZ} {I0 I : jI} {v0 uR : Nat} {sz a F : Int} (t : MT Z I0 v0 uR sz) (s : MRc cc nn Z I0 v0 sz I a F) : I uR = I0 uR := by
  obtain ⟨w0, k0, h18, h23, kR, lR, hz⟩ := t
  exact s.2.1.2.2.2 v0 12 18 uR k0 h18 (by rw [kR.2]; rfl) rfl (by decide)
theorem MRc_put {cc : Nat → Nat → Int} {nn : Int} {Z : jZ} {I0 I : jI} {v0 uR j : Nat} {sz a F : Int} {x : Int32} (t : MT Z I0 v0 uR sz) (s : MRc cc nn Z I0 v0 sz I a F) (hm : (12, j) ∈ Ws_X12_readLine) (ok : okF 12 j x) : (WD Z (jpI I v0 j x) ∧ CM cc Z (jpI I v0 j x) v0 nn) ∧ FR Ws_X12_readLine Z I0 Z (jpI I v0 j x) := by
  obtain ⟨w0, k0, -⟩ := t
  exact ⟨⟨WD_putF s.1.1 12 j k0 (by decide) (by decide) ok, CM_fld w0.1 k0 s.1.2⟩, s.2.1.trans w0.1 w0.2.1 (FR_putF k0 (by decide) hm)⟩
theorem MRc_at {cc : Nat → Nat → Int} {nn : Int} {Z : jZ} {I0 I : jI} {v0 uR : Nat} {sz a F : Int} (t : MT Z I0 v0 uR sz) (s : MRc cc nn Z I0 v0 sz I a F) (h1 : -1000 ≤ a) (h2 : a ≤ 1000) : MRc cc nn Z I0 v0 sz (jpI I v0 26 ((I v0 26) + (1 : Int32))) (a + 1) (F) := by
  obtain ⟨g1, g2⟩ := MRc_put (j := 26) (x := (I v0 26) + (1 : Int32)) t s (by decide) trivial
  refine ⟨g1, g2, ?_, ?_, ?_, ?_⟩
  · rw [jpI_at]; exact i_add s.2.2.1 (show (1 : Int32).toInt = 1 from rfl) (by omega) (by omega)
  · rw [jpI_o (by decide)]; exact s.2.2.2.1
  · rw [jpI_o (by decide)]; exact s.2.2.2.2.1
  · rw [jpI_o (by decide)]; exact s.2.2.2.2.2
theorem mc_here {cc : Nat → Nat → Int} {nn : Int} {Z : jZ} {I0 I : jI} {L : jL} {v0 uR : Nat} {sz a F : Int} {Q : Int32 → jI → jL → Prop} (t : MT Z I0 v0 uR sz) (s : MRc cc nn Z I0 v0 sz I a F) (h0 : 0 ≤ a) (h : ∀ r : Int32, r.toInt = (GS (I0 uR) (min sz 76)) a → Q r I L) : f_X12_here v0 Z I L Q := by
  have e := MRc_txt t s
  obtain ⟨w0, k0, h18, h23, kR, lR, hz⟩ := t
  obtain ⟨w, f, sa, sF, s4, s5⟩ := s
  unfold f_X12_here
  refine ⟨fun c => h _ ?_, fun c => ⟨fun c1 => h _ ?_, fun c1 => ⟨uR, h23, kR, ?_, h _ ?_⟩⟩⟩
  · have := (i_le s4 sa).mp c
    rw [GS_out (by omega)]; rfl
  · have := (i_le s5 sa).mp c1
    rw [GS_out (by omega)]; rfl
  · have := (not_congr (i_le s4 sa)).mp c
    rw [lR]
    exact vi_of sa (by omega) (by omega)
  · have c := (not_congr (i_le s4 sa)).mp c
    have c1 := (not_congr (i_le s5 sa)).mp c1
    rw [e]
    have g := GS_in (f := I0 uR) (lim := min sz 76) (x := I v0 26) (by omega) (by omega)
    rw [sa] at g
    exact g
theorem mc_fine {cc : Nat → Nat → Int} {nn : Int} {Z : jZ} {I0 I : jI} {L : jL} {v0 : Nat} {sz a F : Int} {Q : Int32 → jI → jL → Prop} (s : MRc cc nn Z I0 v0 sz I a F) (h1 : F = -1 → Q 1 I L) (h2 : F ≠ -1 → Q 0 I L) : f_X12_fine v0 Z I L Q := by
  unfold f_X12_fine
  exact ⟨fun c => h2 ((not_congr (i_eq s.2.2.2.1 (show (-1 : Int32).toInt = -1 from rfl))).mp c), fun c => h1 ((i_eq s.2.2.2.1 (show (-1 : Int32).toInt = -1 from rfl)).mp c)⟩
theorem mc_fault {cc : Nat → Nat → Int} {nn : Int} {Z : jZ} {I0 I : jI} {L : jL} {v0 uR : Nat} {sz a F : Int} {y : Int32} {Q : jI → jL → Prop} (t : MT Z I0 v0 uR sz) (s : MRc cc nn Z I0 v0 sz I a F) (hF : F = -1) (h : ∀ I', MRc cc nn Z I0 v0 sz I' (a) (y.toInt) → Q I' L) : f_X12_fault v0 y Z I L Q := by
  unfold f_X12_fault
  refine mc_fine s (fun _ => ⟨fun c => absurd c (by decide), fun _ => ?_⟩) (fun c => absurd hF c)
  intro I9 e9
  rw [e9]
  obtain ⟨g1, g2⟩ := MRc_put (j := 27) (x := y) t s (by decide) trivial
  refine h _ ⟨g1, g2, ?_, ?_, ?_, ?_⟩
  · rw [jpI_o (by decide)]; exact s.2.2.1
  · rw [jpI_at]
  · rw [jpI_o (by decide)]; exact s.2.2.2.2.1
  · rw [jpI_o (by decide)]; exact s.2.2.2.2.2
theorem mc_faultD {cc : Nat → Nat → Int} {nn : Int} {Z : jZ} {I0 I : jI} {L : jL} {v0 : Nat} {sz a F : Int} {y : Int32} {Q : jI → jL → Prop} (s : MRc cc nn Z I0 v0 sz I a F) (hF : F ≠ -1) (h : Q I L) : f_X12_fault v0 y Z I L Q := by
  unfold f_X12_fault
  exact mc_fine s (fun c => absurd c hF) (fun _ => ⟨fun _ => h, fun c => absurd rfl c⟩)
theorem mc_pass {cc : Nat → Nat → Int} {nn : Int} {Z : jZ} {I0 I : jI} {L : jL} {v0 uR : Nat} {sz a F : Int} {c : Int32} {k : Int} {Q : Int32 → jI → jL → Prop} (t : MT Z I0 v0 uR sz) (s : MRc cc nn Z I0 v0 sz I a F) (hF : F = -1) (h0 : 0 ≤ a ∧ a ≤ 100) (hk : c.toInt = k) (h1 : (GS (I0 uR) (min sz 76)) a = k → ∀ I', MRc cc nn Z I0 v0 sz I' (a + 1) (F) → Q 1 I' L) (h2 : (GS (I0 uR) (min sz 76)) a ≠ k → Q 0 I L) : f_X12_passes v0 c Z I L Q := by
  unfold f_X12_passes
  refine mc_fine s (fun _ => ⟨fun c => absurd c (by decide), fun _ => ?_⟩) (fun c => absurd hF c)
  refine mc_here t s h0.1 (fun r hr => ⟨fun e => ?_, fun e => ?_⟩)
  · intro I17 e17
    rw [e17]
    have e := (i_eq rfl hk).mp e
    exact h1 (by omega) _ (MRc_at t s (by omega) (by omega))
  · have e := (not_congr (i_eq rfl hk)).mp e
    exact h2 (by omega)
theorem mc_passD {cc : Nat → Nat → Int} {nn : Int} {Z : jZ} {I0 I : jI} {L : jL} {v0 : Nat} {sz a F : Int} {c : Int32} {Q : Int32 → jI → jL → Prop} (s : MRc cc nn Z I0 v0 sz I a F) (hF : F ≠ -1) (h : Q 0 I L) : f_X12_passes v0 c Z I L Q := by
  unfold f_X12_passes
  exact mc_fine s (fun c => absurd c hF) (fun _ => ⟨fun _ => h, fun c => absurd rfl c⟩)
theorem mc_need {cc : Nat → Nat → Int} {nn : Int} {Z : jZ} {I0 I : jI} {L : jL} {v0 uR : Nat} {sz a F : Int} {c : Int32} {k : Int} {Q : jI → jL → Prop} (t : MT Z I0 v0 uR sz) (s : MRc cc nn Z I0 v0 sz I a F) (hF : F = -1) (h0 : 0 ≤ a ∧ a ≤ 100) (hk : c.toInt = k) (h1 : (GS (I0 uR) (min sz 76)) a = k → ∀ I', MRc cc nn Z I0 v0 sz I' (a + 1) (F) → Q I' L) (h2 : (GS (I0 uR) (min sz 76)) a ≠ k → ∀ I', MRc cc nn Z I0 v0 sz I' (a) (a) → Q I' L) : f_X12_need v0 c Z I L Q := by
  unfold f_X12_need
  refine mc_pass t s hF h0 hk (fun g I' s' => ⟨fun _ => h1 g I' s', fun c => absurd c (by decide)⟩) (fun g => ⟨fun c => absurd rfl c, fun _ => ?_⟩)
  refine mc_fault t s hF (fun I' s' => h2 g I' ?_)
  rw [s.2.2.1] at s'
  exact s'
theorem mc_needD {cc : Nat → Nat → Int} {nn : Int} {Z : jZ} {I0 I : jI} {L : jL} {v0 : Nat} {sz a F : Int} {c : Int32} {Q : jI → jL → Prop} (s : MRc cc nn Z I0 v0 sz I a F) (hF : F ≠ -1) (h : Q I L) : f_X12_need v0 c Z I L Q := by
  unfold f_X12_need
  exact mc_passD s hF ⟨fun c => absurd rfl c, fun _ => mc_faultD s hF h⟩
theorem mc_numberD {cc : Nat → Nat → Int} {nn : Int} {Z : jZ} {I0 I : jI} {L : jL} {v0 : Nat} {sz a F : Int} {v1 v2 v3 : Int32} {Q : Int32 → jI → jL → Prop} (s : MRc cc nn Z I0 v0 sz I a F) (hF : F ≠ -1) (h : Q 0 I L) : f_X12_number v0 v1 v2 v3 Z I L Q := by
  unfold f_X12_number
  exact mc_fine s (fun c => absurd c hF) (fun _ => ⟨fun c => absurd rfl c, fun _ => h⟩)
theorem mc_numE {cc : Nat → Nat → Int} {nn : Int} {Z : jZ} {I0 I : jI} {L : jL} {v0 uR : Nat} {sz a d lo hi : Int} {v2 v3 v4 v5 : Int32} {Q : Int32 → jI → jL → Prop} (t : MT Z I0 v0 uR sz) (s : MRc cc nn Z I0 v0 sz I (a + d) (-1)) (e4 : v4.toInt = a) (e2 : v2.toInt = lo) (e3 : v3.toInt = hi) (h0 : 0 ≤ a ∧ a ≤ 100) (hd : 0 ≤ d ∧ d ≤ 2)
    (h1 : 1 ≤ d → lo ≤ v5.toInt → v5.toInt ≤ hi → Q v5 I L)
    (h2 : ¬ (1 ≤ d ∧ lo ≤ v5.toInt ∧ v5.toInt ≤ hi) → ∀ I' F', F' ≠ -1 → (d = 0 → F' = a) → (1 ≤ d → F' = a + d - 1) → MRc cc nn Z I0 v0 sz I' (a + d) (F') → Q 0 I' L) : f_X12_number_b71 Z Q v0 v2 v3 v4 v5 I L := by
  have bad : ∀ I' F', F' ≠ -1 → MRc cc nn Z I0 v0 sz I' (a + d) (F') → Q 0 I' L → f_X12_number_b111 Z Q v0 v5 I' L := by
    intro I' F' hF s' h
    unfold f_X12_number_b111
    exact mc_fine s' (fun c => absurd c hF) (fun _ => ⟨fun _ => h, fun c => absurd rfl c⟩)
  unfold f_X12_number_b71
  refine ⟨fun c => ?_, fun c => ?_⟩
  · have c := (not_congr (i_eq s.2.2.1 e4)).mp c
    refine s_X12_in s.1.1 v5 v2 v3 (fun r16 p16 => ⟨fun g => ?_, fun g => ?_⟩)
    · have g := (not_congr (i_eq (x := r16) (y := 0) rfl (show (0 : Int32).toInt = 0 from rfl))).mp g
      unfold f_X12_number_b111
      exact mc_fine s (fun _ => ⟨fun c => absurd c (by decide), fun _ => h1 (by omega) (by omega) (by omega)⟩) (fun c => absurd rfl c)
    · have g := (i_eq (x := r16) (y := 0) rfl (show (0 : Int32).toInt = 0 from rfl)).mp g
      refine mc_fault t s rfl (fun I' s' => ?_)
      have e : ((I v0 26) - (1 : Int32)).toInt = a + d - 1 := i_sub s.2.2.1 (show (1 : Int32).toInt = 1 from rfl) (by omega) (by omega)
      rw [e] at s'
      exact bad I' _ (by omega) s' (h2 (by omega) I' _ (by omega) (by omega) (fun _ => rfl) s')
  · have c := (i_eq s.2.2.1 e4).mp c
    refine mc_fault t s rfl (fun I' s' => ?_)
    rw [s.2.2.1] at s'
    exact bad I' _ (by omega) s' (h2 (by omega) I' _ (by omega) (by omega) (by omega) s')
theorem mc_num {cc : Nat → Nat → Int} {nn : Int} {Z : jZ} {I0 : jI} {L : jL} {v0 uR : Nat} {sz a lo hi : Int} {v2 v3 v4 : Int32} {Q : Int32 → jI → jL → Prop} (t : MT Z I0 v0 uR sz) (e4 : v4.toInt = a) (e2 : v2.toInt = lo) (e3 : v3.toInt = hi) (h0 : 0 ≤ a ∧ a ≤ 100)
    (h1 : 1 ≤ nd (GS (I0 uR) (min sz 76)) a ∧ lo ≤ nv (GS (I0 uR) (min sz 76)) a ∧ nv (GS (I0 uR) (min sz 76)) a ≤ hi → ∀ (r : Int32) I', r.toInt = nv (GS (I0 uR) (min sz 76)) a → MRc cc nn Z I0 v0 sz I' (a + nd (GS (I0 uR) (min sz 76)) a) (-1) → Q r I' L)
    (h2 : ¬ (1 ≤ nd (GS (I0 uR) (min sz 76)) a ∧ lo ≤ nv (GS (I0 uR) (min sz 76)) a ∧ nv (GS (I0 uR) (min sz 76)) a ≤ hi) → ∀ I', MRc cc nn Z I0 v0 sz I' (a + nd (GS (I0 uR) (min sz 76)) a) (nbad (GS (I0 uR) (min sz 76)) a) → Q 0 I' L) :
    ∀ (m : Nat) (v5 : Int32) (d : Int) (I : jI), MRc cc nn Z I0 v0 sz I (a + d) (-1) → NI (GS (I0 uR) (min sz 76)) a d v5.toInt (a + d) → 3 - d ≤ (m : Int) → f_X12_number_L18 Z Q m v0 2 v2 v3 v4 v5 I L := by
  have nb := nbad_eq (GS (I0 uR) (min sz 76)) a
  have fin : ∀ (v5 : Int32) (d : Int) (I : jI), MRc cc nn Z I0 v0 sz I (a + d) (-1) → nd (GS (I0 uR) (min sz 76)) a = d → nv (GS (I0 uR) (min sz 76)) a = v5.toInt → f_X12_number_b71 Z Q v0 v2 v3 v4 v5 I L := by
    intro v5 d I s e1 e5
    have nr := nd_rng (GS (I0 uR) (min sz 76)) a
    subst e1
    refine mc_numE t s e4 e2 e3 h0 nr (fun g1 g2 g3 => h1 (by omega) v5 I e5.symm s) (fun g I' F' hF hF0 hF1 s' => h2 (by omega) I' ?_)
    have : F' = nbad (GS (I0 uR) (min sz 76)) a := by omega
    rw [← this]
    exact s'
  intro m
  induction m with
  | zero =>
    intro v5 d I s hN hm
    exfalso
    obtain ⟨-, h | h | h⟩ := hN <;> omega
  | succ m ih =>
    intro v5 d I s hN hm
    have hd : 0 ≤ d ∧ d ≤ 2 := by obtain ⟨-, h | h | h⟩ := hN <;> omega
    have hv : 0 ≤ v5.toInt ∧ v5.toInt ≤ 99 := by obtain ⟨-, h | h | h⟩ := hN <;> omega
    have e42 : (v4 + (2 : Int32)).toInt = a + 2 := i_add e4 (show (2 : Int32).toInt = 2 from rfl) (by omega) (by omega)
    unfold f_X12_number_L18
    refine ⟨fun c => ?_, fun c => ?_⟩
    · have c := (i_le e42 s.2.2.1).mp c
      obtain ⟨g1, g2, g3⟩ := NI_end hN (Or.inl (by omega))
      exact fin v5 d I s g1 g2
    have c := (not_congr (i_le e42 s.2.2.1)).mp c
    refine mc_here t s (by omega) (fun r hr => ?_)
    refine s_X12_in s.1.1 r 48 57 (fun r44 p44 => ⟨fun g => ?_, fun g => ?_⟩)
    · have g := (i_eq (x := r44) (y := 0) rfl (show (0 : Int32).toInt = 0 from rfl)).mp g
      have z1 : (48 : Int32).toInt = 48 := rfl
      have z2 : (57 : Int32).toInt = 57 := rfl
      rw [z1, z2] at p44
      obtain ⟨g1, g2, g3⟩ := NI_end hN (Or.inr (by omega))
      exact fin v5 d I s g1 g2
    · have g := (not_congr (i_eq (x := r44) (y := 0) rfl (show (0 : Int32).toInt = 0 from rfl))).mp g
      have z1 : (48 : Int32).toInt = 48 := rfl
      have z2 : (57 : Int32).toInt = 57 := rfl
      rw [z1, z2] at p44
      refine mc_here t s (by omega) (fun r2 hr2 => ?_)
      intro x53 e53 I54 e54
      rw [e54]
      have d53 : x53.toInt = v5.toInt * 10 + (GS (I0 uR) (min sz 76)) (a + d) - 48 := by
        rw [e53]
        exact (i_sub (i_add (i_mul (show (10 : Int32).toInt = 10 from rfl) (y := v5) rfl (by omega) (by omega)) (y := r2) rfl (by omega) (by omega)) (show (48 : Int32).toInt = 48 from rfl) (by omega) (by omega)).trans (by omega)
      have s1 := MRc_at t s (by omega) (by omega)
      rw [show a + d + 1 = a + (d + 1) by omega] at s1
      exact ih x53 (d + 1) _ s1 (NI_step hN (by omega) (by omega) rfl d53 (by omega)) (by omega)
theorem mc_number {cc : Nat → Nat → Int} {nn : Int} {Z : jZ} {I0 I : jI} {L : jL} {v0 uR : Nat} {sz a F : Int} {lo hi : Int} {v2 v3 : Int32} {Q : Int32 → jI → jL → Prop} (t : MT Z I0 v0 uR sz) (s : MRc cc nn Z I0 v0 sz I a F) (hF : F = -1) (e2 : v2.toInt = lo) (e3 : v3.toInt = hi) (h0 : 0 ≤ a ∧ a ≤ 100)
    (h1 : 1 ≤ nd (GS (I0 uR) (min sz 76)) a ∧ lo ≤ nv (GS (I0 uR) (min sz 76)) a ∧ nv (GS (I0 uR) (min sz 76)) a ≤ hi → ∀ (r : Int32) I', r.toInt = nv (GS (I0 uR) (min sz 76)) a → MRc cc nn Z I0 v0 sz I' (a + nd (GS (I0 uR) (min sz 76)) a) (-1) → Q r I' L)
    (h2 : ¬ (1 ≤ nd (GS (I0 uR) (min sz 76)) a ∧ lo ≤ nv (GS (I0 uR) (min sz 76)) a ∧ nv (GS (I0 uR) (min sz 76)) a ≤ hi) → ∀ I', MRc cc nn Z I0 v0 sz I' (a + nd (GS (I0 uR) (min sz 76)) a) (nbad (GS (I0 uR) (min sz 76)) a) → Q 0 I' L) : f_X12_number v0 2 v2 v3 Z I L Q := by
  subst hF
  unfold f_X12_number
  refine mc_fine s (fun _ => ⟨fun _ => ?_, fun c => absurd c (by decide)⟩) (fun c => absurd rfl c)
  intro x63 e63
  have z : (0 : Int32).toInt = 0 := rfl
  have s0 : MRc cc nn Z I0 v0 sz I (a + 0) (-1) := by rw [show a + 0 = a by omega]; exact s
  exact ⟨3, mc_num t (by rw [e63]; exact s.2.2.1) e2 e3 h0 h1 h2 3 0 0 I s0 (by rw [z, show a + 0 = a by omega]; exact NI_0) (by omega)⟩
theorem mc_family {cc : Nat → Nat → Int} {nn : Int} {Z : jZ} {I0 I : jI} {L : jL} {v0 uR : Nat} {sz a F : Int} {Q : Int32 → jI → jL → Prop} (t : MT Z I0 v0 uR sz) (s : MRc cc nn Z I0 v0 sz I a F) (hF : F = -1) (h0 : 0 ≤ a ∧ a ≤ 100)
    (h1 : 48 ≤ (GS (I0 uR) (min sz 76)) a ∧ (GS (I0 uR) (min sz 76)) a ≤ 55 → ∀ (r : Int32) I', r.toInt = (GS (I0 uR) (min sz 76)) a - 48 → MRc cc nn Z I0 v0 sz I' (a + 1) (-1) → Q r I' L)
    (h2 : ¬ (48 ≤ (GS (I0 uR) (min sz 76)) a ∧ (GS (I0 uR) (min sz 76)) a ≤ 55) → ∀ I' p, MRc cc nn Z I0 v0 sz I' (p) (a) → Q 0 I' L) : f_X12_number v0 1 0 7 Z I L Q := by
  subst hF
  unfold f_X12_number
  refine mc_fine s (fun _ => ⟨fun _ => ?_, fun c => absurd c (by decide)⟩) (fun c => absurd rfl c)
  intro x63 e63
  have e4 : x63.toInt = a := by rw [e63]; exact s.2.2.1
  have e41 : (x63 + (1 : Int32)).toInt = a + 1 := i_add e4 (show (1 : Int32).toInt = 1 from rfl) (by omega) (by omega)
  have z : (0 : Int32).toInt = 0 := rfl
  have s0 : MRc cc nn Z I0 v0 sz I (a + 0) (-1) := by rw [show a + 0 = a by omega]; exact s
  refine ⟨2, ?_⟩
  unfold f_X12_number_L18
  refine ⟨fun c => ?_, fun _ => ?_⟩
  · have c := (i_le e41 s.2.2.1).mp c
    omega
  refine mc_here t s (by omega) (fun r hr => ?_)
  have z1 : (48 : Int32).toInt = 48 := rfl
  have z2 : (57 : Int32).toInt = 57 := rfl
  refine s_X12_in s.1.1 r 48 57 (fun r44 p44 => ⟨fun g => ?_, fun g => ?_⟩)
  · have g := (i_eq (x := r44) (y := 0) rfl (show (0 : Int32).toInt = 0 from rfl)).mp g
    rw [z1, z2] at p44
    refine mc_numE (d := 0) t s0 e4 (show (0 : Int32).toInt = 0 from rfl) (show (7 : Int32).toInt = 7 from rfl) h0 (by omega) (fun q => by omega) (fun _ I' F' hF hF0 _ s' => h2 (by omega) I' (a + 0) ?_)
    rw [hF0 rfl] at s'
    exact s'
  · have g := (not_congr (i_eq (x := r44) (y := 0) rfl (show (0 : Int32).toInt = 0 from rfl))).mp g
    rw [z1, z2] at p44
    refine mc_here t s (by omega) (fun r2 hr2 => ?_)
    intro x53 e53 I54 e54
    rw [e54]
    have d53 : x53.toInt = (GS (I0 uR) (min sz 76)) a - 48 := by
      rw [e53]
      exact (i_sub (i_add (i_mul (show (10 : Int32).toInt = 10 from rfl) (y := 0) z (by omega) (by omega)) (y := r2) rfl (by omega) (by omega)) (show (48 : Int32).toInt = 48 from rfl) (by omega) (by omega)).trans (by omega)
    have s1 := MRc_at t s (by omega) (by omega)
    unfold f_X12_number_L18
    refine ⟨fun _ => ?_, fun c => ?_⟩
    · refine mc_numE (d := 1) t s1 e4 (show (0 : Int32).toInt = 0 from rfl) (show (7 : Int32).toInt = 7 from rfl) h0 (by omega) (fun _ q1 q2 => h1 (by omega) _ _ d53 s1) (fun q I' F' hF _ hF1 s' => h2 (by omega) I' (a + 1) ?_)
      rw [show F' = a by have := hF1 (by omega); omega] at s'
      exact s'
    · exact absurd ((i_le e41 s1.2.2.1).mpr (by omega)) c
set_option maxHeartbeats 1000000 in
theorem mc_puts {cc : Nat → Nat → Int} {Z : jZ} {I0 : jI} {L : jL} {v0 uR : Nat} {sz a F n : Int} {v1 v2 v3 v4 v5 v6 v7 : Int32} {Q : Int32 → jI → jL → Prop} (t : MT Z I0 v0 uR sz) (e1 : v1.toInt = n) (h2 : 0 ≤ v2.toInt ∧ v2.toInt ≤ 30) (h3 : 0 ≤ v3.toInt ∧ v3.toInt ≤ 9) (h4 : 0 ≤ v4.toInt ∧ v4.toInt ≤ 20) (h7 : 1 ≤ v7.toInt ∧ n + v7.toInt ≤ 24 ∧ 0 ≤ n)
    (hcv : ∀ q : Nat, n ≤ (q : Int) → (q : Int) < n + v7.toInt → cc 0 q = v2.toInt ∧ cc 1 q = v3.toInt ∧ cc 2 q = v4.toInt ∧ cc 4 q = v5.toInt ∧ cc 3 q = v6.toInt)
    (hQ : ∀ (r : Int32) I', r.toInt = n + v7.toInt → MRc cc (n + v7.toInt) Z I0 v0 sz I' a F → Q r I' L) :
    ∀ (m : Nat) (v8 : Int32) (I : jI), MRc cc (n + v8.toInt) Z I0 v0 sz I a F → 0 ≤ v8.toInt → v8.toInt ≤ v7.toInt → v7.toInt - v8.toInt < (m : Int) → f_X12_readLine_L109 Z Q m v0 v1 v2 v3 v4 v5 v6 v7 v8 I L := by
  intro m
  induction m with
  | zero => intro v8 I s g1 g2 g3; exfalso; omega
  | succ m ih =>
    intro v8 I s g1 g2 g3
    unfold f_X12_readLine_L109
    refine ⟨fun c => ?_, fun c => ?_⟩
    · have c := (i_le (x := v7) (y := v8) rfl rfl).mp c
      rw [show v8.toInt = v7.toInt by omega] at s
      exact hQ _ I (i_add e1 rfl (by omega) (by omega)) s
    have c := (not_congr (i_le (x := v7) (y := v8) rfl rfl)).mp c
    obtain ⟨b, eb, kb, lb⟩ := sh_f s.1.1.1 t.2.1 (j := 28) (k := 14) (m := 120) rfl
    have s9 : MR Z I0 v0 sz I a F := ⟨s.1.1, s.2⟩
    intro x2 e2
    have d2 : x2.toInt = 5 * (n + v8.toInt) := by
      rw [e2]
      exact i_mul (show (5 : Int32).toInt = 5 from rfl) (i_add e1 rfl (by omega) (by omega)) (by omega) (by omega)
    have n0 := i_nat d2 (by omega)
    have d21 : (x2 + (1 : Int32)).toInt = 5 * (n + v8.toInt) + 1 := i_add d2 (show (1 : Int32).toInt = 1 from rfl) (by omega) (by omega)
    have n1 := i_nat d21 (by omega)
    have d22 : (x2 + (2 : Int32)).toInt = 5 * (n + v8.toInt) + 2 := i_add d2 (show (2 : Int32).toInt = 2 from rfl) (by omega) (by omega)
    have n2 := i_nat d22 (by omega)
    have d23 : (x2 + (3 : Int32)).toInt = 5 * (n + v8.toInt) + 3 := i_add d2 (show (3 : Int32).toInt = 3 from rfl) (by omega) (by omega)
    have n3 := i_nat d23 (by omega)
    have d24 : (x2 + (4 : Int32)).toInt = 5 * (n + v8.toInt) + 4 := i_add d2 (show (4 : Int32).toInt = 4 from rfl) (by omega) (by omega)
    have n4 := i_nat d24 (by omega)
    intro b0 eb0
    cases eb.symm.trans eb0
    refine ⟨vi_of d2 (by omega) (by omega), ?_⟩
    intro J0 eJ0
    have s0 : MR Z I0 v0 sz J0 a F := by
      rw [eJ0]
      exact MR_put28 t s9 eb kb (show (x2.toNatClampNeg % 5 = 0 → rg 0 30 v2) ∧ (x2.toNatClampNeg % 5 = 1 → rg 0 9 v2) ∧ (x2.toNatClampNeg % 5 = 2 → rg 0 20 v2) from ⟨fun _ => h2, fun h => by omega, fun h => by omega⟩)
    intro b1 eb1
    cases eb.symm.trans eb1
    refine ⟨vi_of d21 (by omega) (by omega), ?_⟩
    intro J1 eJ1
    have s1 : MR Z I0 v0 sz J1 a F := by
      rw [eJ1]
      exact MR_put28 t s0 eb kb (show ((x2 + (1 : Int32)).toNatClampNeg % 5 = 0 → rg 0 30 v3) ∧ ((x2 + (1 : Int32)).toNatClampNeg % 5 = 1 → rg 0 9 v3) ∧ ((x2 + (1 : Int32)).toNatClampNeg % 5 = 2 → rg 0 20 v3) from ⟨fun h => by omega, fun _ => h3, fun h => by omega⟩)
    intro b2 eb2
    cases eb.symm.trans eb2
    refine ⟨vi_of d22 (by omega) (by omega), ?_⟩
    intro J2 eJ2
    have s2 : MR Z I0 v0 sz J2 a F := by
      rw [eJ2]
      exact MR_put28 t s1 eb kb (show ((x2 + (2 : Int32)).toNatClampNeg % 5 = 0 → rg 0 30 v4) ∧ ((x2 + (2 : Int32)).toNatClampNeg % 5 = 1 → rg 0 9 v4) ∧ ((x2 + (2 : Int32)).toNatClampNeg % 5 = 2 → rg 0 20 v4) from ⟨fun h => by omega, fun h => by omega, fun _ => h4⟩)
    intro b3 eb3
    cases eb.symm.trans eb3
    refine ⟨vi_of d23 (by omega) (by omega), ?_⟩
    intro J3 eJ3
    have s3 : MR Z I0 v0 sz J3 a F := by
      rw [eJ3]
      exact MR_put28 t s2 eb kb (show ((x2 + (3 : Int32)).toNatClampNeg % 5 = 0 → rg 0 30 v5) ∧ ((x2 + (3 : Int32)).toNatClampNeg % 5 = 1 → rg 0 9 v5) ∧ ((x2 + (3 : Int32)).toNatClampNeg % 5 = 2 → rg 0 20 v5) from ⟨fun h => by omega, fun h => by omega, fun h => by omega⟩)
    intro b4 eb4
    cases eb.symm.trans eb4
    refine ⟨vi_of d24 (by omega) (by omega), ?_⟩
    intro J4 eJ4
    have s4 : MR Z I0 v0 sz J4 a F := by
      rw [eJ4]
      exact MR_put28 t s3 eb kb (show ((x2 + (4 : Int32)).toNatClampNeg % 5 = 0 → rg 0 30 v6) ∧ ((x2 + (4 : Int32)).toNatClampNeg % 5 = 1 → rg 0 9 v6) ∧ ((x2 + (4 : Int32)).toNatClampNeg % 5 = 2 → rg 0 20 v6) from ⟨fun h => by omega, fun h => by omega, fun h => by omega⟩)
    intro x18 e18
    have d18 : x18.toInt = v8.toInt + 1 := by rw [e18]; exact i_add rfl (show (1 : Int32).toInt = 1 from rfl) (by omega) (by omega)
    have cm4 : CM cc Z J4 v0 (n + x18.toInt) := by
      intro u hu q hq
      cases eb.symm.trans hu
      obtain ⟨q0, q1, q2, q3, q4⟩ := hcv (n + v8.toInt).toNat (by omega) (by omega)
      by_cases hqn : (q : Int) = n + v8.toInt
      · have hq' : q = (n + v8.toInt).toNat := by omega
        rw [← hq'] at q0 q1 q2 q3 q4
        rw [show 5 * q = x2.toNatClampNeg by omega]
        have m1 : x2.toNatClampNeg + 1 = (x2 + (1 : Int32)).toNatClampNeg := by omega
        have m2 : x2.toNatClampNeg + 2 = (x2 + (2 : Int32)).toNatClampNeg := by omega
        have m3 : x2.toNatClampNeg + 3 = (x2 + (3 : Int32)).toNatClampNeg := by omega
        have m4 : x2.toNatClampNeg + 4 = (x2 + (4 : Int32)).toNatClampNeg := by omega
        refine ⟨?_, ?_, ?_, ?_, ?_⟩
        · rw [eJ4, jpI_off (by omega), eJ3, jpI_off (by omega), eJ2, jpI_off (by omega), eJ1, jpI_off (by omega), eJ0, jpI_at]; exact q0.symm
        · rw [m1, eJ4, jpI_off (by omega), eJ3, jpI_off (by omega), eJ2, jpI_off (by omega), eJ1, jpI_at]; exact q1.symm
        · rw [m2, eJ4, jpI_off (by omega), eJ3, jpI_off (by omega), eJ2, jpI_at]; exact q2.symm
        · rw [m3, eJ4, jpI_off (by omega), eJ3, jpI_at]; exact q3.symm
        · rw [m4, eJ4, jpI_at]; exact q4.symm
      · have off : ∀ z : Nat, z < x2.toNatClampNeg → J4 b z = I b z := fun z hz => by
          rw [eJ4, jpI_off (by omega), eJ3, jpI_off (by omega), eJ2, jpI_off (by omega), eJ1, jpI_off (by omega), eJ0, jpI_off (by omega)]
        rw [off (5 * q) (by omega), off (5 * q + 1) (by omega), off (5 * q + 2) (by omega), off (5 * q + 3) (by omega), off (5 * q + 4) (by omega)]
        exact s.1.2 b eb q (by omega)
    exact ih x18 J4 ⟨⟨s4.1, cm4⟩, s4.2⟩ (by omega) (by omega) (by omega)
theorem mc_line_fin {cc : Nat → Nat → Int} {Z : jZ} {I0 I : jI} {L : jL} {v0 uR : Nat} {sz a n : Int} {v1 v2 v3 v4 v5 v6 v7 : Int32} {Q : Int32 → jI → jL → Prop} (t : MT Z I0 v0 uR sz) (s : MRc cc n Z I0 v0 sz I (a) (-1)) (e1 : v1.toInt = n) (h2 : 0 ≤ v2.toInt ∧ v2.toInt ≤ 30) (h3 : 0 ≤ v3.toInt ∧ v3.toInt ≤ 9) (h4 : 0 ≤ v4.toInt ∧ v4.toInt ≤ 20) (h7 : 1 ≤ v7.toInt ∧ n + v7.toInt ≤ 24 ∧ 0 ≤ n)
    (hcv : ∀ q : Nat, n ≤ (q : Int) → (q : Int) < n + v7.toInt → cc 0 q = v2.toInt ∧ cc 1 q = v3.toInt ∧ cc 2 q = v4.toInt ∧ cc 4 q = v5.toInt ∧ cc 3 q = v6.toInt)
    (hQ : ∀ (r : Int32) I', r.toInt = n + v7.toInt → MRc cc (n + v7.toInt) Z I0 v0 sz I' (a) (-1) → Q r I' L) : f_X12_readLine_b95 Z Q v0 v1 v2 v3 v4 v5 v6 v7 I L := by
  unfold f_X12_readLine_b95
  have z : (0 : Int32).toInt = 0 := rfl
  exact mc_fine s (fun _ => ⟨fun _ => ⟨v7.toInt.toNat + 1, mc_puts t e1 h2 h3 h4 h7 hcv hQ _ 0 I (by rw [z, show n + 0 = n by omega]; exact s) (by rw [z]; omega) (by rw [z]; omega) (by rw [z]; omega)⟩, fun c => absurd c (by decide)⟩) (fun c => absurd rfl c)
theorem mc_lineE {cc : Nat → Nat → Int} {Z : jZ} {I0 I : jI} {L : jL} {v0 uR : Nat} {sz a n : Int} {v1 v2 v3 v4 v5 s0 : Int32} {Q : Int32 → jI → jL → Prop} (t : MT Z I0 v0 uR sz) (s : MRc cc n Z I0 v0 sz I (a) (-1)) (h0 : 0 ≤ a ∧ a ≤ 99) (hn : 0 ≤ n ∧ n < 24) (e1 : v1.toInt = n) (g2 : 0 ≤ v2.toInt ∧ v2.toInt ≤ 30) (g3 : 0 ≤ v3.toInt ∧ v3.toInt ≤ 9) (g4 : 0 ≤ v4.toInt ∧ v4.toInt ≤ 20)
    (hcv : ∀ q : Nat, n ≤ (q : Int) → (q : Int) < n + (lnE (GS (I0 uR) (min sz 76)) a n).2.2 → cc 0 q = v2.toInt ∧ cc 1 q = v3.toInt ∧ cc 2 q = v4.toInt ∧ cc 4 q = v5.toInt ∧ cc 3 q = s0.toInt)
    (h1 : (lnE (GS (I0 uR) (min sz 76)) a n).1 = -1 → ∀ (r : Int32) I', r.toInt = n + (lnE (GS (I0 uR) (min sz 76)) a n).2.2 → MRc cc (n + (lnE (GS (I0 uR) (min sz 76)) a n).2.2) Z I0 v0 sz I' ((lnE (GS (I0 uR) (min sz 76)) a n).2.1) (-1) → Q r I' L)
    (h2 : (lnE (GS (I0 uR) (min sz 76)) a n).1 ≠ -1 → ∀ I' a', MRc cc n Z I0 v0 sz I' (a') ((lnE (GS (I0 uR) (min sz 76)) a n).1) → Q v1 I' L) : f_X12_readLine_b70 Z Q v0 v1 v2 v3 v4 v5 s0 I L := by
  have nb := nbad_eq (GS (I0 uR) (min sz 76)) (a + 1)
  have nr := nd_rng (GS (I0 uR) (min sz 76)) (a + 1)
  unfold f_X12_readLine_b70
  refine mc_pass (k := 42) t s rfl (by omega) rfl (fun g I1 s1 => ⟨fun c => absurd c (by decide), fun _ => ?_⟩) (fun g => ⟨fun _ => ?_, fun c => absurd rfl c⟩)
  · refine mc_number (lo := 1) (hi := 24 - n) t s1 rfl rfl (i_sub (show (24 : Int32).toInt = 24 from rfl) e1 (by omega) (by omega)) (by omega) (fun q r I2 er s2 => ?_) (fun q I2 sD => ?_)
    · have e : lnE (GS (I0 uR) (min sz 76)) a n = (-1, a + 1 + nd (GS (I0 uR) (min sz 76)) (a + 1), nv (GS (I0 uR) (min sz 76)) (a + 1)) := by unfold lnE; rw [if_pos g, if_pos q]
      rw [e] at h1 hcv
      exact mc_line_fin t s2 e1 g2 g3 g4 (by omega) (by rw [er]; exact hcv) (fun r' I' e' s' => h1 rfl r' I' (by rw [er] at e'; exact e') (by rw [er] at s'; exact s'))
    · have e : lnE (GS (I0 uR) (min sz 76)) a n = (nbad (GS (I0 uR) (min sz 76)) (a + 1), 0, 0) := by unfold lnE; rw [if_pos g, if_neg q]
      rw [e] at h2
      have hD : nbad (GS (I0 uR) (min sz 76)) (a + 1) ≠ -1 := by omega
      unfold f_X12_readLine_b95
      exact mc_fine sD (fun c => absurd c hD) (fun _ => ⟨fun c => absurd rfl c, fun _ => h2 hD _ _ sD⟩)
  · have e : lnE (GS (I0 uR) (min sz 76)) a n = (-1, a, 1) := by unfold lnE; rw [if_neg g]
    rw [e] at h1 hcv
    have o1 : (1 : Int32).toInt = 1 := rfl
    exact mc_line_fin t s e1 g2 g3 g4 (by rw [o1]; omega) (by rw [o1]; exact hcv) (fun r' I' e' s' => h1 rfl r' I' (by rw [o1] at e'; exact e') (by rw [o1] at s'; exact s'))
theorem mc_line {cc : Nat → Nat → Int} {Z : jZ} {I0 I : jI} {L : jL} {v0 uR : Nat} {sz a n : Int} {v1 : Int32} {Q : Int32 → jI → jL → Prop} (t : MT Z I0 v0 uR sz) (s : MRc cc n Z I0 v0 sz I (a) (-1)) (h0 : 0 ≤ a ∧ a ≤ 80) (hn : 0 ≤ n ∧ n < 24) (e1 : v1.toInt = n)
    (hcv : ∀ q : Nat, n ≤ (q : Int) → (q : Int) < n + (lnA (GS (I0 uR) (min sz 76)) a n).2.2 → ∀ j, cc j q = lnV (GS (I0 uR) (min sz 76)) a j)
    (h1 : (lnA (GS (I0 uR) (min sz 76)) a n).1 = -1 → ∀ (r : Int32) I', r.toInt = n + (lnA (GS (I0 uR) (min sz 76)) a n).2.2 → MRc cc (n + (lnA (GS (I0 uR) (min sz 76)) a n).2.2) Z I0 v0 sz I' ((lnA (GS (I0 uR) (min sz 76)) a n).2.1) (-1) → Q r I' L)
    (h2 : (lnA (GS (I0 uR) (min sz 76)) a n).1 ≠ -1 → ∀ I' a', MRc cc n Z I0 v0 sz I' (a') ((lnA (GS (I0 uR) (min sz 76)) a n).1) → Q v1 I' L) : f_X12_readLine v0 v1 Z I L Q := by
  unfold f_X12_readLine
  have s0 := s
  have nb0 := nbad_eq (GS (I0 uR) (min sz 76)) a
  have nr0 := nd_rng (GS (I0 uR) (min sz 76)) a
  refine mc_number (lo := 1) (hi := 30) t s0 rfl rfl rfl (by omega) (fun g0 r0 Ia0 er0 s1 => ?_) (fun g0 Ia0 sD => ?_)
  rotate_left
  · have e : lnA (GS (I0 uR) (min sz 76)) a n = (nbad (GS (I0 uR) (min sz 76)) a, 0, 0) := by unfold lnA; rw [if_neg g0]
    rw [e] at h2
    have hD : nbad (GS (I0 uR) (min sz 76)) a ≠ -1 := by omega
    refine mc_needD sD hD ?_
    refine mc_numberD sD hD ?_
    refine mc_needD sD hD ?_
    refine mc_numberD sD hD ?_
    refine mc_needD sD hD ?_
    refine mc_numberD sD hD ?_
    refine mc_passD sD hD ⟨fun _ => ?_, fun c => absurd rfl c⟩
    unfold f_X12_readLine_b70
    refine mc_passD sD hD ⟨fun _ => ?_, fun c => absurd rfl c⟩
    unfold f_X12_readLine_b95
    exact mc_fine sD (fun c => absurd c hD) (fun _ => ⟨fun c => absurd rfl c, fun _ => h2 hD _ _ sD⟩)
  refine mc_need (k := 44) t s1 rfl (by omega) rfl (fun m0 J0 s2 => ?_) (fun m0 J0 sD => ?_)
  rotate_left
  · have e : lnA (GS (I0 uR) (min sz 76)) a n = (a + nd (GS (I0 uR) (min sz 76)) a, 0, 0) := by unfold lnA; rw [if_pos g0, if_neg m0]
    rw [e] at h2
    have hD : a + nd (GS (I0 uR) (min sz 76)) a ≠ -1 := by omega
    refine mc_numberD sD hD ?_
    refine mc_needD sD hD ?_
    refine mc_numberD sD hD ?_
    refine mc_needD sD hD ?_
    refine mc_numberD sD hD ?_
    refine mc_passD sD hD ⟨fun _ => ?_, fun c => absurd rfl c⟩
    unfold f_X12_readLine_b70
    refine mc_passD sD hD ⟨fun _ => ?_, fun c => absurd rfl c⟩
    unfold f_X12_readLine_b95
    exact mc_fine sD (fun c => absurd c hD) (fun _ => ⟨fun c => absurd rfl c, fun _ => h2 hD _ _ sD⟩)
  have elnA : lnA (GS (I0 uR) (min sz 76)) a n = lnB (GS (I0 uR) (min sz 76)) (a + nd (GS (I0 uR) (min sz 76)) a + 1) n := by unfold lnA; rw [if_pos g0, if_pos m0]
  rw [elnA] at h1 h2 hcv
  obtain ⟨a2, ea2⟩ : ∃ x, x = a + nd (GS (I0 uR) (min sz 76)) a + 1 := ⟨_, rfl⟩
  rw [← ea2] at h1 h2 s2 hcv
  have nb1 := nbad_eq (GS (I0 uR) (min sz 76)) a2
  have nr1 := nd_rng (GS (I0 uR) (min sz 76)) a2
  refine mc_number (lo := 0) (hi := 9) t s2 rfl rfl rfl (by omega) (fun g1 r1 Ia1 er1 s3 => ?_) (fun g1 Ia1 sD => ?_)
  rotate_left
  · have e : lnB (GS (I0 uR) (min sz 76)) a2 n = (nbad (GS (I0 uR) (min sz 76)) a2, 0, 0) := by unfold lnB; rw [if_neg g1]
    rw [e] at h2
    have hD : nbad (GS (I0 uR) (min sz 76)) a2 ≠ -1 := by omega
    refine mc_needD sD hD ?_
    refine mc_numberD sD hD ?_
    refine mc_needD sD hD ?_
    refine mc_numberD sD hD ?_
    refine mc_passD sD hD ⟨fun _ => ?_, fun c => absurd rfl c⟩
    unfold f_X12_readLine_b70
    refine mc_passD sD hD ⟨fun _ => ?_, fun c => absurd rfl c⟩
    unfold f_X12_readLine_b95
    exact mc_fine sD (fun c => absurd c hD) (fun _ => ⟨fun c => absurd rfl c, fun _ => h2 hD _ _ sD⟩)
  refine mc_need (k := 44) t s3 rfl (by omega) rfl (fun m1 J1 s4 => ?_) (fun m1 J1 sD => ?_)
  rotate_left
  · have e : lnB (GS (I0 uR) (min sz 76)) a2 n = (a2 + nd (GS (I0 uR) (min sz 76)) a2, 0, 0) := by unfold lnB; rw [if_pos g1, if_neg m1]
    rw [e] at h2
    have hD : a2 + nd (GS (I0 uR) (min sz 76)) a2 ≠ -1 := by omega
    refine mc_numberD sD hD ?_
    refine mc_needD sD hD ?_
    refine mc_numberD sD hD ?_
    refine mc_passD sD hD ⟨fun _ => ?_, fun c => absurd rfl c⟩
    unfold f_X12_readLine_b70
    refine mc_passD sD hD ⟨fun _ => ?_, fun c => absurd rfl c⟩
    unfold f_X12_readLine_b95
    exact mc_fine sD (fun c => absurd c hD) (fun _ => ⟨fun c => absurd rfl c, fun _ => h2 hD _ _ sD⟩)
  have elnB : lnB (GS (I0 uR) (min sz 76)) a2 n = lnC (GS (I0 uR) (min sz 76)) (a2 + nd (GS (I0 uR) (min sz 76)) a2 + 1) n := by unfold lnB; rw [if_pos g1, if_pos m1]
  rw [elnB] at h1 h2 hcv
  obtain ⟨a3, ea3⟩ : ∃ x, x = a2 + nd (GS (I0 uR) (min sz 76)) a2 + 1 := ⟨_, rfl⟩
  rw [← ea3] at h1 h2 s4 hcv
  have nb2 := nbad_eq (GS (I0 uR) (min sz 76)) a3
  have nr2 := nd_rng (GS (I0 uR) (min sz 76)) a3
  refine mc_number (lo := 0) (hi := 20) t s4 rfl rfl rfl (by omega) (fun g2 r2 Ia2 er2 s5 => ?_) (fun g2 Ia2 sD => ?_)
  rotate_left
  · have e : lnC (GS (I0 uR) (min sz 76)) a3 n = (nbad (GS (I0 uR) (min sz 76)) a3, 0, 0) := by unfold lnC; rw [if_neg g2]
    rw [e] at h2
    have hD : nbad (GS (I0 uR) (min sz 76)) a3 ≠ -1 := by omega
    refine mc_needD sD hD ?_
    refine mc_numberD sD hD ?_
    refine mc_passD sD hD ⟨fun _ => ?_, fun c => absurd rfl c⟩
    unfold f_X12_readLine_b70
    refine mc_passD sD hD ⟨fun _ => ?_, fun c => absurd rfl c⟩
    unfold f_X12_readLine_b95
    exact mc_fine sD (fun c => absurd c hD) (fun _ => ⟨fun c => absurd rfl c, fun _ => h2 hD _ _ sD⟩)
  refine mc_need (k := 64) t s5 rfl (by omega) rfl (fun m2 J2 s6 => ?_) (fun m2 J2 sD => ?_)
  rotate_left
  · have e : lnC (GS (I0 uR) (min sz 76)) a3 n = (a3 + nd (GS (I0 uR) (min sz 76)) a3, 0, 0) := by unfold lnC; rw [if_pos g2, if_neg m2]
    rw [e] at h2
    have hD : a3 + nd (GS (I0 uR) (min sz 76)) a3 ≠ -1 := by omega
    refine mc_numberD sD hD ?_
    refine mc_passD sD hD ⟨fun _ => ?_, fun c => absurd rfl c⟩
    unfold f_X12_readLine_b70
    refine mc_passD sD hD ⟨fun _ => ?_, fun c => absurd rfl c⟩
    unfold f_X12_readLine_b95
    exact mc_fine sD (fun c => absurd c hD) (fun _ => ⟨fun c => absurd rfl c, fun _ => h2 hD _ _ sD⟩)
  have elnC : lnC (GS (I0 uR) (min sz 76)) a3 n = lnD (GS (I0 uR) (min sz 76)) (a3 + nd (GS (I0 uR) (min sz 76)) a3 + 1) n := by unfold lnC; rw [if_pos g2, if_pos m2]
  rw [elnC] at h1 h2 hcv
  obtain ⟨a4, ea4⟩ : ∃ x, x = a3 + nd (GS (I0 uR) (min sz 76)) a3 + 1 := ⟨_, rfl⟩
  rw [← ea4] at h1 h2 s6 hcv
  refine mc_family t s6 rfl (by omega) (fun g3 r3 Ia3 er3 s7 => ?_) (fun g3 Ia3 p3 sD => ?_)
  rotate_left
  · have e : lnD (GS (I0 uR) (min sz 76)) a4 n = (a4, 0, 0) := by unfold lnD; rw [if_neg g3]
    rw [e] at h2
    have hD : a4 ≠ -1 := by omega
    refine mc_passD sD hD ⟨fun _ => ?_, fun c => absurd rfl c⟩
    unfold f_X12_readLine_b70
    refine mc_passD sD hD ⟨fun _ => ?_, fun c => absurd rfl c⟩
    unfold f_X12_readLine_b95
    exact mc_fine sD (fun c => absurd c hD) (fun _ => ⟨fun c => absurd rfl c, fun _ => h2 hD _ _ sD⟩)
  have elnD : lnD (GS (I0 uR) (min sz 76)) a4 n = lnE (GS (I0 uR) (min sz 76)) (a4 + 1 + (if (GS (I0 uR) (min sz 76)) (a4 + 1) = 119 then 1 else 0)) n := by unfold lnD; rw [if_pos g3]
  rw [elnD] at h1 h2 hcv
  refine mc_pass (k := 119) t s7 rfl (by omega) rfl (fun hw I8 s8 => ⟨fun c => absurd c (by decide), fun _ => ?_⟩) (fun hw => ⟨fun _ => ?_, fun c => absurd rfl c⟩)
  · rw [if_pos hw] at h1 h2 hcv
    exact mc_lineE t s8 (by omega) hn e1 (by omega) (by omega) (by omega) (fun q q1 q2 => ⟨(hcv q q1 q2 0).trans er0.symm, (hcv q q1 q2 1).trans (by show nv (GS (I0 uR) (min sz 76)) (a + nd (GS (I0 uR) (min sz 76)) a + 1) = _; rw [← ea2]; exact er1.symm), (hcv q q1 q2 2).trans (by show nv (GS (I0 uR) (min sz 76)) (a + nd (GS (I0 uR) (min sz 76)) a + 1 + nd (GS (I0 uR) (min sz 76)) (a + nd (GS (I0 uR) (min sz 76)) a + 1) + 1) = _; rw [← ea2, ← ea3]; exact er2.symm), (hcv q q1 q2 4).trans (by show (GS (I0 uR) (min sz 76)) (a + nd (GS (I0 uR) (min sz 76)) a + 1 + nd (GS (I0 uR) (min sz 76)) (a + nd (GS (I0 uR) (min sz 76)) a + 1) + 1 + nd (GS (I0 uR) (min sz 76)) (a + nd (GS (I0 uR) (min sz 76)) a + 1 + nd (GS (I0 uR) (min sz 76)) (a + nd (GS (I0 uR) (min sz 76)) a + 1) + 1) + 1) - 48 = _; rw [← ea2, ← ea3, ← ea4]; exact er3.symm), (hcv q q1 q2 3).trans (by show (if (GS (I0 uR) (min sz 76)) (a + nd (GS (I0 uR) (min sz 76)) a + 1 + nd (GS (I0 uR) (min sz 76)) (a + nd (GS (I0 uR) (min sz 76)) a + 1) + 1 + nd (GS (I0 uR) (min sz 76)) (a + nd (GS (I0 uR) (min sz 76)) a + 1 + nd (GS (I0 uR) (min sz 76)) (a + nd (GS (I0 uR) (min sz 76)) a + 1) + 1) + 1 + 1) = 119 then (1 : Int) else 0) = _; rw [← ea2, ← ea3, ← ea4, if_pos hw]; rfl)⟩) h1 h2
  · rw [if_neg hw] at h1 h2 hcv
    have s8 : MRc cc n Z I0 v0 sz Ia3 (a4 + 1 + 0) (-1) := by rw [show a4 + 1 + 0 = a4 + 1 by omega]; exact s7
    exact mc_lineE t s8 (by omega) hn e1 (by omega) (by omega) (by omega) (fun q q1 q2 => ⟨(hcv q q1 q2 0).trans er0.symm, (hcv q q1 q2 1).trans (by show nv (GS (I0 uR) (min sz 76)) (a + nd (GS (I0 uR) (min sz 76)) a + 1) = _; rw [← ea2]; exact er1.symm), (hcv q q1 q2 2).trans (by show nv (GS (I0 uR) (min sz 76)) (a + nd (GS (I0 uR) (min sz 76)) a + 1 + nd (GS (I0 uR) (min sz 76)) (a + nd (GS (I0 uR) (min sz 76)) a + 1) + 1) = _; rw [← ea2, ← ea3]; exact er2.symm), (hcv q q1 q2 4).trans (by show (GS (I0 uR) (min sz 76)) (a + nd (GS (I0 uR) (min sz 76)) a + 1 + nd (GS (I0 uR) (min sz 76)) (a + nd (GS (I0 uR) (min sz 76)) a + 1) + 1 + nd (GS (I0 uR) (min sz 76)) (a + nd (GS (I0 uR) (min sz 76)) a + 1 + nd (GS (I0 uR) (min sz 76)) (a + nd (GS (I0 uR) (min sz 76)) a + 1) + 1) + 1) - 48 = _; rw [← ea2, ← ea3, ← ea4]; exact er3.symm), (hcv q q1 q2 3).trans (by show (if (GS (I0 uR) (min sz 76)) (a + nd (GS (I0 uR) (min sz 76)) a + 1 + nd (GS (I0 uR) (min sz 76)) (a + nd (GS (I0 uR) (min sz 76)) a + 1) + 1 + nd (GS (I0 uR) (min sz 76)) (a + nd (GS (I0 uR) (min sz 76)) a + 1 + nd (GS (I0 uR) (min sz 76)) (a + nd (GS (I0 uR) (min sz 76)) a + 1) + 1) + 1 + 1) = 119 then (1 : Int) else 0) = _; rw [← ea2, ← ea3, ← ea4, if_neg hw]; rfl)⟩) h1 h2
theorem mc_lines {B : Nat × Nat} {cc : Nat → Nat → Int} {Z : jZ} {I0 : jI} {L : jL} {v0 uR : Nat} {sz : Int} {Q : Int32 → jZ → jI → jL → Prop} (t : MT Z I0 v0 uR sz)
    (hE : ∀ (I : jI) (a F : Int) (v1 : Int32), MRc cc (v1.toInt) Z I0 v0 sz I (a) (F) → ENm (GS (I0 uR) (min sz 76)) (min sz 76) a F v1.toInt → f_X12_stairs_b83 B Q v0 v1 Z I L) :
    ∀ (m k : Nat) (v1 : Int32) (a : Int) (I : jI), MRc cc (v1.toInt) Z I0 v0 sz I (a) (-1) → 0 ≤ v1.toInt → v1.toInt ≤ 24 → 0 ≤ a → a ≤ min sz 76 → min sz 76 + 2 - a ≤ (m : Int) → min sz 76 + 1 - a ≤ (k : Int) → rdS (GS (I0 uR) (min sz 76)) (min sz 76) k a v1.toInt = rdS (GS (I0 uR) (min sz 76)) (min sz 76) 77 0 0 → (∀ j (q : Nat), v1.toInt ≤ (q : Int) → cS (GS (I0 uR) (min sz 76)) k a v1.toInt j q = cc j q) → f_X12_stairs_L39 B Q m v0 v1 1 Z I L := by
  have hg : ∀ x, min sz 76 ≤ x → (GS (I0 uR) (min sz 76)) x = -1 := fun x hx => GS_out hx
  have tz := t.2.2.2.2.2.2
  have out : ∀ (m : Nat) (v1 : Int32) (a F : Int) (I : jI), MRc cc (v1.toInt) Z I0 v0 sz I (a) (F) → ENm (GS (I0 uR) (min sz 76)) (min sz 76) a F v1.toInt → f_X12_stairs_L39 B Q (m + 1) v0 v1 0 Z I L := by
    intro m v1 a F I s e
    unfold f_X12_stairs_L39
    exact ⟨fun _ => hE I a F v1 s e, fun c => absurd rfl c⟩
  intro m
  induction m with
  | zero => intro k v1 a I s h1 h2 h3 h4 h5 h6 hr hc; exfalso; omega
  | succ m ih =>
    intro k v1 a I s h1 h2 h3 h4 h5 h6 hr hc
    obtain ⟨m', em⟩ : ∃ m', m = m' + 1 := ⟨m - 1, by omega⟩
    obtain ⟨k', ek⟩ : ∃ k', k = k' + 1 := ⟨k - 1, by omega⟩
    subst ek
    unfold rdS at hr
    unfold f_X12_stairs_L39
    refine ⟨fun c => absurd c (by decide), fun _ => ?_⟩
    refine mc_fine s (fun _ => ⟨fun c => absurd c (by decide), fun _ => ⟨fun c => ?_, fun c => ?_⟩⟩) (fun c => absurd rfl c)
    · have c := (not_congr (i_eq (x := v1) (y := 24) rfl (show (24 : Int32).toInt = 24 from rfl))).mp c
      have hn : v1.toInt < 24 := by omega
      rw [if_pos hn] at hr
      refine mc_line (n := v1.toInt) t s (by omega) (by omega) rfl (fun q q1 q2 j => (hc j q q1).symm.trans (cS_here q2)) (fun e r I1 er s1 => ?_) (fun e I1 a1 s1 => ?_)
      · rw [if_pos e] at hr
        have ok := lnA_ok hn e h3
        have lm := lnA_lim hg h3 e
        rw [← er] at hr s1
        have hc1 : ∀ j (q : Nat), r.toInt ≤ (q : Int) → cS (GS (I0 uR) (min sz 76)) k' ((lnA (GS (I0 uR) (min sz 76)) a v1.toInt).2.1 + 1) r.toInt j q = cc j q := fun j q hq => by
          rw [er]
          exact (cS_step (by omega)).symm.trans (hc j q (by omega))
        refine mc_pass (k := 59) t s1 rfl (by omega) rfl (fun g I2 s2 => ?_) (fun g => ?_)
        · have := at_lim hg g (by omega)
          rw [if_pos (by omega), if_pos g] at hr
          exact ih k' r _ I2 s2 (by omega) (by omega) (by omega) (by omega) (by omega) (by omega) hr hc1
        · rw [em]
          refine out m' r _ _ I1 s1 ?_
          by_cases q : (lnA (GS (I0 uR) (min sz 76)) a v1.toInt).2.1 < min sz 76
          · rw [if_pos q, if_neg g] at hr
            exact Or.inr (Or.inl ⟨rfl, q, by omega, hr⟩)
          · rw [if_neg q] at hr
            exact Or.inr (Or.inr ⟨rfl, by omega, hr⟩)
      · rw [if_neg e] at hr
        refine mc_passD s1 e ?_
        rw [em]
        exact out m' v1 a1 _ I1 s1 (Or.inl ⟨e, hr⟩)
    · have c := (i_eq (x := v1) (y := 24) rfl (show (24 : Int32).toInt = 24 from rfl)).mp c
      rw [if_neg (by omega)] at hr
      refine mc_fault t s rfl (fun I1 s1 => ?_)
      rw [s.2.2.1] at s1
      exact hE I1 a a v1 s1 (Or.inl ⟨by omega, hr⟩)
theorem mc_b83 {B : Nat × Nat} {cc : Nat → Nat → Int} {Z : jZ} {I0 I : jI} {L : jL} {v0 uR : Nat} {sz a F : Int} {v1 : Int32} {Q : Int32 → jZ → jI → jL → Prop} (t : MT Z I0 v0 uR sz) (s : MRc cc (v1.toInt) Z I0 v0 sz I (a) (F)) (hz : 0 < sz) (e : ENm (GS (I0 uR) (min sz 76)) (min sz 76) a F v1.toInt)
    (h1 : ∀ (r : Int32) I' a' F', MRc cc (v1.toInt) Z I0 v0 sz I' (a') (F') → r.toInt = stA (I0 uR) sz → r.toInt < 0 → Q r Z I' L)
    (h2 : ∀ I' a' F', MRc cc (v1.toInt) Z I0 v0 sz I' (a') (F') → v1.toInt = stA (I0 uR) sz → 2 ≤ v1.toInt → ∀ I66, I66 = jpI I' v0 0 v1 → ∃ m131, f_X12_stairs_L131 B Q m131 v0 v1 0 Z I66 L) : f_X12_stairs_b83 B Q v0 v1 Z I L := by
  have hlo := rdS_lo (g := (GS (I0 uR) (min sz 76))) (lim := min sz 76) 77 0 0 (by omega)
  have b102 : ∀ I' a' F', -1 ≤ F' → MRc cc (v1.toInt) Z I0 v0 sz I' (a') (F') → stA (I0 uR) sz = (if F' = -1 then (if 2 ≤ v1.toInt then v1.toInt else -100) else -1 - F') → f_X12_stairs_b102 B Q v0 v1 Z I' L := by
    intro I' a' F' hF s' e'
    unfold f_X12_stairs_b102
    refine mc_fine s' (fun c => ⟨fun _ => ⟨fun c1 => ?_, fun c1 => ?_⟩, fun c => absurd c (by decide)⟩) (fun c => ⟨fun c1 => absurd rfl c1, fun _ => ?_⟩)
    · have c1 := (i_le (x := 2) (y := v1) (show (2 : Int32).toInt = 2 from rfl) rfl).mp c1
      rw [if_pos c, if_pos c1] at e'
      exact h2 I' a' F' s' e'.symm c1
    · have c1 := (not_congr (i_le (x := 2) (y := v1) (show (2 : Int32).toInt = 2 from rfl) rfl)).mp c1
      rw [if_pos c, if_neg c1] at e'
      exact h1 _ I' a' F' s' e'.symm (by decide)
    · rw [if_neg c] at e'
      have rr := i_rng (I' v0 27)
      have sF := s'.2.2.2.1
      have ei : ((-1 : Int32) - (I' v0 27)).toInt = -1 - F' := i_sub (show (-1 : Int32).toInt = -1 from rfl) sF (by omega) (by omega)
      exact h1 _ I' a' F' s' (ei.trans e'.symm) (by omega)
  have hS : stA (I0 uR) sz = (if (rdS (GS (I0 uR) (min sz 76)) (min sz 76) 77 0 0).1 = -1 then (if sz ≤ 76 then (if 2 ≤ (rdS (GS (I0 uR) (min sz 76)) (min sz 76) 77 0 0).2 then (rdS (GS (I0 uR) (min sz 76)) (min sz 76) 77 0 0).2 else -100) else -77) else -1 - (rdS (GS (I0 uR) (min sz 76)) (min sz 76) 77 0 0).1) := by
    unfold stA
    rw [if_neg (by omega)]
  have s4 := s.2.2.2.2.1
  unfold f_X12_stairs_b83
  refine ⟨fun c => ?_, fun c => ?_⟩
  · have c := (i_le s4 s.2.2.1).mp c
    rcases e with ⟨q1, q2⟩ | ⟨q1, q2, q0, q3⟩ | ⟨q1, q2, q3⟩
    · rw [← q2] at hS hlo
      exact b102 I a F hlo s (by rw [hS, if_neg q1, if_neg q1])
    · omega
    · rw [← q3] at hS
      exact b102 I a F (by omega) s (by rw [hS, if_pos rfl, if_pos q1, if_pos (by omega)])
  · have c := (not_congr (i_le s4 s.2.2.1)).mp c
    rcases e with ⟨q1, q2⟩ | ⟨q1, q2, q0, q3⟩ | ⟨q1, q2, q3⟩
    · rw [← q2] at hS hlo
      exact mc_faultD s q1 (b102 I a F hlo s (by rw [hS, if_neg q1, if_neg q1]))
    · rw [← q3] at hS
      refine mc_fault t s q1 (fun I' s' => ?_)
      rw [s.2.2.1] at s'
      refine b102 I' a a (by omega) s' ?_
      have q : ¬ a = -1 := by omega
      rw [hS, if_neg q, if_neg q]
    · rw [← q3] at hS
      refine mc_fault t s q1 (fun I' s' => ?_)
      rw [s.2.2.1] at s'
      refine b102 I' a a (by omega) s' ?_
      rw [hS, if_pos rfl, if_neg (by omega), if_neg (by omega)]
      omega
end
section
/-! ===== STATE of each STEP on both sides: set, wears, whole, mends ===== -/
theorem nz {r : Int32} (c : ¬ r = 0) : ¬ r.toInt = 0 := (not_congr (i_eq rfl (show (0 : Int32).toInt = 0 from rfl))).mp c
theorem yz {r : Int32} (c : r = 0) : r.toInt = 0 := (i_eq rfl (show (0 : Int32).toInt = 0 from rfl)).mp c
/-- set: of n STEPS, with STATES S and ASKS A -/
def SETr (n : Int) (S S' A A' : Nat → Int32) (v1 v2 v3 r : Int32) : Prop :=
  ((0 ≤ v1.toInt ∧ v1.toInt < n) ∧ v2.toInt = 0 ∧ (0 ≤ v3.toInt ∧ v3.toInt ≤ 20) ∧ A' = upd A v1.toNatClampNeg v3 ∧ S' = S ∧ r = A v1.toNatClampNeg) ∨
  ((0 ≤ v1.toInt ∧ v1.toInt < n) ∧ v2.toInt = 1 ∧ (0 ≤ v3.toInt ∧ v3.toInt ≤ 9) ∧ S' = upd S v1.toNatClampNeg v3 ∧ A' = A ∧ r = S v1.toNatClampNeg) ∨
  (r.toInt = -1 ∧ ¬ ((0 ≤ v1.toInt ∧ v1.toInt < n) ∧ v2.toInt = 0 ∧ (0 ≤ v3.toInt ∧ v3.toInt ≤ 20)) ∧ ¬ ((0 ≤ v1.toInt ∧ v1.toInt < n) ∧ v2.toInt = 1 ∧ (0 ≤ v3.toInt ∧ v3.toInt ≤ 9)) ∧ S' = S ∧ A' = A)
theorem s13_X11_set {Z : jZ} {I : jI} {L : jL} (w : WD Z I) (v0 : Nat) (v1 v2 v3 : Int32) (kv0 : jk Z v0 11) (uF : Nat) (huF : jr Z v0 2 = some uF) (uS : Nat) (huS : jr Z uF 1 = some uS) (uA : Nat) (huA : jr Z uF 2 = some uA) {Q : Int32 → jI → jL → Prop} (hQ : ∀ (r : Int32) (I' : jI) (L' : jL), WD Z I' → FR Ws_X11_set Z I Z I' → SETr (I uF 9).toInt (I uS) (I' uS) (I uA) (I' uA) v1 v2 v3 r → Q r I' L') : f_X11_set v0 v1 v2 v3 Z I L Q := by
  obtain ⟨x, ex, kF⟩ := sh_o w.1 kv0 (j := 2) (k := 8) rfl
  cases huF.symm.trans ex
  obtain ⟨x, ex, kS, lS⟩ := sh_f w.1 kF (j := 1) (k := 14) (m := 24) rfl
  cases huS.symm.trans ex
  obtain ⟨x, ex, kA, lA⟩ := sh_f w.1 kF (j := 2) (k := 14) (m := 24) rfl
  cases huA.symm.trans ex
  have nSA : uS ≠ uA := ds_ne w.2.1 kF huS huA rfl rfl (by decide)
  have z0 : (0 : Int32).toInt = 0 := rfl
  have z1 : (1 : Int32).toInt = 1 := rfl
  have z9 : (9 : Int32).toInt = 9 := rfl
  have z20 : (20 : Int32).toInt = 20 := rfl
  have bad : ¬ ((0 ≤ v1.toInt ∧ v1.toInt < (I uF 9).toInt) ∧ v2.toInt = 0 ∧ (0 ≤ v3.toInt ∧ v3.toInt ≤ 20)) → ¬ ((0 ≤ v1.toInt ∧ v1.toInt < (I uF 9).toInt) ∧ v2.toInt = 1 ∧ (0 ≤ v3.toInt ∧ v3.toInt ≤ 9)) → Q (-1 : Int32) I L := fun h h' => hQ _ I L w FR.rf (Or.inr (Or.inr ⟨rfl, h, h', rfl, rfl⟩))
  unfold f_X11_set
  intro b11 e11
  cases huF.symm.trans e11
  refine s_X8_has w uF v1 kF (fun r p => ⟨fun c => ?_, fun c => ?_⟩)
  · have c := yz c
    exact bad (by omega) (by omega)
  have c := nz c
  have n1 := i_nat (x := v1) rfl (by omega)
  refine ⟨fun c3 => ?_, fun c3 => ?_⟩
  rotate_left
  · have c3 := (not_congr (i_le (x := 0) (y := v3) z0 rfl)).mp c3
    exact bad (by omega) (by omega)
  have c3 := (i_le (x := 0) (y := v3) z0 rfl).mp c3
  have b54 : ¬ (v2.toInt = 0 ∧ v3.toInt ≤ 20) → f_X11_set_b54 Z Q v0 v1 v2 v3 (-1 : Int32) I L := fun hn => by
    unfold f_X11_set_b54
    refine ⟨fun c2 => ?_, fun c2 => ⟨fun c4 => ?_, fun c4 => ?_⟩⟩
    · have c2 := (not_congr (i_eq (x := v2) (y := 1) rfl z1)).mp c2
      exact bad (by omega) (by omega)
    · have c4 := (i_lt (x := 9) (y := v3) z9 rfl).mp c4
      exact bad (by omega) (by omega)
    · have c2 := (i_eq (x := v2) (y := 1) rfl z1).mp c2
      have c4 := (not_congr (i_lt (x := 9) (y := v3) z9 rfl)).mp c4
      intro b3 e3
      cases huF.symm.trans e3
      intro b4 e4
      cases huS.symm.trans e4
      refine ⟨vi_of rfl (by omega) (by omega), ?_⟩
      intro x6 e6 b7 e7
      cases huF.symm.trans e7
      intro b8 e8
      cases huS.symm.trans e8
      refine ⟨vi_of rfl (by omega) (by omega), ?_⟩
      intro I10 e10
      refine hQ x6 I10 L ?_ ?_ (Or.inr (Or.inl ⟨by omega, by omega, by omega, ?_, ?_, e6⟩))
      · rw [e10]; exact WD_putA w 8 1 kF huS kS rfl rfl (by decide) trivial
      · rw [e10]; exact FR_upA w.2.1 kF huS kS rfl rfl (by decide)
      · rw [e10]; exact va_up_self _ _ _
      · rw [e10]; exact jpI_ne (fun e => nSA e.symm)
  refine ⟨fun c2 => ?_, fun c2 => ⟨fun c4 => ?_, fun c4 => ?_⟩⟩
  · have c2 := (not_congr (i_eq (x := v2) (y := 0) rfl z0)).mp c2
    exact b54 (by omega)
  · have c4 := (i_lt (x := 20) (y := v3) z20 rfl).mp c4
    exact b54 (by omega)
  · have c2 := (i_eq (x := v2) (y := 0) rfl z0).mp c2
    have c4 := (not_congr (i_lt (x := 20) (y := v3) z20 rfl)).mp c4
    intro b3 e3
    cases huF.symm.trans e3
    intro b4 e4
    cases huA.symm.trans e4
    refine ⟨vi_of rfl (by omega) (by omega), ?_⟩
    intro x6 e6 b7 e7
    cases huF.symm.trans e7
    intro b8 e8
    cases huA.symm.trans e8
    refine ⟨vi_of rfl (by omega) (by omega), ?_⟩
    intro I10 e10
    refine hQ x6 I10 L ?_ ?_ (Or.inl ⟨by omega, by omega, by omega, ?_, ?_, e6⟩)
    · rw [e10]; exact WD_putA w 8 2 kF huA kA rfl rfl (by decide) ⟨by omega, by omega⟩
    · rw [e10]; exact FR_upA w.2.1 kF huA kA rfl rfl (by decide)
    · rw [e10]; exact va_up_self _ _ _
    · rw [e10]; exact jpI_ne nSA
theorem s13_X12_set {Z : jZ} {I : jI} {L : jL} (w : WD Z I) (v0 : Nat) (v1 v2 v3 : Int32) (kv0 : jk Z v0 12) (uS : Nat) (huS : jr Z v0 2 = some uS) (uA : Nat) (huA : jr Z v0 3 = some uA) {Q : Int32 → jI → jL → Prop} (hQ : ∀ (r : Int32) (I' : jI) (L' : jL), WD Z I' → FR Ws_X12_set Z I Z I' → SETr (I v0 0).toInt (I uS) (I' uS) (I uA) (I' uA) v1 v2 v3 r → Q r I' L') : f_X12_set v0 v1 v2 v3 Z I L Q := by
  obtain ⟨x, ex, kS, lS⟩ := sh_f w.1 kv0 (j := 2) (k := 14) (m := 24) rfl
  cases huS.symm.trans ex
  obtain ⟨x, ex, kA, lA⟩ := sh_f w.1 kv0 (j := 3) (k := 14) (m := 24) rfl
  cases huA.symm.trans ex
  have nSA : uS ≠ uA := ds_ne w.2.1 kv0 huS huA rfl rfl (by decide)
  have nS : uS ≠ v0 := ks_ne kS kv0 (by decide)
  have nA : uA ≠ v0 := ks_ne kA kv0 (by decide)
  have z0 : (0 : Int32).toInt = 0 := rfl
  have z1 : (1 : Int32).toInt = 1 := rfl
  have z9 : (9 : Int32).toInt = 9 := rfl
  have z20 : (20 : Int32).toInt = 20 := rfl
  have t0 : 0 ≤ (I v0 0).toInt ∧ (I v0 0).toInt ≤ 24 := w.fld 12 0 kv0 (by decide)
  unfold f_X12_set
  intro I1 e1
  have w1 : WD Z I1 := by rw [e1]; exact WD_putF w 12 22 kv0 (by decide) (by decide) trivial
  have f1 : FR Ws_X12_set Z I Z I1 := by rw [e1]; exact FR_putF kv0 (by decide) (by decide)
  have oS : I1 uS = I uS := by rw [e1]; exact jpI_ne nS
  have oA : I1 uA = I uA := by rw [e1]; exact jpI_ne nA
  have s0 : I1 v0 0 = I v0 0 := by rw [e1]; exact jpI_o (by decide)
  have bad : ¬ ((0 ≤ v1.toInt ∧ v1.toInt < (I v0 0).toInt) ∧ v2.toInt = 0 ∧ (0 ≤ v3.toInt ∧ v3.toInt ≤ 20)) → ¬ ((0 ≤ v1.toInt ∧ v1.toInt < (I v0 0).toInt) ∧ v2.toInt = 1 ∧ (0 ≤ v3.toInt ∧ v3.toInt ≤ 9)) → Q (-1 : Int32) I1 L := fun h h' => hQ _ I1 L w1 f1 (Or.inr (Or.inr ⟨rfl, h, h', oS, oA⟩))
  refine s_X12_isStep w1 v0 v1 kv0 (fun r p => ⟨fun c => ?_, fun c => ?_⟩)
  · rw [s0] at p
    have c := yz c
    exact bad (by omega) (by omega)
  rw [s0] at p
  have c := nz c
  have n1 := i_nat (x := v1) rfl (by omega)
  refine s_X12_in w1 _ _ _ (fun r2 p2 => ⟨fun c2 => ?_, fun c2 => ?_⟩)
  · have c2 := yz c2
    exact bad (by omega) (by omega)
  have c2 := nz c2
  have fin : ∀ s2 : Int32, s2.toInt = (if v2.toInt = 0 then 20 else 9) → f_X12_set_b35 Z Q v0 v1 v2 v3 v3 (0 : Int32) s2 I1 L := fun s2 hs2 => by
    unfold f_X12_set_b35
    refine s_X12_in w1 _ _ _ (fun r3 p3 => ⟨fun c3 => ?_, fun c3 => ?_⟩)
    rotate_left
    · have c3 := yz c3
      refine bad (fun h => ?_) (fun h => ?_)
      · rw [if_pos h.2.1] at hs2; omega
      · rw [if_neg (by omega)] at hs2; omega
    have c3 := nz c3
    unfold f_X12_set_b62
    refine ⟨fun c4 => ?_, fun c4 => ?_⟩
    · have c4 := nz c4
      rw [if_neg c4] at hs2
      intro b17 e17
      cases huS.symm.trans e17
      refine ⟨vi_of rfl (by omega) (by omega), fun _ => ?_, fun c5 => absurd (yz c5) c4⟩
      intro b2 e2
      cases huS.symm.trans e2
      refine ⟨vi_of rfl (by omega) (by omega), ?_⟩
      intro I4 e4
      refine hQ _ I4 L ?_ ?_ (Or.inr (Or.inl ⟨by omega, by omega, by omega, ?_, ?_, by rw [oS]⟩))
      · rw [e4]; exact WD_putA w1 12 2 kv0 huS kS rfl rfl (by decide) ⟨by omega, by omega⟩
      · refine f1.trans w.1 w.2.1 ?_
        rw [e4]; exact FR_upA w1.2.1 kv0 huS kS rfl rfl (by decide)
      · rw [e4, ← oS]; exact va_up_self _ _ _
      · rw [e4, jpI_ne (fun e => nSA e.symm)]; exact oA
    · have c4 := yz c4
      rw [if_pos c4] at hs2
      intro b17 e17
      cases huA.symm.trans e17
      refine ⟨vi_of rfl (by omega) (by omega), fun c5 => absurd c4 (nz c5), fun _ => ?_⟩
      intro b2 e2
      cases huA.symm.trans e2
      refine ⟨vi_of rfl (by omega) (by omega), ?_⟩
      intro I4 e4
      refine hQ _ I4 L ?_ ?_ (Or.inl ⟨by omega, by omega, by omega, ?_, ?_, by rw [oA]⟩)
      · rw [e4]; exact WD_putA w1 12 3 kv0 huA kA rfl rfl (by decide) ⟨by omega, by omega⟩
      · refine f1.trans w.1 w.2.1 ?_
        rw [e4]; exact FR_upA w1.2.1 kv0 huA kA rfl rfl (by decide)
      · rw [e4, ← oA]; exact va_up_self _ _ _
      · rw [e4, jpI_ne nSA]; exact oS
  refine ⟨fun c3 => fin 9 ?_, fun c3 => fin 20 ?_⟩
  · rw [if_neg (nz c3)]; rfl
  · rw [if_pos (yz c3)]; rfl
/-- rows that are the same for the STEPS there are -/
def ARr (n : Int) (S T : Nat → Int32) : Prop := ∀ s : Nat, (s : Int) < n → S s = T s
theorem ARr_upd {n : Int} {S T : Nat → Int32} {i : Nat} {v : Int32} (h : ARr n S T) : ARr n (upd S i v) (upd T i v) := fun s hs => by
  by_cases c : s = i
  · subst c
    exact (if_pos rfl : upd S s v s = v).trans (if_pos rfl : upd T s v s = v).symm
  · exact (if_neg c : upd S i v s = S s).trans ((h s hs).trans (if_neg c : upd T i v s = T s).symm)
theorem SETr_eq {n m : Int} {S S' A A' T T' C C' : Nat → Int32} {v1 v2 v3 r q : Int32} (e : n = m) (h : SETr n S S' A A' v1 v2 v3 r) (g : SETr m T T' C C' v1 v2 v3 q) (hs : ARr n S T) : ARr n S' T' := by
  subst e
  unfold SETr at h g
  rcases h with h | h | h
  · rcases g with g | g | g
    · rw [h.2.2.2.2.1, g.2.2.2.2.1]; exact hs
    · omega
    · exact absurd ⟨h.1, h.2.1, h.2.2.1⟩ g.2.1
  · rcases g with g | g | g
    · omega
    · rw [h.2.2.2.1, g.2.2.2.1]; exact ARr_upd hs
    · exact absurd ⟨h.1, h.2.1, h.2.2.1⟩ g.2.2.1
  · rcases g with g | g | g
    · exact absurd ⟨g.1, g.2.1, g.2.2.1⟩ h.2.1
    · exact absurd ⟨g.1, g.2.1, g.2.2.1⟩ h.2.2.1
    · rw [h.2.2.2.1, g.2.2.2.1]; exact hs
/-- wears -/
def weG (S : Nat → Int32) (v : Int) (i : Nat) : Int := max 0 ((S i).toInt - v)
def WEr (n : Int) (S S' : Nat → Int32) (v1 r : Int32) : Prop := (r.toInt = -1 ∧ ¬ (0 ≤ v1.toInt ∧ v1.toInt ≤ 9) ∧ S' = S) ∨ ((0 ≤ v1.toInt ∧ v1.toInt ≤ 9) ∧ r.toInt = shS (weG S v1.toInt) n.toNat ∧ ∀ s : Nat, (s : Int) < n → (S' s).toInt = weG S v1.toInt s)
theorem shS_cg {g h : Nat → Int} : ∀ n : Nat, (∀ i, i < n → g i = h i) → shS g n = shS h n := by
  intro n
  induction n with
  | zero => intro _; rfl
  | succ n ih =>
    intro e
    show shS g n + g n = shS h n + h n
    rw [ih (fun i hi => e i (by omega)), e n (by omega)]
theorem WEr_eq {n m : Int} {S S' T T' : Nat → Int32} {v r q : Int32} (e : n = m) (h0 : 0 ≤ n) (h : WEr n S S' v r) (g : WEr m T T' v q) (hs : ARr n S T) : r.toInt = q.toInt ∧ ARr n S' T' := by
  subst e
  rcases h with ⟨h1, h2, h3⟩ | ⟨h1, h2, h3⟩
  · rcases g with ⟨g1, g2, g3⟩ | ⟨g1, g2, g3⟩
    · exact ⟨h1.trans g1.symm, by rw [h3, g3]; exact hs⟩
    · exact absurd g1 h2
  · rcases g with ⟨g1, g2, g3⟩ | ⟨g1, g2, g3⟩
    · exact absurd h1 g2
    · refine ⟨?_, fun s hq => (i_eq rfl rfl).mpr ?_⟩
      · rw [h2, g2]
        exact shS_cg _ (fun i hi => by unfold weG; rw [hs i (by omega)])
      · rw [h3 s hq, g3 s hq]
        unfold weG
        rw [hs s hq]
theorem i_wear {x v : Int32} (hx : 0 ≤ x.toInt ∧ x.toInt ≤ 9) (hv : 0 ≤ v.toInt ∧ v.toInt ≤ 9) : (if (0 : Int32) < (x - v) then (x - v) else (0 : Int32)).toInt = max 0 (x.toInt - v.toInt) := by
  have e : (x - v).toInt = x.toInt - v.toInt := i_sub rfl rfl (by omega) (by omega)
  exact i_max (show (0 : Int32).toInt = 0 from rfl) e
theorem we_L16 {Z : jZ} {J : jI} (wJ : WD Z J) (v0 : Nat) (v1 : Int32) (kv0 : jk Z v0 11) (uF : Nat) (huF : jr Z v0 2 = some uF) (kF : jk Z uF 8) (uS : Nat) (huS : jr Z uF 1 = some uS) (kS : jk Z uS 14) (n : Nat) (en : (J uF 9).toInt = (n : Int)) (hn : n ≤ 24) (hv : 0 ≤ v1.toInt ∧ v1.toInt ≤ 9) (hb : ∀ s : Nat, s < n → 0 ≤ (J uS s).toInt ∧ (J uS s).toInt ≤ 9) {Q : Int32 → jI → jL → Prop}
    (hQ : ∀ (r : Int32) (I : jI) (L : jL), WD Z I → FR [(8, 1)] Z J Z I → r.toInt = shS (weG (J uS) v1.toInt) n → (∀ s : Nat, s < n → (I uS s).toInt = weG (J uS) v1.toInt s) → Q r I L) :
    ∀ (m i : Nat) (v2 v3 : Int32) (I : jI) (L : jL), WD Z I → FR [(8, 1)] Z J Z I → v3.toInt = (i : Int) → i ≤ n → v2.toInt = shS (weG (J uS) v1.toInt) i → (∀ s : Nat, s < i → (I uS s).toInt = weG (J uS) v1.toInt s) → (∀ s : Nat, i ≤ s → I uS s = J uS s) → n + 1 ≤ m + i → f_X11_wears_L16 Z Q m v0 v1 v2 v3 I L := by
  have hg : ∀ i, i < n → 0 ≤ weG (J uS) v1.toInt i ∧ weG (J uS) v1.toInt i ≤ 9 := fun i hi => by
    have := hb i hi
    unfold weG
    omega
  have hS : ∀ i : Nat, i ≤ n → 0 ≤ shS (weG (J uS) v1.toInt) i ∧ shS (weG (J uS) v1.toInt) i ≤ 9 * (i : Int) := by
    intro i
    induction i with
    | zero => intro _; exact ⟨by show (0 : Int) ≤ 0; omega, by show (0 : Int) ≤ 9 * 0; omega⟩
    | succ i ih =>
      intro hi
      have h1 := ih (by omega)
      have h2 := hg i (by omega)
      show 0 ≤ shS (weG (J uS) v1.toInt) i + weG (J uS) v1.toInt i ∧ shS (weG (J uS) v1.toInt) i + weG (J uS) v1.toInt i ≤ 9 * ((i + 1 : Nat) : Int)
      omega
  have z1 : (1 : Int32).toInt = 1 := rfl
  intro m
  induction m with
  | zero => intro i v2 v3 I L w f e1 e2 e3 e4 e5 e6; exfalso; omega
  | succ m ih =>
    intro i v2 v3 I L w f e1 e2 e3 e4 e5 e6
    have s9 : (I uF 9).toInt = (n : Int) := by rw [f.2.2.1 uF 8 9 kF (by decide) (by decide)]; exact en
    unfold f_X11_wears_L16
    intro b1 h1
    cases huF.symm.trans h1
    refine ⟨fun c => ?_, fun c => ?_⟩
    · have c := (i_le s9 e1).mp c
      have ei : i = n := by omega
      subst ei
      exact hQ v2 I L w f e3 e4
    have c := (not_congr (i_le s9 e1)).mp c
    have n3 := i_nat e1 (by omega)
    have n3 : v3.toNatClampNeg = i := by omega
    intro b3 h3
    cases huF.symm.trans h3
    intro b4 h4
    cases huS.symm.trans h4
    intro b5 h5
    cases huF.symm.trans h5
    intro b6 h6
    cases huS.symm.trans h6
    refine ⟨vi_of e1 (by omega) (by omega), vi_of e1 (by omega) (by omega), ?_⟩
    intro I9 e9
    rw [n3] at e9
    have w9 : WD Z I9 := by rw [e9]; exact WD_putA w 8 1 kF huS kS rfl rfl (by decide) trivial
    have f9 : FR [(8, 1)] Z J Z I9 := f.trans wJ.1 wJ.2.1 (by rw [e9]; exact FR_upA w.2.1 kF huS kS rfl rfl List.mem_cons_self)
    have g9 : (I9 uS i).toInt = weG (J uS) v1.toInt i := by
      rw [e9, jpI_at, e5 i (by omega)]
      exact i_wear (hb i (by omega)) hv
    intro b10 h10
    cases huF.symm.trans h10
    intro b11 h11
    cases huS.symm.trans h11
    refine ⟨vi_of e1 (by omega) (by omega), ?_⟩
    intro x13 e13 x14 e14
    rw [n3] at e13
    have hi1 := hS i (by omega)
    have hi2 := hg i (by omega)
    have t13 : x13.toInt = shS (weG (J uS) v1.toInt) (i + 1) := by
      rw [e13]
      show _ = shS (weG (J uS) v1.toInt) i + weG (J uS) v1.toInt i
      exact i_add e3 g9 (by omega) (by omega)
    have t14 : x14.toInt = ((i + 1 : Nat) : Int) := by
      rw [e14]
      exact (i_add e1 z1 (by omega) (by omega)).trans (by omega)
    refine ih (i + 1) x13 x14 I9 L w9 f9 t14 (by omega) t13 (fun s hs => ?_) (fun s hs => ?_) (by omega)
    · by_cases q : s = i
      · rw [q]; exact g9
      · rw [e9, jpI_off q]; exact e4 s (by omega)
    · rw [e9, jpI_off (by omega)]; exact e5 s (by omega)
theorem s13_X11_wears {Z : jZ} {I : jI} {L : jL} (w : WD Z I) (v0 : Nat) (v1 : Int32) (kv0 : jk Z v0 11) (uF : Nat) (huF : jr Z v0 2 = some uF) (uS : Nat) (huS : jr Z uF 1 = some uS) (hb : ∀ s : Nat, (s : Int) < (I uF 9).toInt → 0 ≤ (I uS s).toInt ∧ (I uS s).toInt ≤ 9) {Q : Int32 → jI → jL → Prop} (hQ : ∀ (r : Int32) (I' : jI) (L' : jL), WD Z I' → FR Ws_X11_wears Z I Z I' → WEr (I uF 9).toInt (I uS) (I' uS) v1 r → Q r I' L') : f_X11_wears v0 v1 Z I L Q := by
  obtain ⟨x, ex, kF⟩ := sh_o w.1 kv0 (j := 2) (k := 8) rfl
  cases huF.symm.trans ex
  obtain ⟨x, ex, kS, lS⟩ := sh_f w.1 kF (j := 1) (k := 14) (m := 24) rfl
  cases huS.symm.trans ex
  have z0 : (0 : Int32).toInt = 0 := rfl
  have z9 : (9 : Int32).toInt = 9 := rfl
  have t9 : 0 ≤ (I uF 9).toInt ∧ (I uF 9).toInt ≤ 24 := w.fld 8 9 kF (by decide)
  have bad : ¬ (0 ≤ v1.toInt ∧ v1.toInt ≤ 9) → Q (-1 : Int32) I L := fun h => hQ _ I L w FR.rf (Or.inl ⟨rfl, h, rfl⟩)
  unfold f_X11_wears
  refine ⟨fun c => bad (by have c := (i_lt (x := v1) (y := 0) rfl z0).mp c; omega), fun c => ⟨fun c2 => ?_, fun c2 => bad (by have c2 := (not_congr (i_le (x := v1) (y := 9) rfl z9)).mp c2; omega)⟩⟩
  have c := (not_congr (i_lt (x := v1) (y := 0) rfl z0)).mp c
  have c2 := (i_le (x := v1) (y := 9) rfl z9).mp c2
  obtain ⟨n, en⟩ : ∃ n : Nat, (I uF 9).toInt = (n : Int) := ⟨(I uF 9).toInt.toNat, by omega⟩
  refine ⟨n + 1, we_L16 w v0 v1 kv0 uF huF kF uS huS kS n en (by omega) ⟨by omega, by omega⟩ (fun s hs => hb s (by omega)) (fun r I' L' w' f' h1 h2 => ?_) (n + 1) 0 0 0 I L w FR.rf rfl (by omega) rfl (fun s hs => absurd hs (by omega)) (fun _ _ => rfl) (by omega)⟩
  refine hQ r I' L' w' (f'.mono (by decide)) (Or.inr ⟨⟨by omega, by omega⟩, ?_, fun s hs => h2 s (by omega)⟩)
  rw [h1, en]
  rfl
theorem we_L21 {Z : jZ} {J : jI} (wJ : WD Z J) (v0 : Nat) (v1 : Int32) (kv0 : jk Z v0 12) (uS : Nat) (huS : jr Z v0 2 = some uS) (kS : jk Z uS 14) (n : Nat) (en : (J v0 0).toInt = (n : Int)) (hn : n ≤ 24) (hv : 0 ≤ v1.toInt ∧ v1.toInt ≤ 9) (hb : ∀ s : Nat, s < n → 0 ≤ (J uS s).toInt ∧ (J uS s).toInt ≤ 9) {Q : Int32 → jI → jL → Prop}
    (hQ : ∀ (r : Int32) (I : jI) (L : jL), WD Z I → FR [(12, 2)] Z J Z I → r.toInt = shS (weG (J uS) v1.toInt) n → (∀ s : Nat, s < n → (I uS s).toInt = weG (J uS) v1.toInt s) → Q r I L) :
    ∀ (m i : Nat) (v2 v3 : Int32) (I : jI) (L : jL), WD Z I → FR [(12, 2)] Z J Z I → v3.toInt = (i : Int) → i ≤ n → v2.toInt = shS (weG (J uS) v1.toInt) i → (∀ s : Nat, s < i → (I uS s).toInt = weG (J uS) v1.toInt s) → (∀ s : Nat, i ≤ s → I uS s = J uS s) → n + 1 ≤ m + i → f_X12_wears_L21 Z Q m v0 v1 v2 v3 I L := by
  have hg : ∀ i, i < n → 0 ≤ weG (J uS) v1.toInt i ∧ weG (J uS) v1.toInt i ≤ 9 := fun i hi => by
    have := hb i hi
    unfold weG
    omega
  have hS : ∀ i : Nat, i ≤ n → 0 ≤ shS (weG (J uS) v1.toInt) i ∧ shS (weG (J uS) v1.toInt) i ≤ 9 * (i : Int) := by
    intro i
    induction i with
    | zero => intro _; exact ⟨by show (0 : Int) ≤ 0; omega, by show (0 : Int) ≤ 9 * 0; omega⟩
    | succ i ih =>
      intro hi
      have h1 := ih (by omega)
      have h2 := hg i (by omega)
      show 0 ≤ shS (weG (J uS) v1.toInt) i + weG (J uS) v1.toInt i ∧ shS (weG (J uS) v1.toInt) i + weG (J uS) v1.toInt i ≤ 9 * ((i + 1 : Nat) : Int)
      omega
  have z1 : (1 : Int32).toInt = 1 := rfl
  intro m
  induction m with
  | zero => intro i v2 v3 I L w f e1 e2 e3 e4 e5 e6; exfalso; omega
  | succ m ih =>
    intro i v2 v3 I L w f e1 e2 e3 e4 e5 e6
    have s9 : (I v0 0).toInt = (n : Int) := by rw [f.2.2.1 v0 12 0 kv0 (by decide) (by decide)]; exact en
    unfold f_X12_wears_L21
    refine ⟨fun c => ?_, fun c => ?_⟩
    · have c := (i_le s9 e1).mp c
      have ei : i = n := by omega
      subst ei
      exact hQ v2 I L w f e3 e4
    have c := (not_congr (i_le s9 e1)).mp c
    have n3 := i_nat e1 (by omega)
    have n3 : v3.toNatClampNeg = i := by omega
    intro b2 h2
    cases huS.symm.trans h2
    intro b3 h3
    cases huS.symm.trans h3
    refine ⟨vi_of e1 (by omega) (by omega), vi_of e1 (by omega) (by omega), ?_⟩
    intro I9 e9
    rw [n3] at e9
    have hi2 := hg i (by omega)
    have g8 : (if (0 : Int32) < ((I uS i) - v1) then ((I uS i) - v1) else (0 : Int32)).toInt = weG (J uS) v1.toInt i := by
      rw [e5 i (by omega)]
      exact i_wear (hb i (by omega)) hv
    have w9 : WD Z I9 := by rw [e9]; exact WD_putA w 12 2 kv0 huS kS rfl rfl (by decide) (show rg 0 9 _ from ⟨by rw [g8]; omega, by rw [g8]; omega⟩)
    have f9 : FR [(12, 2)] Z J Z I9 := f.trans wJ.1 wJ.2.1 (by rw [e9]; exact FR_upA w.2.1 kv0 huS kS rfl rfl List.mem_cons_self)
    have g9 : (I9 uS i).toInt = weG (J uS) v1.toInt i := by rw [e9, jpI_at]; exact g8
    intro b7 h7
    cases huS.symm.trans h7
    refine ⟨vi_of e1 (by omega) (by omega), ?_⟩
    intro x13 e13 x14 e14
    rw [n3] at e13
    have hi1 := hS i (by omega)
    have t13 : x13.toInt = shS (weG (J uS) v1.toInt) (i + 1) := by
      rw [e13]
      show _ = shS (weG (J uS) v1.toInt) i + weG (J uS) v1.toInt i
      exact i_add e3 g9 (by omega) (by omega)
    have t14 : x14.toInt = ((i + 1 : Nat) : Int) := by
      rw [e14]
      exact (i_add e1 z1 (by omega) (by omega)).trans (by omega)
    refine ih (i + 1) x13 x14 I9 L w9 f9 t14 (by omega) t13 (fun s hs => ?_) (fun s hs => ?_) (by omega)
    · by_cases q : s = i
      · rw [q]; exact g9
      · rw [e9, jpI_off q]; exact e4 s (by omega)
    · rw [e9, jpI_off (by omega)]; exact e5 s (by omega)
theorem s13_X12_wears {Z : jZ} {I : jI} {L : jL} (w : WD Z I) (v0 : Nat) (v1 : Int32) (kv0 : jk Z v0 12) (uS : Nat) (huS : jr Z v0 2 = some uS) {Q : Int32 → jI → jL → Prop} (hQ : ∀ (r : Int32) (I' : jI) (L' : jL), WD Z I' → FR Ws_X12_wears Z I Z I' → WEr (I v0 0).toInt (I uS) (I' uS) v1 r → Q r I' L') : f_X12_wears v0 v1 Z I L Q := by
  obtain ⟨x, ex, kS, lS⟩ := sh_f w.1 kv0 (j := 2) (k := 14) (m := 24) rfl
  cases huS.symm.trans ex
  have nS : uS ≠ v0 := ks_ne kS kv0 (by decide)
  have z0 : (0 : Int32).toInt = 0 := rfl
  have z9 : (9 : Int32).toInt = 9 := rfl
  have t9 : 0 ≤ (I v0 0).toInt ∧ (I v0 0).toInt ≤ 24 := w.fld 12 0 kv0 (by decide)
  unfold f_X12_wears
  intro I1 e1
  have w1 : WD Z I1 := by rw [e1]; exact WD_putF w 12 22 kv0 (by decide) (by decide) trivial
  have f1 : FR Ws_X12_wears Z I Z I1 := by rw [e1]; exact FR_putF kv0 (by decide) (by decide)
  have oS : I1 uS = I uS := by rw [e1]; exact jpI_ne nS
  have s0 : I1 v0 0 = I v0 0 := by rw [e1]; exact jpI_o (by decide)
  refine s_X12_in w1 _ _ _ (fun r p => ⟨fun c => ?_, fun c => ?_⟩)
  rotate_left
  · have c := yz c
    exact hQ _ I1 L w1 f1 (Or.inl ⟨rfl, by omega, oS⟩)
  have c := nz c
  obtain ⟨n, en⟩ : ∃ n : Nat, (I v0 0).toInt = (n : Int) := ⟨(I v0 0).toInt.toNat, by omega⟩
  have hb : ∀ s : Nat, s < n → 0 ≤ (I1 uS s).toInt ∧ (I1 uS s).toInt ≤ 9 := fun s _ => w1.arr 12 2 kv0 huS kS rfl rfl s
  refine ⟨n + 1, we_L21 w1 v0 v1 kv0 uS huS kS n (by rw [s0]; exact en) (by omega) ⟨by omega, by omega⟩ hb (fun r I' L' w' f' h1 h2 => ?_) (n + 1) 0 0 0 I1 L w1 FR.rf rfl (by omega) rfl (fun s hs => absurd hs (by omega)) (fun _ _ => rfl) (by omega)⟩
  rw [oS] at h1 h2
  refine hQ r I' L' w' (f1.trans w.1 w.2.1 (f'.mono (by decide))) (Or.inr ⟨⟨by omega, by omega⟩, ?_, fun s hs => h2 s (by omega)⟩)
  rw [h1, en]
  rfl
/-- whole leaves STATES as they were -/
theorem s13_X11_whole {B : Nat × Nat} {T : Nat} {Z : jZ} {I : jI} {L : jL} (w : WD Z I) (bd : BUD B Z T) (v0 : Nat) (v1 : Int32) (kv0 : jk Z v0 11) (uF : Nat) (huF : jr Z v0 2 = some uF) (uS : Nat) (huS : jr Z uF 1 = some uS) {Q : Int32 → jZ → jI → jL → Prop} (hQ : ∀ (r : Int32) (Z' : jZ) (I' : jI) (L' : jL), WD Z' I' → BUD B Z' T → FR Ws_X11_whole Z I Z' I' → CP Z Z' → I' uS = I uS → Q r Z' I' L') : f_X11_whole B v0 v1 Z I L Q := by
  obtain ⟨x, ex, kF⟩ := sh_o w.1 kv0 (j := 2) (k := 8) rfl
  cases huF.symm.trans ex
  obtain ⟨x, ex, kS, lS⟩ := sh_f w.1 kF (j := 1) (k := 14) (m := 24) rfl
  cases huS.symm.trans ex
  unfold f_X11_whole
  intro b1 e1
  cases huF.symm.trans e1
  refine s_X8_has w uF v1 kF (fun r p => ⟨fun c => ?_, fun c => hQ _ Z I L w bd FR.rf CP.rf rfl⟩)
  have c := nz c
  have n1 := i_nat (x := v1) rfl (by omega)
  intro b10 e10
  obtain ⟨x, ex, k10, l10⟩ := sh_f w.1 kv0 (j := 11) (k := 14) (m := 3) rfl
  cases e10.symm.trans ex
  refine s_X11_sumUp w bd v0 (-1 : Int32) b10 kv0 k10 v0 11 11 kv0 e10 (by decide) rfl l10 (fun _ _ => trivial) (fun Z2 I2 L2 w2 bd2 f2 c2 => ?_)
  have q2 : FR Ws_X11_whole Z I Z2 I2 := f2.mono (by decide)
  have k2 : jk Z2 v0 11 := (f2.1 _ _ kv0).1
  have kF2 : jk Z2 uF 8 := (f2.1 _ _ kF).1
  have kS2 : jk Z2 uS 14 := (f2.1 _ _ kS).1
  have hF2 : jr Z2 v0 2 = some uF := (f2.2.1 v0 11 2 kv0 (by decide) (by decide)).trans huF
  have hS2 : jr Z2 uF 1 = some uS := (f2.2.1 uF 8 1 kF (by decide) (by decide)).trans huS
  have o2 : I2 uS = I uS := f2.2.2.2 uF 8 1 uS kF huS (by rw [kS.2]; rfl) rfl (by decide)
  intro b18 e18
  cases hF2.symm.trans e18
  intro b19 e19
  cases hS2.symm.trans e19
  refine ⟨vi_of rfl (by omega) (by omega), ?_⟩
  intro x21 e21 b22 e22
  cases hF2.symm.trans e22
  intro b23 e23
  cases hS2.symm.trans e23
  refine ⟨vi_of rfl (by omega) (by omega), ?_⟩
  intro I25 e25
  have w25 : WD Z2 I25 := by rw [e25]; exact WD_putA w2 8 1 kF2 hS2 kS2 rfl rfl (by decide) trivial
  have q25 : FR Ws_X11_whole Z I Z2 I25 := q2.trans w.1 w.2.1 (by rw [e25]; exact FR_upA w2.2.1 kF2 hS2 kS2 rfl rfl (by decide))
  have o25 : ∀ i, i ≠ v1.toNatClampNeg → I25 uS i = I uS i := fun i hi => by rw [e25, jpI_off hi, o2]
  intro b26 e26
  obtain ⟨x, ex, k26, l26⟩ := sh_f w25.1 k2 (j := 12) (k := 14) (m := 3) rfl
  cases e26.symm.trans ex
  refine s_X11_sumUp w25 bd2 v0 (-1 : Int32) b26 k2 k26 v0 11 12 k2 e26 (by decide) rfl l26 (fun _ _ => trivial) (fun Z3 I3 L3 w3 bd3 f3 c3 => ?_)
  have q3 : FR Ws_X11_whole Z I Z3 I3 := q25.trans w.1 w.2.1 (f3.mono (by decide))
  have k3 : jk Z3 v0 11 := (f3.1 _ _ k2).1
  have kF3 : jk Z3 uF 8 := (f3.1 _ _ kF2).1
  have kS3 : jk Z3 uS 14 := (f3.1 _ _ kS2).1
  have hF3 : jr Z3 v0 2 = some uF := (f3.2.1 v0 11 2 k2 (by decide) (by decide)).trans hF2
  have hS3 : jr Z3 uF 1 = some uS := (f3.2.1 uF 8 1 kF2 (by decide) (by decide)).trans hS2
  have o3 : I3 uS = I25 uS := f3.2.2.2 uF 8 1 uS kF2 hS2 (by rw [kS2.2]; rfl) rfl (by decide)
  intro b34 e34
  cases hF3.symm.trans e34
  intro b35 e35
  cases hS3.symm.trans e35
  refine ⟨vi_of rfl (by omega) (by omega), ?_⟩
  intro I37 e37
  have w37 : WD Z3 I37 := by rw [e37]; exact WD_putA w3 8 1 kF3 hS3 kS3 rfl rfl (by decide) trivial
  have q37 : FR Ws_X11_whole Z I Z3 I37 := q3.trans w.1 w.2.1 (by rw [e37]; exact FR_upA w3.2.1 kF3 hS3 kS3 rfl rfl (by decide))
  have o37 : I37 uS = I uS := funext fun i => by
    by_cases q : i = v1.toNatClampNeg
    · rw [e37, q, jpI_at, e21, o2]
    · rw [e37, jpI_off q, o3]; exact o25 i q
  refine s_X11_tellDifferences w37 v0 k3 (fun r I40 L40 w40 f40 => ?_)
  refine hQ r Z3 I40 L40 w40 bd3 (q37.trans w.1 w.2.1 (f40.mono (by decide))) ((CP.rf.trans jext_rfl c2).trans q25.1 c3) ?_
  rw [f40.2.2.2 uF 8 1 uS kF3 hS3 (by rw [kS3.2]; rfl) rfl (by decide)]
  exact o37
theorem s13_X12_whole {B : Nat × Nat} {T : Nat} {Z : jZ} {I : jI} {L : jL} (w : WD Z I) (bd : BUD B Z T) (v0 : Nat) (v1 : Int32) (kv0 : jk Z v0 12) (uS : Nat) (huS : jr Z v0 2 = some uS) {Q : Int32 → jZ → jI → jL → Prop} (hQ : ∀ (r : Int32) (Z' : jZ) (I' : jI) (L' : jL), WD Z' I' → BUD B Z' T → FR Ws_X12_whole Z I Z' I' → CP Z Z' → I' uS = I uS → Q r Z' I' L') : f_X12_whole B v0 v1 Z I L Q := by
  obtain ⟨x, ex, kS, lS⟩ := sh_f w.1 kv0 (j := 2) (k := 14) (m := 24) rfl
  cases huS.symm.trans ex
  have nS : uS ≠ v0 := ks_ne kS kv0 (by decide)
  unfold f_X12_whole
  intro I1 e1
  have w1 : WD Z I1 := by rw [e1]; exact WD_putF w 12 22 kv0 (by decide) (by decide) trivial
  have f1 : FR Ws_X12_whole Z I Z I1 := by rw [e1]; exact FR_putF kv0 (by decide) (by decide)
  have oS : I1 uS = I uS := by rw [e1]; exact jpI_ne nS
  refine s_X12_isStep w1 v0 v1 kv0 (fun r p => ⟨fun c => ?_, fun c => hQ _ Z I1 L w1 bd f1 CP.rf oS⟩)
  have c := nz c
  have n1 := i_nat (x := v1) rfl (by omega)
  refine s_X12_findAll w1 bd v0 kv0 (fun Z2 I2 L2 w2 bd2 f2 c2 => ?_)
  have q2 : FR Ws_X12_whole Z I Z2 I2 := f1.trans w.1 w.2.1 (f2.mono (by decide))
  have k2 : jk Z2 v0 12 := (f2.1 _ _ kv0).1
  have kS2 : jk Z2 uS 14 := (f2.1 _ _ kS).1
  have hS2 : jr Z2 v0 2 = some uS := (f2.2.1 v0 12 2 kv0 (by decide) (by decide)).trans huS
  have o2 : I2 uS = I uS := (f2.2.2.2 v0 12 2 uS kv0 huS (by rw [kS.2]; rfl) rfl (by decide)).trans oS
  intro x17 _ x18 _ x19 _ b20 e20
  cases hS2.symm.trans e20
  refine ⟨vi_of rfl (by omega) (by omega), ?_⟩
  intro x22 e22 b23 e23
  cases hS2.symm.trans e23
  refine ⟨vi_of rfl (by omega) (by omega), ?_⟩
  intro I25 e25
  have w25 : WD Z2 I25 := by rw [e25]; exact WD_putA w2 12 2 k2 hS2 kS2 rfl rfl (by decide) ⟨by decide, by decide⟩
  have q25 : FR Ws_X12_whole Z I Z2 I25 := q2.trans w.1 w.2.1 (by rw [e25]; exact FR_upA w2.2.1 k2 hS2 kS2 rfl rfl (by decide))
  have o25 : ∀ i, i ≠ v1.toNatClampNeg → I25 uS i = I uS i := fun i hi => by rw [e25, jpI_off hi, o2]
  refine s_X12_findAll w25 bd2 v0 k2 (fun Z3 I3 L3 w3 bd3 f3 c3 => ?_)
  have q3 : FR Ws_X12_whole Z I Z3 I3 := q25.trans w.1 w.2.1 (f3.mono (by decide))
  have k3 : jk Z3 v0 12 := (f3.1 _ _ k2).1
  have kS3 : jk Z3 uS 14 := (f3.1 _ _ kS2).1
  have hS3 : jr Z3 v0 2 = some uS := (f3.2.1 v0 12 2 k2 (by decide) (by decide)).trans hS2
  have o3 : I3 uS = I25 uS := f3.2.2.2 v0 12 2 uS k2 hS2 (by rw [kS2.2]; rfl) rfl (by decide)
  have r22 : rg 0 9 x22 := by rw [e22]; exact w2.arr 12 2 k2 hS2 kS2 rfl rfl v1.toNatClampNeg
  intro b33 e33
  cases hS3.symm.trans e33
  refine ⟨vi_of rfl (by omega) (by omega), ?_⟩
  intro I37 e37
  have w37 : WD Z3 I37 := by rw [e37]; exact WD_putA w3 12 2 k3 hS3 kS3 rfl rfl (by decide) r22
  have q37 : FR Ws_X12_whole Z I Z3 I37 := q3.trans w.1 w.2.1 (by rw [e37]; exact FR_upA w3.2.1 k3 hS3 kS3 rfl rfl (by decide))
  have o37 : I37 uS = I uS := funext fun i => by
    by_cases q : i = v1.toNatClampNeg
    · rw [e37, q, jpI_at, e22, o2]
    · rw [e37, jpI_off q, o3]; exact o25 i q
  refine s_X12_tellMore w37 v0 _ _ _ k3 (fun r I40 L40 w40 f40 => ?_)
  refine hQ r Z3 I40 L40 w40 bd3 (q37.trans w.1 w.2.1 (f40.mono (by decide))) ((CP.rf.trans jext_rfl c2).trans q25.1 c3) ?_
  rw [f40.2.2.2 v0 12 2 uS k3 hS3 (by rw [kS3.2]; rfl) rfl (by decide)]
  exact o37
/-- mends -/
def MEr (n : Int) (S S' R : Nat → Int32) (v1 r : Int32) : Prop := (r.toInt = -1 ∧ ¬ (0 ≤ v1.toInt ∧ v1.toInt < n) ∧ S' = S) ∨ ((0 ≤ v1.toInt ∧ v1.toInt < n) ∧ r = ((9 : Int32) - S v1.toNatClampNeg) * R v1.toNatClampNeg ∧ S' = upd S v1.toNatClampNeg 9)
theorem MEr_st {n m : Int} {S S' T T' R U : Nat → Int32} {v r q : Int32} (e : n = m) (h : MEr n S S' R v r) (g : MEr m T T' U v q) (hs : ARr n S T) : ARr n S' T' := by
  subst e
  rcases h with ⟨h1, h2, h3⟩ | ⟨h1, h2, h3⟩
  · rcases g with ⟨g1, g2, g3⟩ | ⟨g1, g2, g3⟩
    · rw [h3, g3]; exact hs
    · exact absurd g1 h2
  · rcases g with ⟨g1, g2, g3⟩ | ⟨g1, g2, g3⟩
    · exact absurd h1 g2
    · rw [h3, g3]; exact ARr_upd hs
theorem MEr_eq {n m : Int} {S S' T T' R U : Nat → Int32} {v r q : Int32} (e : n = m) (h : MEr n S S' R v r) (g : MEr m T T' U v q) (hs : ARr n S T) (hr : ARr n R U) : r.toInt = q.toInt := by
  subst e
  rcases h with ⟨h1, h2, h3⟩ | ⟨h1, h2, h3⟩
  · rcases g with ⟨g1, g2, g3⟩ | ⟨g1, g2, g3⟩
    · exact h1.trans g1.symm
    · exact absurd g1 h2
  · rcases g with ⟨g1, g2, g3⟩ | ⟨g1, g2, g3⟩
    · exact absurd h1 g2
    · have n1 := i_nat (x := v) rfl h1.1
      rw [h2, g2, hs v.toNatClampNeg (by omega), hr v.toNatClampNeg (by omega)]
theorem s13_X11_mends {Z : jZ} {I : jI} {L : jL} (w : WD Z I) (v0 : Nat) (v1 : Int32) (kv0 : jk Z v0 11) (uF : Nat) (huF : jr Z v0 2 = some uF) (uS : Nat) (huS : jr Z uF 1 = some uS) (uR : Nat) (huR : jr Z uF 0 = some uR) {Q : Int32 → jI → jL → Prop} (hQ : ∀ (r : Int32) (I' : jI) (L' : jL), WD Z I' → FR Ws_X11_mends Z I Z I' → MEr (I uF 9).toInt (I uS) (I' uS) (I uR) v1 r → Q r I' L') : f_X11_mends v0 v1 Z I L Q := by
  obtain ⟨x, ex, kF⟩ := sh_o w.1 kv0 (j := 2) (k := 8) rfl
  cases huF.symm.trans ex
  obtain ⟨x, ex, kS, lS⟩ := sh_f w.1 kF (j := 1) (k := 14) (m := 24) rfl
  cases huS.symm.trans ex
  unfold f_X11_mends
  intro b1 e1
  cases huF.symm.trans e1
  refine s_X8_has w uF v1 kF (fun r p => ⟨fun c => ?_, fun c => hQ _ I L w FR.rf (Or.inl ⟨rfl, by have c := yz c; omega, rfl⟩)⟩)
  have c := nz c
  have n1 := i_nat (x := v1) rfl (by omega)
  intro b10 e10
  cases huF.symm.trans e10
  intro b11 e11
  cases huS.symm.trans e11
  refine ⟨vi_of rfl (by omega) (by omega), ?_⟩
  intro b13 e13
  cases huF.symm.trans e13
  intro b14 e14
  cases huR.symm.trans e14
  refine ⟨vi_of rfl (by omega) (by omega), ?_⟩
  intro x16 e16
  refine s_X11_lead w v0 x16 v1 (-1 : Int32) kv0 (fun I2 L2 w2 f2 => ?_)
  have o2 : I2 uS = I uS := f2.2.2.2 uF 8 1 uS kF huS (by rw [kS.2]; rfl) rfl (by decide)
  intro b23 e23
  cases huF.symm.trans e23
  intro b24 e24
  cases huS.symm.trans e24
  refine ⟨vi_of rfl (by omega) (by omega), ?_⟩
  intro I26 e26
  refine hQ x16 I26 L2 ?_ ?_ (Or.inr ⟨by omega, e16, ?_⟩)
  · rw [e26]; exact WD_putA w2 8 1 kF huS kS rfl rfl (by decide) trivial
  · refine (f2.mono (by decide)).trans w.1 w.2.1 ?_
    rw [e26]; exact FR_upA w2.2.1 kF huS kS rfl rfl (by decide)
  · rw [e26, ← o2]; exact va_up_self _ _ _
theorem s13_X12_mends {Z : jZ} {I : jI} {L : jL} (w : WD Z I) (v0 : Nat) (v1 : Int32) (kv0 : jk Z v0 12) (uS : Nat) (huS : jr Z v0 2 = some uS) (uR : Nat) (huR : jr Z v0 1 = some uR) {Q : Int32 → jI → jL → Prop} (hQ : ∀ (r : Int32) (I' : jI) (L' : jL), WD Z I' → FR Ws_X12_mends Z I Z I' → MEr (I v0 0).toInt (I uS) (I' uS) (I uR) v1 r → Q r I' L') : f_X12_mends v0 v1 Z I L Q := by
  obtain ⟨x, ex, kS, lS⟩ := sh_f w.1 kv0 (j := 2) (k := 14) (m := 24) rfl
  cases huS.symm.trans ex
  obtain ⟨x, ex, kR, lR⟩ := sh_f w.1 kv0 (j := 1) (k := 14) (m := 24) rfl
  cases huR.symm.trans ex
  have nS : uS ≠ v0 := ks_ne kS kv0 (by decide)
  have nR : uR ≠ v0 := ks_ne kR kv0 (by decide)
  unfold f_X12_mends
  intro I1 e1
  have w1 : WD Z I1 := by rw [e1]; exact WD_putF w 12 22 kv0 (by decide) (by decide) trivial
  have f1 : FR Ws_X12_mends Z I Z I1 := by rw [e1]; exact FR_putF kv0 (by decide) (by decide)
  have oS : I1 uS = I uS := by rw [e1]; exact jpI_ne nS
  have oR : I1 uR = I uR := by rw [e1]; exact jpI_ne nR
  have s0 : I1 v0 0 = I v0 0 := by rw [e1]; exact jpI_o (by decide)
  have t0 : 0 ≤ (I v0 0).toInt ∧ (I v0 0).toInt ≤ 24 := w.fld 12 0 kv0 (by decide)
  refine s_X12_isStep w1 v0 v1 kv0 (fun r p => ?_)
  rw [s0] at p
  refine ⟨fun c => ?_, fun c => hQ _ I1 L w1 f1 (Or.inl ⟨rfl, by have c := yz c; omega, oS⟩)⟩
  have c := nz c
  have n1 := i_nat (x := v1) rfl (by omega)
  intro b10 e10
  cases huS.symm.trans e10
  refine ⟨vi_of rfl (by omega) (by omega), ?_⟩
  intro b12 e12
  cases huR.symm.trans e12
  refine ⟨vi_of rfl (by omega) (by omega), ?_⟩
  intro x14 e14
  refine s_X12_earn w1 v0 v1 x14 (-1 : Int32) kv0 (by omega) (fun I2 L2 w2 f2 => ?_)
  have o2 : I2 uS = I1 uS := f2.2.2.2 v0 12 2 uS kv0 huS (by rw [kS.2]; rfl) rfl (by decide)
  intro b21 e21
  cases huS.symm.trans e21
  refine ⟨vi_of rfl (by omega) (by omega), ?_⟩
  intro I23 e23
  refine hQ x14 I23 L2 ?_ ?_ (Or.inr ⟨by omega, ?_, ?_⟩)
  · rw [e23]; exact WD_putA w2 12 2 kv0 huS kS rfl rfl (by decide) ⟨by decide, by decide⟩
  · refine (f1.trans w.1 w.2.1 (f2.mono (by decide))).trans w.1 w.2.1 ?_
    rw [e23]; exact FR_upA w2.2.1 kv0 huS kS rfl rfl (by decide)
  · rw [e14, oS, oR]
  · rw [e23, ← oS, ← o2]; exact va_up_self _ _ _
end
section
/-! ===== stairs on both sides: what becomes of each STEP ===== -/
theorem s13_X9_read {Z : jZ} {I : jI} {L : jL} (w : WD Z I) (v0 v1 : Nat) (kv0 : jk Z v0 9) (kv1 : jk Z v1 10) (uB : Nat) (huB : jr Z v1 0 = some uB) (p0 : BY (I uB)) {Q : Int32 → jI → jL → Prop} (hQ : ∀ (r : Int32) (I' : jI) (L' : jL), WD Z I' → FR Ws_X9_read Z I Z I' → (r.toInt = stA (I uB) (I v1 1).toInt ∧ (0 ≤ r.toInt → (I' v0 5).toInt = r.toInt) ∧ (0 ≤ r.toInt → CNt (cT (I uB) (I v1 1).toInt) Z I' v0 r.toInt)) → Q r I' L') : f_X9_read v0 v1 Z I L Q := by
  obtain ⟨b9, e9, kuB, l9⟩ := sh_f w.1 kv1 (j := 0) (k := 13) (m := 80) rfl
  cases huB.symm.trans e9
  exact rc_read w kv0 kv1 huB kuB p0 (fun r I' L' w' f' e e2 e3 => hQ r I' L' w' f' ⟨e, e2, e3⟩)
theorem cpy_all {g f : Nat → Int32} {m s : Nat} (h : s < m) : va_cpy g f (0 : Int32).toNatClampNeg (0 : Int32).toNatClampNeg m s = g s := by
  unfold va_cpy
  rw [show (0 : Int32).toNatClampNeg = 0 from rfl, if_pos (by omega)]
  congr 1
  omega
theorem z24 : (24 : Int32).toNatClampNeg = 24 := rfl
theorem z192 : (192 : Int32).toNatClampNeg = 192 := rfl
theorem z8 : (8 : Int32).toNatClampNeg = 8 := rfl
set_option maxHeartbeats 1000000 in
theorem s13_X8_build {Z : jZ} {I : jI} {L : jL} (w : WD Z I) (v0 v1 : Nat) (kv0 : jk Z v0 8) (kv1 : jk Z v1 9) {Q : jI → jL → Prop} (hQ : ∀ (I' : jI) (L' : jL), WD Z I' → FR Ws_X8_build Z I Z I' → (I' v0 9).toInt = (I v1 5).toInt → (∀ j u u', j < 4 → jr Z v1 j = some u → jr Z v0 j = some u' → ∀ s : Nat, s < 24 → I' u' s = I u s) → Q I' L') : f_X8_build v0 v1 Z I L Q := by
  obtain ⟨r0, hr0, kr0, -⟩ := sh_f w.1 kv1 (j := 0) (k := 14) (m := 24) rfl
  obtain ⟨r1, hr1, kr1, -⟩ := sh_f w.1 kv1 (j := 1) (k := 14) (m := 24) rfl
  obtain ⟨r2, hr2, kr2, -⟩ := sh_f w.1 kv1 (j := 2) (k := 14) (m := 24) rfl
  obtain ⟨r3, hr3, kr3, -⟩ := sh_f w.1 kv1 (j := 3) (k := 14) (m := 24) rfl
  obtain ⟨r4, hr4, kr4, lr4⟩ := sh_f w.1 kv1 (j := 4) (k := 14) (m := 24) rfl
  obtain ⟨a0, ha0, ka0, -⟩ := sh_f w.1 kv0 (j := 0) (k := 14) (m := 24) rfl
  obtain ⟨a1, ha1, ka1, -⟩ := sh_f w.1 kv0 (j := 1) (k := 14) (m := 24) rfl
  obtain ⟨a2, ha2, ka2, -⟩ := sh_f w.1 kv0 (j := 2) (k := 14) (m := 24) rfl
  obtain ⟨a3, ha3, ka3, -⟩ := sh_f w.1 kv0 (j := 3) (k := 14) (m := 24) rfl
  obtain ⟨a4, ha4, ka4⟩ := sh_o w.1 kv0 (j := 4) (k := 4) rfl
  have x89 : ∀ {j j' a r}, jr Z v0 j = some a → jr Z v1 j' = some r → jsr 8 j = false → jsr 9 j' = false → r ≠ a := fun ha hr s s' e => by
    subst e
    have := (w.2.1.2.2 _ _ _ _ _ _ _ kv0 kv1 ha hr s s').1
    exact ks_ne kv0 kv1 (by decide) this
  have t5 : 0 ≤ (I v1 5).toInt ∧ (I v1 5).toInt ≤ 24 := w.fld 9 5 kv1 (by decide)
  unfold f_X8_build
  intro I1 e1
  have w1 : WD Z I1 := by rw [e1]; exact WD_putF w 8 9 kv0 (by decide) (by decide) ⟨by omega, by omega⟩
  have f1 : FR Ws_X8_build Z I Z I1 := by rw [e1]; exact FR_putF kv0 (by decide) (by decide)
  have o1 : ∀ a, a ≠ v0 → I1 a = I a := fun a ha => by rw [e1]; exact jpI_ne ha
  intro b2 e2
  cases hr0.symm.trans e2
  intro b3 e3
  cases ha0.symm.trans e3
  refine ⟨by decide, ?_⟩
  intro I5 e5
  have w5 : WD Z I5 := by rw [e5]; exact WD_cpy w1 8 0 kv0 ha0 ka0 rfl rfl (by decide) (fun _ _ _ => trivial)
  have f5 : FR Ws_X8_build Z I Z I5 := f1.trans w.1 w.2.1 (by rw [e5]; exact FR_upA w1.2.1 kv0 ha0 ka0 rfl rfl (by decide))
  have o5 : ∀ a, a ≠ a0 → I5 a = I1 a := fun a ha => by rw [e5]; exact va_up_ne _ _ ha
  intro b6 e6
  cases hr1.symm.trans e6
  intro b7 e7
  cases ha1.symm.trans e7
  refine ⟨by decide, ?_⟩
  intro I9 e9
  have w9 : WD Z I9 := by rw [e9]; exact WD_cpy w5 8 1 kv0 ha1 ka1 rfl rfl (by decide) (fun _ _ _ => trivial)
  have f9 : FR Ws_X8_build Z I Z I9 := f5.trans w.1 w.2.1 (by rw [e9]; exact FR_upA w5.2.1 kv0 ha1 ka1 rfl rfl (by decide))
  have o9 : ∀ a, a ≠ a1 → I9 a = I5 a := fun a ha => by rw [e9]; exact va_up_ne _ _ ha
  intro b10 e10
  cases hr2.symm.trans e10
  intro b11 e11
  cases ha2.symm.trans e11
  refine ⟨by decide, ?_⟩
  intro I13 e13
  have g2 : ∀ q, rg 0 20 (I9 r2 q) := fun q => w9.arr 9 2 kv1 hr2 kr2 rfl rfl q
  have w13 : WD Z I13 := by rw [e13]; exact WD_cpy w9 8 2 kv0 ha2 ka2 rfl rfl (by decide) (fun q _ _ => g2 _)
  have f13 : FR Ws_X8_build Z I Z I13 := f9.trans w.1 w.2.1 (by rw [e13]; exact FR_upA w9.2.1 kv0 ha2 ka2 rfl rfl (by decide))
  have o13 : ∀ a, a ≠ a2 → I13 a = I9 a := fun a ha => by rw [e13]; exact va_up_ne _ _ ha
  intro b14 e14
  cases hr3.symm.trans e14
  intro b15 e15
  cases ha3.symm.trans e15
  refine ⟨by decide, ?_⟩
  intro I17 e17
  have w17 : WD Z I17 := by rw [e17]; exact WD_cpy w13 8 3 kv0 ha3 ka3 rfl rfl (by decide) (fun _ _ _ => trivial)
  have f17 : FR Ws_X8_build Z I Z I17 := f13.trans w.1 w.2.1 (by rw [e17]; exact FR_upA w13.2.1 kv0 ha3 ka3 rfl rfl (by decide))
  have o17 : ∀ a, a ≠ a3 → I17 a = I13 a := fun a ha => by rw [e17]; exact va_up_ne _ _ ha
  intro b18 e18
  cases ha4.symm.trans e18
  intro b19 e19
  cases hr4.symm.trans e19
  have d : ∀ {j j' b b'}, jr Z v0 j = some b → jr Z v0 j' = some b' → jsr 8 j = false → jsr 8 j' = false → j ≠ j' → b ≠ b' := fun h h' s s' n => ds_ne w.2.1 kv0 h h' s s' n
  have y0 : ∀ s : Nat, s < 24 → I17 a0 s = I r0 s := fun s hs => by
    rw [o17 a0 (d ha0 ha3 rfl rfl (by decide)), o13 a0 (d ha0 ha2 rfl rfl (by decide)), o9 a0 (d ha0 ha1 rfl rfl (by decide)), e5, va_up_self, z24, cpy_all hs, o1 r0 (ks_ne kr0 kv0 (by decide))]
  have y1 : ∀ s : Nat, s < 24 → I17 a1 s = I r1 s := fun s hs => by
    rw [o17 a1 (d ha1 ha3 rfl rfl (by decide)), o13 a1 (d ha1 ha2 rfl rfl (by decide)), e9, va_up_self, z24, cpy_all hs, o5 r1 (x89 ha0 hr1 rfl rfl), o1 r1 (ks_ne kr1 kv0 (by decide))]
  have y2 : ∀ s : Nat, s < 24 → I17 a2 s = I r2 s := fun s hs => by
    rw [o17 a2 (d ha2 ha3 rfl rfl (by decide)), e13, va_up_self, z24, cpy_all hs, o9 r2 (x89 ha1 hr2 rfl rfl), o5 r2 (x89 ha0 hr2 rfl rfl), o1 r2 (ks_ne kr2 kv0 (by decide))]
  have y3 : ∀ s : Nat, s < 24 → I17 a3 s = I r3 s := fun s hs => by
    rw [e17, va_up_self, z24, cpy_all hs, o13 r3 (x89 ha2 hr3 rfl rfl), o9 r3 (x89 ha1 hr3 rfl rfl), o5 r3 (x89 ha0 hr3 rfl rfl), o1 r3 (ks_ne kr3 kv0 (by decide))]
  refine s_X4_deal w17 a4 r4 _ ka4 kr4 v1 9 4 kv1 hr4 lr4 (fun I22 L22 w22 f22 => ?_)
  refine hQ I22 L22 w22 (f17.trans w.1 w.2.1 (f22.mono (by decide))) ?_ (fun j u u' hj hu hu' s hs => ?_)
  · rw [f22.2.2.1 v0 8 9 kv0 (by decide) (by decide), o17 v0 (ks_ne kv0 ka3 (by decide)), o13 v0 (ks_ne kv0 ka2 (by decide)), o9 v0 (ks_ne kv0 ka1 (by decide)), o5 v0 (ks_ne kv0 ka0 (by decide)), e1, jpI_at]
  · have hj : j = 0 ∨ j = 1 ∨ j = 2 ∨ j = 3 := by omega
    rcases hj with rfl | rfl | rfl | rfl
    · cases hr0.symm.trans hu; cases ha0.symm.trans hu'
      rw [f22.2.2.2 v0 8 0 a0 kv0 ha0 (by rw [ka0.2]; rfl) rfl (by decide)]; exact y0 s hs
    · cases hr1.symm.trans hu; cases ha1.symm.trans hu'
      rw [f22.2.2.2 v0 8 1 a1 kv0 ha1 (by rw [ka1.2]; rfl) rfl (by decide)]; exact y1 s hs
    · cases hr2.symm.trans hu; cases ha2.symm.trans hu'
      rw [f22.2.2.2 v0 8 2 a2 kv0 ha2 (by rw [ka2.2]; rfl) rfl (by decide)]; exact y2 s hs
    · cases hr3.symm.trans hu; cases ha3.symm.trans hu'
      rw [f22.2.2.2 v0 8 3 a3 kv0 ha3 (by rw [ka3.2]; rfl) rfl (by decide)]; exact y3 s hs
/-- the STEPS of the class as a text tells them -/
def CF (cc : Nat → Nat → Int) (Z : jZ) (I : jI) (uF : Nat) (n : Int) : Prop := ∀ j u, j < 4 → jr Z uF j = some u → ∀ s : Nat, (s : Int) < n → (I u s).toInt = cc j s
theorem s13_X11_stairs {Z : jZ} {I : jI} {L : jL} (w : WD Z I) (v0 : Nat) (kv0 : jk Z v0 11) (uT : Nat) (huT : jr Z v0 0 = some uT) (uB : Nat) (huB : jr Z uT 0 = some uB) (uF : Nat) (huF : jr Z v0 2 = some uF) (uN : Nat) (huN : jr Z v0 1 = some uN) (p0 : BY (I uB)) (uS : Nat) (huS : jr Z v0 8 = some uS) {Q : Int32 → jI → jL → Prop}
    (hQ : ∀ (r : Int32) (I' : jI) (L' : jL), WD Z I' → FR Ws_X11_stairs Z I Z I' → ((I' uT 1).toInt = 0 ∧ r.toInt = stA (I uB) (I uT 1).toInt ∧ (0 ≤ r.toInt → (I' uF 9).toInt = r.toInt) ∧ (r.toInt < 0 → (I' uF 9).toInt = (I uF 9).toInt) ∧ (r.toInt < 0 → ∀ b, jk Z b 2 → I' b 8 = I b 8) ∧ (0 ≤ r.toInt → ∀ i b, i < 2 → jr Z uS i = some b → I' b 8 = 0)) → ((0 ≤ r.toInt → CF (cT (I uB) (I uT 1).toInt) Z I' uF r.toInt) ∧ (r.toInt < 0 → ∀ j u, j < 4 → jr Z uF j = some u → I' u = I u)) → Q r I' L') : f_X11_stairs v0 Z I L Q := by
  have kT : jk Z uT 10 := by obtain ⟨b9, e9, k9⟩ := sh_o w.1 kv0 (j := 0) (k := 10) rfl; cases huT.symm.trans e9; exact k9
  have kF : jk Z uF 8 := by obtain ⟨b9, e9, k9⟩ := sh_o w.1 kv0 (j := 2) (k := 8) rfl; cases huF.symm.trans e9; exact k9
  have kN : jk Z uN 9 := by obtain ⟨b9, e9, k9⟩ := sh_o w.1 kv0 (j := 1) (k := 9) rfl; cases huN.symm.trans e9; exact k9
  obtain ⟨x, ex, kS, lS⟩ := sh_f w.1 kv0 (j := 8) (k := 17) (m := 2) rfl
  cases huS.symm.trans ex
  obtain ⟨uE, hE, kE, lE⟩ := sh_f w.1 kv0 (j := 5) (k := 14) (m := 8) rfl
  have kj : ∀ j u, j < 4 → jr Z uF j = some u → jk Z u 14 := fun j u hj hu => by
    have hj : j = 0 ∨ j = 1 ∨ j = 2 ∨ j = 3 := by omega
    rcases hj with rfl | rfl | rfl | rfl
    · obtain ⟨b, e, kb, -⟩ := sh_f w.1 kF (j := 0) (k := 14) (m := 24) rfl; cases hu.symm.trans e; exact kb
    · obtain ⟨b, e, kb, -⟩ := sh_f w.1 kF (j := 1) (k := 14) (m := 24) rfl; cases hu.symm.trans e; exact kb
    · obtain ⟨b, e, kb, -⟩ := sh_f w.1 kF (j := 2) (k := 14) (m := 24) rfl; cases hu.symm.trans e; exact kb
    · obtain ⟨b, e, kb, -⟩ := sh_f w.1 kF (j := 3) (k := 14) (m := 24) rfl; cases hu.symm.trans e; exact kb
  have fk : ∀ {W : List (Nat × Nat)} {A C : jI}, FR W Z A Z C → ((8, 0) ∉ W ∧ (8, 1) ∉ W ∧ (8, 2) ∉ W ∧ (8, 3) ∉ W) → ∀ j u, j < 4 → jr Z uF j = some u → C u = A u := fun f hn j u hj hu => by
    refine f.2.2.2 uF 8 j u kF hu (by rw [(kj j u hj hu).2]; rfl) ?_ ?_
    · have hj : j = 0 ∨ j = 1 ∨ j = 2 ∨ j = 3 := by omega
      rcases hj with rfl | rfl | rfl | rfl <;> rfl
    · have hj : j = 0 ∨ j = 1 ∨ j = 2 ∨ j = 3 := by omega
      rcases hj with rfl | rfl | rfl | rfl
      · exact hn.1
      · exact hn.2.1
      · exact hn.2.2.1
      · exact hn.2.2.2
  unfold f_X11_stairs
  intro b33 e33
  cases huN.symm.trans e33
  intro b34 e34
  cases huT.symm.trans e34
  refine s13_X9_read w uN uT kN kT uB huB p0 (fun r I1 L1 w1 f1 p1 => ?_)
  intro b42 e42
  cases huT.symm.trans e42
  refine s9_X10_clear w1 uT kT (fun I2 L2 w2 f2 p2 => ?_)
  have g2 : FR Ws_X11_stairs Z I Z I2 := (f1.mono (by decide)).trans w.1 w.2.1 (f2.mono (by decide))
  refine ⟨fun c => ?_, fun c => ?_⟩
  · have c := (i_le (x := 0) (y := r) (show (0 : Int32).toInt = 0 from rfl) rfl).mp c
    intro b50 e50
    cases huF.symm.trans e50
    intro b51 e51
    cases huN.symm.trans e51
    refine s13_X8_build w2 uF uN kF kN (fun I3 L3 w3 f3 p3 y3 => ?_)
    have g3 : FR Ws_X11_stairs Z I Z I3 := g2.trans w.1 w.2.1 (f3.mono (by decide))
    have s3 : (I3 uF 9).toInt = r.toInt := by rw [p3, f2.2.2.1 uN 9 5 kN (by decide) (by decide)]; exact p1.2.1 c
    have t3 : (I3 uT 1).toInt = 0 := by rw [f3.2.2.1 uT 10 1 kT (by decide) (by decide)]; exact p2
    have r24 : r.toInt ≤ 24 := by have := (show rg 0 24 (I3 uF 9) from w3.fld 8 9 kF (by decide)).2; omega
    have c3 : CF (cT (I uB) (I uT 1).toInt) Z I3 uF r.toInt := by
      intro j u hj hu s hs
      have hj5 : j = 0 ∨ j = 1 ∨ j = 2 ∨ j = 3 := by omega
      obtain ⟨a, ha, ka⟩ : ∃ a, jr Z uN j = some a ∧ jk Z a 14 := by
        rcases hj5 with rfl | rfl | rfl | rfl
        · obtain ⟨b, e, kb, -⟩ := sh_f w.1 kN (j := 0) (k := 14) (m := 24) rfl; exact ⟨b, e, kb⟩
        · obtain ⟨b, e, kb, -⟩ := sh_f w.1 kN (j := 1) (k := 14) (m := 24) rfl; exact ⟨b, e, kb⟩
        · obtain ⟨b, e, kb, -⟩ := sh_f w.1 kN (j := 2) (k := 14) (m := 24) rfl; exact ⟨b, e, kb⟩
        · obtain ⟨b, e, kb, -⟩ := sh_f w.1 kN (j := 3) (k := 14) (m := 24) rfl; exact ⟨b, e, kb⟩
      rw [y3 j a u hj ha hu s (by omega)]
      have e2 : I2 a = I1 a := by
        refine f2.2.2.2 uN 9 j a kN ha (by rw [ka.2]; rfl) ?_ ?_
        · rcases hj5 with rfl | rfl | rfl | rfl <;> rfl
        · rcases hj5 with rfl | rfl | rfl | rfl <;> decide
      rw [e2]
      exact p1.2.2 c j a (by omega) ha s hs
    refine ⟨7, hk_L38 w3 v0 kv0 r (fun I4 L4 w4 f4 => ?_) 7 0 I3 L3 w3 FR.rf (by decide) (by decide) (by decide)⟩
    intro b10 e10
    cases hE.symm.trans e10
    have g4 : FR Ws_X11_stairs Z I Z I4 := g3.trans w.1 w.2.1 (f4.mono (by decide))
    refine s_J7_fill_53178 w4 uE 0 kE v0 11 5 kv0 hE (by decide) rfl (by rw [lE]; omega) (fun _ => trivial) (fun I5 L5 w5 f5 => ?_)
    have g5 : FR Ws_X11_stairs Z I Z I5 := g4.trans w.1 w.2.1 (f5.mono (by decide))
    refine ⟨3, hk_L76 w5 v0 r uS huS kS lS (fun I6 L6 w6 f6 z6 => ?_) 3 0 0 I5 L5 w5 FR.rf rfl (by omega) (fun k b hk => absurd hk (Nat.not_lt_zero k)) (by omega)⟩
    refine hQ r I6 L6 w6 (g5.trans w.1 w.2.1 (f6.mono (by decide))) ⟨?_, p1.1, fun _ => ?_, fun h => absurd c (by omega), fun h => absurd c (by omega), fun _ => z6⟩ ⟨fun _ => ?_, fun h => absurd c (by omega)⟩
    · rw [f6.2.2.1 uT 10 1 kT (by decide) (by decide), f5.2.2.1 uT 10 1 kT (by decide) (by decide), f4.2.2.1 uT 10 1 kT (by decide) (by decide)]; exact t3
    · rw [f6.2.2.1 uF 8 9 kF (by decide) (by decide), f5.2.2.1 uF 8 9 kF (by decide) (by decide), f4.2.2.1 uF 8 9 kF (by decide) (by decide)]; exact s3
    · intro j u hj hu s hs
      rw [fk f6 (by decide) j u hj hu, fk f5 (by decide) j u hj hu, fk f4 (by decide) j u hj hu]
      exact c3 j u hj hu s hs
  · have c := (not_congr (i_le (x := 0) (y := r) (show (0 : Int32).toInt = 0 from rfl) rfl)).mp c
    refine hQ r I2 L2 w2 g2 ⟨p2, p1.1, fun h => absurd h c, fun _ => ?_, fun _ b kb => ?_, fun h => absurd h c⟩ ⟨fun h => absurd h c, fun _ j u hj hu => ?_⟩
    · rw [f2.2.2.1 uF 8 9 kF (by decide) (by decide), f1.2.2.1 uF 8 9 kF (by decide) (by decide)]
    · rw [f2.2.2.1 b 2 8 kb (by decide) (by decide), f1.2.2.1 b 2 8 kb (by decide) (by decide)]
    · rw [fk f2 (by decide) j u hj hu, fk f1 (by decide) j u hj hu]
/-- the reference lays the STEPS out -/
def MC (cc : Nat → Nat → Int) (I : jI) (u1 u2 u3 u4 u5 : Nat) (i : Nat) : Prop := ∀ q : Nat, q < i → (I u1 q).toInt = cc 0 q ∧ (I u2 q).toInt = cc 1 q ∧ (I u3 q).toInt = cc 2 q ∧ (I u4 q).toInt = cc 3 q ∧ ∀ g : Nat, g < 8 → (I u5 (8 * q + g)).toInt = if (g : Int) = cc 4 q then 720 else 0
theorem st_L301 {B : Nat × Nat} {Z : jZ} {J : jI} (wJ : WD Z J) (v0 : Nat) (v1 : Int32) (kv0 : jk Z v0 12) {Q : Int32 → jZ → jI → jL → Prop}
    (hQ : ∀ (I : jI) (L : jL), WD Z I → FR [(12, 14), (12, 15), (12, 16)] Z J Z I → Q v1 Z I L) :
    ∀ (m : Nat) (v3 : Int32) (I : jI) (L : jL), WD Z I → FR [(12, 14), (12, 15), (12, 16)] Z J Z I → 0 ≤ v3.toInt → v3.toInt ≤ 6 → 7 ≤ (m : Int) + v3.toInt → f_X12_stairs_L301 B Q m v0 v1 v3 Z I L := by
  obtain ⟨u9, h9, k9, l9⟩ := sh_f wJ.1 kv0 (j := 9) (k := 14) (m := 6) rfl
  obtain ⟨u10, h10, k10, l10⟩ := sh_f wJ.1 kv0 (j := 10) (k := 14) (m := 6) rfl
  obtain ⟨u14, h14, k14, l14⟩ := sh_f wJ.1 kv0 (j := 14) (k := 14) (m := 6) rfl
  obtain ⟨u15, h15, k15, l15⟩ := sh_f wJ.1 kv0 (j := 15) (k := 14) (m := 6) rfl
  obtain ⟨u16, h16, k16, l16⟩ := sh_f wJ.1 kv0 (j := 16) (k := 14) (m := 6) rfl
  intro m
  induction m with
  | zero => intro v3 I L w f h0 h1 h2; exfalso; omega
  | succ m ih =>
    intro v3 I L w f h0 h1 h2
    have t8 : 0 ≤ (I v0 8).toInt ∧ (I v0 8).toInt ≤ 6 := w.fld 12 8 kv0 (by decide)
    unfold f_X12_stairs_L301
    refine ⟨fun c => hQ I L w f, fun c => ?_⟩
    have c := (not_congr (i_le (x := I v0 8) (y := v3) rfl rfl)).mp c
    intro b2 e2
    cases h14.symm.trans e2
    refine ⟨vi_of rfl (by omega) (by omega), ?_⟩
    intro I4 e4
    have w4 : WD Z I4 := by rw [e4]; exact WD_putA w 12 14 kv0 h14 k14 rfl rfl (by decide) ⟨by decide, by decide⟩
    have f4 : FR [(12, 14), (12, 15), (12, 16)] Z J Z I4 := f.trans wJ.1 wJ.2.1 (by rw [e4]; exact FR_upA w.2.1 kv0 h14 k14 rfl rfl (by decide))
    intro b5 e5
    cases h15.symm.trans e5
    intro b6 e6
    cases h9.symm.trans e6
    refine ⟨vi_of rfl (by omega) (by omega), vi_of rfl (by omega) (by omega), ?_⟩
    intro I9 e9
    have w9 : WD Z I9 := by rw [e9]; exact WD_putA w4 12 15 kv0 h15 k15 rfl rfl (by decide) trivial
    have f9 : FR [(12, 14), (12, 15), (12, 16)] Z J Z I9 := f4.trans wJ.1 wJ.2.1 (by rw [e9]; exact FR_upA w4.2.1 kv0 h15 k15 rfl rfl (by decide))
    intro b10 e10
    cases h16.symm.trans e10
    intro b11 e11
    cases h10.symm.trans e11
    refine ⟨vi_of rfl (by omega) (by omega), vi_of rfl (by omega) (by omega), ?_⟩
    intro I14 e14
    have w14 : WD Z I14 := by rw [e14]; exact WD_putA w9 12 16 kv0 h16 k16 rfl rfl (by decide) trivial
    have f14 : FR [(12, 14), (12, 15), (12, 16)] Z J Z I14 := f9.trans wJ.1 wJ.2.1 (by rw [e14]; exact FR_upA w9.2.1 kv0 h16 k16 rfl rfl (by decide))
    intro x15 e15
    have t15 : x15.toInt = v3.toInt + 1 := by rw [e15]; exact i_add rfl (show (1 : Int32).toInt = 1 from rfl) (by omega) (by omega)
    exact ih x15 I14 L w14 f14 (by omega) (by omega) (by omega)
theorem st_L280 {B : Nat × Nat} {Z : jZ} {J : jI} (wJ : WD Z J) (v0 : Nat) (v1 : Int32) (kv0 : jk Z v0 12) {Q : Int32 → jZ → jI → jL → Prop}
    (hQ : ∀ (I : jI) (L : jL), WD Z I → FR [(12, 14), (12, 15), (12, 16), (12, 17)] Z J Z I → Q v1 Z I L) :
    ∀ (m : Nat) (v3 : Int32) (I : jI) (L : jL), WD Z I → FR [(12, 14), (12, 15), (12, 16), (12, 17)] Z J Z I → 0 ≤ v3.toInt → v3.toInt ≤ 8 → 9 ≤ (m : Int) + v3.toInt → f_X12_stairs_L280 B Q m v0 v1 v3 Z I L := by
  obtain ⟨u17, h17, k17, l17⟩ := sh_f wJ.1 kv0 (j := 17) (k := 14) (m := 8) rfl
  intro m
  induction m with
  | zero => intro v3 I L w f h0 h1 h2; exfalso; omega
  | succ m ih =>
    intro v3 I L w f h0 h1 h2
    unfold f_X12_stairs_L280
    refine ⟨fun c => ⟨7, st_L301 w v0 v1 kv0 (fun I' L' w' f' => hQ I' L' w' (f.trans wJ.1 wJ.2.1 (f'.mono (by decide)))) 7 0 I L w FR.rf (by decide) (by decide) (by decide)⟩, fun c => ?_⟩
    have c := (not_congr (i_le (x := 8) (y := v3) (show (8 : Int32).toInt = 8 from rfl) rfl)).mp c
    intro b18 e18
    cases h17.symm.trans e18
    refine ⟨vi_of rfl (by omega) (by omega), ?_⟩
    intro I20 e20
    have w20 : WD Z I20 := by rw [e20]; exact WD_putA w 12 17 kv0 h17 k17 rfl rfl (by decide) trivial
    have f20 : FR [(12, 14), (12, 15), (12, 16), (12, 17)] Z J Z I20 := f.trans wJ.1 wJ.2.1 (by rw [e20]; exact FR_upA w.2.1 kv0 h17 k17 rfl rfl (by decide))
    intro x21 e21
    have t21 : x21.toInt = v3.toInt + 1 := by rw [e21]; exact i_add rfl (show (1 : Int32).toInt = 1 from rfl) (by omega) (by omega)
    exact ih x21 I20 L w20 f20 (by omega) (by omega) (by omega)
theorem st_L185 {B : Nat × Nat} {Z : jZ} {J : jI} (wJ : WD Z J) (v0 : Nat) (v1 v3 : Int32) (kv0 : jk Z v0 12) (u4 : Nat) (h4 : jr Z v0 4 = some u4) (k4 : jk Z u4 16) (l4 : jlen Z u4 = 24) (u5 : Nat) (h5 : jr Z v0 5 = some u5) (k5 : jk Z u5 14) (l5 : jlen Z u5 = 192) (u28 : Nat) (h28 : jr Z v0 28 = some u28) (k28 : jk Z u28 14) (i : Nat) (ei : v3.toInt = (i : Int)) (hi : i < 24) (W F : Int) (eW : (J u28 (5 * i + 4)).toInt = W) (hW : W = 0 ∨ W = 1) (eF : (J u28 (5 * i + 3)).toInt = F)
    {K : Nat → Int32 → Int32 → jZ → jI → jL → Prop} {Q : Int32 → jZ → jI → jL → Prop}
    (hK : ∀ (I : jI) (L : jL) (x : Int32), WD Z I → FR [(12, 4), (12, 5)] Z J Z I → x.toInt = ((i + 1 : Nat) : Int) → (I u4 i).toInt = W → (∀ z, z ≠ i → I u4 z = J u4 z) → (∀ g : Nat, g < 8 → (I u5 (8 * i + g)).toInt = if (g : Int) = F then 720 else 0) → (∀ z, (z < 8 * i ∨ 8 * i + 8 ≤ z) → I u5 z = J u5 z) → K v0 v1 x Z I L) :
    ∀ (m f : Nat) (v4 : Int32) (I : jI) (L : jL), WD Z I → FR [(12, 4), (12, 5)] Z J Z I → v4.toInt = (f : Int) → f ≤ 8 → I u4 = J u4 → (∀ g : Nat, g < f → (I u5 (8 * i + g)).toInt = if (g : Int) = F then 720 else 0) → (∀ z, (z < 8 * i ∨ 8 * i + f ≤ z) → I u5 z = J u5 z) → 9 ≤ m + f → f_X12_stairs_L185 B K Q m v0 v1 v3 v4 Z I L := by
  have n45 : u4 ≠ u5 := ks_ne k4 k5 (by decide)
  have z1 : (1 : Int32).toInt = 1 := rfl
  have d4 : (((5 : Int32) * v3) + (4 : Int32)).toInt = 5 * (i : Int) + 4 := i_add (i_mul (show (5 : Int32).toInt = 5 from rfl) ei (by omega) (by omega)) (show (4 : Int32).toInt = 4 from rfl) (by omega) (by omega)
  have d3 : (((5 : Int32) * v3) + (3 : Int32)).toInt = 5 * (i : Int) + 3 := i_add (i_mul (show (5 : Int32).toInt = 5 from rfl) ei (by omega) (by omega)) (show (3 : Int32).toInt = 3 from rfl) (by omega) (by omega)
  have q4 := i_nat d4 (by omega)
  have q4 : (((5 : Int32) * v3) + (4 : Int32)).toNatClampNeg = 5 * i + 4 := by omega
  have q3 := i_nat d3 (by omega)
  have q3 : (((5 : Int32) * v3) + (3 : Int32)).toNatClampNeg = 5 * i + 3 := by omega
  have qi := i_nat ei (by omega)
  have qi : v3.toNatClampNeg = i := by omega
  intro m
  induction m with
  | zero => intro f v4 I L w fr e1 e2 e3 e4 e5 e6; exfalso; omega
  | succ m ih =>
    intro f v4 I L w fr e1 e2 e3 e4 e5 e6
    have e28 : I u28 = J u28 := fr.2.2.2 v0 12 28 u28 kv0 h28 (by rw [k28.2]; rfl) rfl (by decide)
    unfold f_X12_stairs_L185
    refine ⟨fun c => ?_, fun c => ?_⟩
    · have c := (i_le (show (8 : Int32).toInt = 8 from rfl) e1).mp c
      have ef : f = 8 := by omega
      subst ef
      have fin : ∀ s2 : Int32, (vp_nar .boolean s2).toInt = W → f_X12_stairs_b256 B K Q v0 v1 v3 u4 v3 s2 Z I L := fun s2 hs => by
        unfold f_X12_stairs_b256
        refine ⟨by rw [l4]; exact vi_of ei (by omega) (by omega), ?_⟩
        intro I23 e23 x24 e24
        rw [qi] at e23
        have w23 : WD Z I23 := by rw [e23]; exact WD_putA w 12 4 kv0 h4 k4 rfl rfl (by decide) trivial
        have f23 : FR [(12, 4), (12, 5)] Z J Z I23 := fr.trans wJ.1 wJ.2.1 (by rw [e23]; exact FR_upA w.2.1 kv0 h4 k4 rfl rfl (by decide))
        refine hK I23 L x24 w23 f23 ?_ ?_ (fun z hz => ?_) (fun g hg => ?_) (fun z hz => ?_)
        · rw [e24]; exact (i_add ei z1 (by omega) (by omega)).trans (by omega)
        · rw [e23, jpI_at]; exact hs
        · rw [e23, jpI_off hz, e3]
        · rw [e23, jpI_ne (fun e => n45 e.symm)]; exact e4 g hg
        · rw [e23, jpI_ne (fun e => n45 e.symm)]; exact e5 z hz
      intro b29 h29
      cases h4.symm.trans h29
      intro b30 h30
      cases h28.symm.trans h30
      refine ⟨vi_of d4 (by omega) (by omega), fun c2 => fin 0 ?_, fun c2 => fin 1 ?_⟩
      · rw [q4, e28] at c2
        have c2 := (not_congr (i_eq (x := J u28 (5 * i + 4)) (y := 1) rfl z1)).mp c2
        have : W = 0 := by omega
        rw [this]
        decide
      · rw [q4, e28] at c2
        have c2 := (i_eq (x := J u28 (5 * i + 4)) (y := 1) rfl z1).mp c2
        have : W = 1 := by omega
        rw [this]
        decide
    · have c := (not_congr (i_le (show (8 : Int32).toInt = 8 from rfl) e1)).mp c
      have d8 : (((8 : Int32) * v3) + v4).toInt = 8 * (i : Int) + (f : Int) := i_add (i_mul (show (8 : Int32).toInt = 8 from rfl) ei (by omega) (by omega)) e1 (by omega) (by omega)
      have q8 := i_nat d8 (by omega)
      have q8 : (((8 : Int32) * v3) + v4).toNatClampNeg = 8 * i + f := by omega
      have go : ∀ s2 : Int32, s2.toInt = (if (f : Int) = F then 720 else 0) → f_X12_stairs_b225 B K (f_X12_stairs_L185 B K Q m) Q v0 v1 v3 v4 u5 (((8 : Int32) * v3) + v4) s2 Z I L := fun s2 hs => by
        unfold f_X12_stairs_b225
        refine ⟨by rw [l5]; exact vi_of d8 (by omega) (by omega), ?_⟩
        intro I26 e26 x27 e27
        rw [q8] at e26
        have w26 : WD Z I26 := by rw [e26]; exact WD_putA w 12 5 kv0 h5 k5 rfl rfl (by decide) trivial
        have f26 : FR [(12, 4), (12, 5)] Z J Z I26 := fr.trans wJ.1 wJ.2.1 (by rw [e26]; exact FR_upA w.2.1 kv0 h5 k5 rfl rfl (by decide))
        have t27 : x27.toInt = ((f + 1 : Nat) : Int) := by rw [e27]; exact (i_add e1 z1 (by omega) (by omega)).trans (by omega)
        refine ih (f + 1) x27 I26 L w26 f26 t27 (by omega) ?_ (fun g hg => ?_) (fun z hz => ?_) (by omega)
        · rw [e26, jpI_ne n45]; exact e3
        · by_cases q : g = f
          · rw [e26, q, jpI_at]; exact hs
          · rw [e26, jpI_off (by omega)]; exact e4 g (by omega)
        · rw [e26, jpI_off (by omega)]; exact e5 z (by omega)
      intro b33 h33
      cases h5.symm.trans h33
      intro b34 h34
      cases h28.symm.trans h34
      refine ⟨vi_of d3 (by omega) (by omega), fun c2 => go 0 ?_, fun c2 => go 720 ?_⟩
      · rw [q3, e28] at c2
        have c2 := (not_congr (i_eq (x := v4) (y := J u28 (5 * i + 3)) e1 eF)).mp c2
        rw [if_neg c2]; rfl
      · rw [q3, e28] at c2
        have c2 := (i_eq (x := v4) (y := J u28 (5 * i + 3)) e1 eF).mp c2
        rw [if_pos c2]; rfl
theorem cS_w {g : Int → Int} : ∀ (k : Nat) (a n : Int) (s : Nat), cS g k a n 3 s = 0 ∨ cS g k a n 3 s = 1 := by
  intro k
  induction k with
  | zero => intro a n s; exact Or.inl rfl
  | succ k ih =>
    intro a n s
    by_cases c : (s : Int) < n + (lnA g a n).2.2
    · rw [cS_here c]
      show (if _ then (1 : Int) else 0) = 0 ∨ (if _ then (1 : Int) else 0) = 1
      split
      · exact Or.inr rfl
      · exact Or.inl rfl
    · rw [cS_step c]; exact ih _ _ s
set_option maxHeartbeats 2000000 in
theorem st_L131 {B : Nat × Nat} {cc : Nat → Nat → Int} {Z : jZ} {J : jI} (wJ : WD Z J) (v0 : Nat) (v1 : Int32) (kv0 : jk Z v0 12) (u1 u2 u3 u4 u5 u28 : Nat) (h1 : jr Z v0 1 = some u1) (h2 : jr Z v0 2 = some u2) (h3 : jr Z v0 3 = some u3) (h4 : jr Z v0 4 = some u4) (h5 : jr Z v0 5 = some u5) (h28 : jr Z v0 28 = some u28) (n : Nat) (en : v1.toInt = (n : Int)) (hn : n ≤ 24) (hw : ∀ s, cc 3 s = 0 ∨ cc 3 s = 1) (cm : CM cc Z J v0 (n : Int)) {Q : Int32 → jZ → jI → jL → Prop}
    (hQ : ∀ (I I38 I39 : jI) (L : jL), WD Z I → FR [(12, 1), (12, 2), (12, 3), (12, 4), (12, 5)] Z J Z I → MC cc I u1 u2 u3 u4 u5 n → I38 = jpI I v0 7 ((I v0 7) + (1 : Int32)) → I39 = jpI I38 v0 52 (0 : Int32) → ∃ m280, f_X12_stairs_L280 B Q m280 v0 v1 (0 : Int32) Z I39 L) :
    ∀ (m i : Nat) (v3 : Int32) (I : jI) (L : jL), WD Z I → FR [(12, 1), (12, 2), (12, 3), (12, 4), (12, 5)] Z J Z I → v3.toInt = (i : Int) → i ≤ n → MC cc I u1 u2 u3 u4 u5 i → n + 1 ≤ m + i → f_X12_stairs_L131 B Q m v0 v1 v3 Z I L := by
  obtain ⟨x, ex, k1, l1⟩ := sh_f wJ.1 kv0 (j := 1) (k := 14) (m := 24) rfl
  cases h1.symm.trans ex
  obtain ⟨x, ex, k2, l2⟩ := sh_f wJ.1 kv0 (j := 2) (k := 14) (m := 24) rfl
  cases h2.symm.trans ex
  obtain ⟨x, ex, k3, l3⟩ := sh_f wJ.1 kv0 (j := 3) (k := 14) (m := 24) rfl
  cases h3.symm.trans ex
  obtain ⟨x, ex, k4, l4⟩ := sh_f wJ.1 kv0 (j := 4) (k := 16) (m := 24) rfl
  cases h4.symm.trans ex
  obtain ⟨x, ex, k5, l5⟩ := sh_f wJ.1 kv0 (j := 5) (k := 14) (m := 192) rfl
  cases h5.symm.trans ex
  obtain ⟨x, ex, k28, l28⟩ := sh_f wJ.1 kv0 (j := 28) (k := 14) (m := 120) rfl
  cases h28.symm.trans ex
  have d : ∀ {j j' b b'}, jr Z v0 j = some b → jr Z v0 j' = some b' → jsr 12 j = false → jsr 12 j' = false → j ≠ j' → b ≠ b' := fun h h' s s' n => ds_ne wJ.2.1 kv0 h h' s s' n
  have z1 : (1 : Int32).toInt = 1 := rfl
  intro m
  induction m with
  | zero => intro i v3 I L w f e1 e2 e3 e4; exfalso; omega
  | succ m ih =>
    intro i v3 I L w f e1 e2 e3 e4
    have e28 : I u28 = J u28 := f.2.2.2 v0 12 28 u28 kv0 h28 (by rw [k28.2]; rfl) rfl (by decide)
    unfold f_X12_stairs_L131
    refine ⟨fun c => ?_, fun c => ?_⟩
    · have c := (i_le en e1).mp c
      have ei : i = n := by omega
      subst ei
      intro I38 e38 I39 e39
      exact hQ I I38 I39 L w f e3 e38 e39
    have c := (not_congr (i_le en e1)).mp c
    have hin : i < n := by omega
    obtain ⟨c0, c1, c2, c4, c3⟩ := cm u28 h28 i (by omega)
    have qi := i_nat e1 (by omega)
    have qi : v3.toNatClampNeg = i := by omega
    have d0 : ((5 : Int32) * v3).toInt = 5 * (i : Int) := i_mul (show (5 : Int32).toInt = 5 from rfl) e1 (by omega) (by omega)
    have q0 := i_nat d0 (by omega)
    have q0 : ((5 : Int32) * v3).toNatClampNeg = 5 * i := by omega
    have d1 : (((5 : Int32) * v3) + (1 : Int32)).toInt = 5 * (i : Int) + 1 := i_add d0 z1 (by omega) (by omega)
    have q1 := i_nat d1 (by omega)
    have q1 : (((5 : Int32) * v3) + (1 : Int32)).toNatClampNeg = 5 * i + 1 := by omega
    have d2 : (((5 : Int32) * v3) + (2 : Int32)).toInt = 5 * (i : Int) + 2 := i_add d0 (show (2 : Int32).toInt = 2 from rfl) (by omega) (by omega)
    have q2 := i_nat d2 (by omega)
    have q2 : (((5 : Int32) * v3) + (2 : Int32)).toNatClampNeg = 5 * i + 2 := by omega
    have rr : ∀ z, okA 12 28 z (J u28 z) := fun z => wJ.arr 12 28 kv0 h28 k28 rfl rfl z
    have r0 : rg 0 30 (J u28 (5 * i)) := (show (_ → _) ∧ _ from rr (5 * i)).1 (by omega)
    have r1 : rg 0 9 (J u28 (5 * i + 1)) := (show _ ∧ (_ → _) ∧ _ from rr (5 * i + 1)).2.1 (by omega)
    have r2 : rg 0 20 (J u28 (5 * i + 2)) := (show _ ∧ _ ∧ (_ → _) from rr (5 * i + 2)).2.2 (by omega)
    intro b41 e41
    cases h1.symm.trans e41
    intro b42 e42
    cases h28.symm.trans e42
    refine ⟨vi_of d0 (by omega) (by omega), vi_of e1 (by omega) (by omega), ?_⟩
    intro I45 e45
    rw [qi, q0, e28] at e45
    have w45 : WD Z I45 := by rw [e45]; exact WD_putA w 12 1 kv0 h1 k1 rfl rfl (by decide) r0
    have f45 : FR [(12, 1), (12, 2), (12, 3), (12, 4), (12, 5)] Z J Z I45 := f.trans wJ.1 wJ.2.1 (by rw [e45]; exact FR_upA w.2.1 kv0 h1 k1 rfl rfl (by decide))
    have o45 : ∀ a, a ≠ u1 → I45 a = I a := fun a ha => by rw [e45]; exact jpI_ne ha
    intro b46 e46
    cases h2.symm.trans e46
    intro b47 e47
    cases h28.symm.trans e47
    refine ⟨vi_of d1 (by omega) (by omega), vi_of e1 (by omega) (by omega), ?_⟩
    intro I50 e50
    rw [qi, q1, o45 u28 (d h28 h1 rfl rfl (by decide)), e28] at e50
    have w50 : WD Z I50 := by rw [e50]; exact WD_putA w45 12 2 kv0 h2 k2 rfl rfl (by decide) r1
    have f50 : FR [(12, 1), (12, 2), (12, 3), (12, 4), (12, 5)] Z J Z I50 := f45.trans wJ.1 wJ.2.1 (by rw [e50]; exact FR_upA w45.2.1 kv0 h2 k2 rfl rfl (by decide))
    have o50 : ∀ a, a ≠ u2 → I50 a = I45 a := fun a ha => by rw [e50]; exact jpI_ne ha
    intro b51 e51
    cases h3.symm.trans e51
    intro b52 e52
    cases h28.symm.trans e52
    refine ⟨vi_of d2 (by omega) (by omega), vi_of e1 (by omega) (by omega), ?_⟩
    intro I55 e55
    rw [qi, q2, o50 u28 (d h28 h2 rfl rfl (by decide)), o45 u28 (d h28 h1 rfl rfl (by decide)), e28] at e55
    have w55 : WD Z I55 := by rw [e55]; exact WD_putA w50 12 3 kv0 h3 k3 rfl rfl (by decide) r2
    have f55 : FR [(12, 1), (12, 2), (12, 3), (12, 4), (12, 5)] Z J Z I55 := f50.trans wJ.1 wJ.2.1 (by rw [e55]; exact FR_upA w50.2.1 kv0 h3 k3 rfl rfl (by decide))
    have o55 : ∀ a, a ≠ u3 → I55 a = I50 a := fun a ha => by rw [e55]; exact jpI_ne ha
    have g28 : I55 u28 = J u28 := f55.2.2.2 v0 12 28 u28 kv0 h28 (by rw [k28.2]; rfl) rfl (by decide)
    have g4 : I55 u4 = I u4 := by rw [o55 u4 (d h4 h3 rfl rfl (by decide)), o50 u4 (d h4 h2 rfl rfl (by decide)), o45 u4 (d h4 h1 rfl rfl (by decide))]
    have g5 : I55 u5 = I u5 := by rw [o55 u5 (d h5 h3 rfl rfl (by decide)), o50 u5 (d h5 h2 rfl rfl (by decide)), o45 u5 (d h5 h1 rfl rfl (by decide))]
    have z0 : (0 : Int32).toInt = ((0 : Nat) : Int) := rfl
    refine ⟨9, st_L185 w55 v0 v1 v3 kv0 u4 h4 k4 l4 u5 h5 k5 l5 u28 h28 k28 i e1 (by omega) (cc 3 i) (cc 4 i) (by rw [g28]; exact c3) (hw i) (by rw [g28]; exact c4) (fun I6 L6 x6 w6 f6 t6 y4 y4' y5 y5' => ?_) 9 0 0 I55 L w55 FR.rf z0 (by omega) rfl (fun g hg => absurd hg (by omega)) (fun _ _ => rfl) (by omega)⟩
    refine ih (i + 1) x6 I6 L6 w6 (f55.trans wJ.1 wJ.2.1 (f6.mono (by decide))) t6 (by omega) (fun q hq => ?_) (by omega)
    have s1 : I6 u1 = I55 u1 := f6.2.2.2 v0 12 1 u1 kv0 h1 (by rw [k1.2]; rfl) rfl (by decide)
    have s2 : I6 u2 = I55 u2 := f6.2.2.2 v0 12 2 u2 kv0 h2 (by rw [k2.2]; rfl) rfl (by decide)
    have s3 : I6 u3 = I55 u3 := f6.2.2.2 v0 12 3 u3 kv0 h3 (by rw [k3.2]; rfl) rfl (by decide)
    rw [s1, s2, s3, o55 u1 (d h1 h3 rfl rfl (by decide)), o50 u1 (d h1 h2 rfl rfl (by decide)), o55 u2 (d h2 h3 rfl rfl (by decide))]
    by_cases hqi : q = i
    · subst hqi
      refine ⟨?_, ?_, ?_, y4, y5⟩
      · rw [e45, jpI_at]; exact c0
      · rw [e50, jpI_at]; exact c1
      · rw [e55, jpI_at]; exact c2
    · obtain ⟨m0, m1, m2, m3, m4⟩ := e3 q (by omega)
      refine ⟨?_, ?_, ?_, ?_, fun g hg => ?_⟩
      · rw [e45, jpI_off hqi]; exact m0
      · rw [e50, jpI_off hqi, o45 u2 (d h2 h1 rfl rfl (by decide))]; exact m1
      · rw [e55, jpI_off hqi, o50 u3 (d h3 h2 rfl rfl (by decide)), o45 u3 (d h3 h1 rfl rfl (by decide))]; exact m2
      · rw [y4' q hqi, g4]; exact m3
      · rw [y5' (8 * q + g) (by omega), g5]; exact m4 g hg
/-- stairs of the reference, with what becomes of the STEPS -/
def MF (cc : Nat → Nat → Int) (Z : jZ) (I : jI) (v0 : Nat) (n : Int) : Prop := ∀ u1 u2 u3 u4 u5, jr Z v0 1 = some u1 → jr Z v0 2 = some u2 → jr Z v0 3 = some u3 → jr Z v0 4 = some u4 → jr Z v0 5 = some u5 → MC cc I u1 u2 u3 u4 u5 n.toNat
set_option maxHeartbeats 4000000 in
theorem s13_X12_stairs {B : Nat × Nat} {T : Nat} {Z : jZ} {I : jI} {L : jL} (w : WD Z I) (bd : BUD B Z T) (v0 : Nat) (kv0 : jk Z v0 12) (uM : Nat) (huM : jr Z v0 18 = some uM) (p0 : 0 ≤ (I v0 7).toInt ∧ (I v0 7).toInt ≤ 100000) {Q : Int32 → jZ → jI → jL → Prop} (hQ : ∀ (r : Int32) (Z' : jZ) (I' : jI) (L' : jL), WD Z' I' → BUD B Z' T → FR Ws_X12_stairs Z I Z' I' → CP Z Z' → ((I' v0 19).toInt = 0 ∧ r.toInt = stA (I uM) (I v0 19).toInt ∧ (0 ≤ r.toInt → (I' v0 0).toInt = r.toInt) ∧ (r.toInt < 0 → (I' v0 0).toInt = (I v0 0).toInt) ∧ (0 ≤ r.toInt → (I' v0 7).toInt = (I v0 7).toInt + 1) ∧ (r.toInt < 0 → (I' v0 7).toInt = (I v0 7).toInt)) → ((0 ≤ r.toInt → MF (cT (I uM) (I v0 19).toInt) Z I' v0 r.toInt) ∧ (r.toInt < 0 → ∀ j u, 1 ≤ j → j ≤ 5 → jr Z v0 j = some u → I' u = I u) ∧ (0 ≤ r.toInt → (I' v0 52).toInt = 0) ∧ (r.toInt < 0 → I' v0 52 = I v0 52)) → Q r Z' I' L') : f_X12_stairs B v0 Z I L Q := by
  obtain ⟨b9, e9, kuM, l9⟩ := sh_f w.1 kv0 (j := 18) (k := 13) (m := 80) rfl
  cases huM.symm.trans e9
  have hne : uM ≠ v0 := fun e => by subst e; have := kv0.2.symm.trans kuM.2; omega
  have sz : 0 ≤ (I v0 19).toInt ∧ (I v0 19).toInt ≤ 80 := w.fld 12 19 kv0 (by decide)
  have fk : ∀ {W : List (Nat × Nat)} {Z1 : jZ} {A C : jI}, FR W Z A Z1 C → ((12, 1) ∉ W ∧ (12, 2) ∉ W ∧ (12, 3) ∉ W ∧ (12, 4) ∉ W ∧ (12, 5) ∉ W) → ∀ j u, 1 ≤ j → j ≤ 5 → jr Z v0 j = some u → C u = A u := fun f hn j u hj hj' hu => by
    have hj : j = 1 ∨ j = 2 ∨ j = 3 ∨ j = 4 ∨ j = 5 := by omega
    rcases hj with rfl | rfl | rfl | rfl | rfl
    · obtain ⟨b, e, kb, -⟩ := sh_f w.1 kv0 (j := 1) (k := 14) (m := 24) rfl; cases hu.symm.trans e; exact f.2.2.2 v0 12 1 u kv0 hu (by rw [kb.2]; rfl) rfl hn.1
    · obtain ⟨b, e, kb, -⟩ := sh_f w.1 kv0 (j := 2) (k := 14) (m := 24) rfl; cases hu.symm.trans e; exact f.2.2.2 v0 12 2 u kv0 hu (by rw [kb.2]; rfl) rfl hn.2.1
    · obtain ⟨b, e, kb, -⟩ := sh_f w.1 kv0 (j := 3) (k := 14) (m := 24) rfl; cases hu.symm.trans e; exact f.2.2.2 v0 12 3 u kv0 hu (by rw [kb.2]; rfl) rfl hn.2.2.1
    · obtain ⟨b, e, kb, -⟩ := sh_f w.1 kv0 (j := 4) (k := 16) (m := 24) rfl; cases hu.symm.trans e; exact f.2.2.2 v0 12 4 u kv0 hu (by rw [kb.2]; rfl) rfl hn.2.2.2.1
    · obtain ⟨b, e, kb, -⟩ := sh_f w.1 kv0 (j := 5) (k := 14) (m := 192) rfl; cases hu.symm.trans e; exact f.2.2.2 v0 12 5 u kv0 hu (by rw [kb.2]; rfl) rfl hn.2.2.2.2
  unfold f_X12_stairs
  intro I1 e1 b eb
  cases huM.symm.trans eb
  have w1 : WD Z I1 := by rw [e1]; exact WD_putF w 12 22 kv0 (by decide) (by decide) trivial
  have f1' : FR [(12, 22)] Z I Z I1 := by rw [e1]; exact FR_putF kv0 (by decide) List.mem_cons_self
  have f1 : FR Ws_X12_stairs Z I Z I1 := f1'.mono (by decide)
  have z1 : I1 v0 19 = I v0 19 := by rw [e1, jpI_o (by decide)]
  have b1 : I1 uM = I uM := by rw [e1, jpI_ne hne]
  refine s_X12_begin w1 bd v0 uM (I1 v0 19) 76 kv0 kuM v0 12 18 kv0 huM (fun Z2 I2 L2 w2 bd2 f2 cp2 p2 => ?_)
  obtain ⟨r2, p24, p25, p26, p27⟩ := p2
  intro I3 e3
  have k2 : jk Z2 v0 12 := (f2.1 _ _ kv0).1
  have kM2 : jk Z2 uM 13 := (f2.1 _ _ kuM).1
  have lM2 : jlen Z2 uM = 80 := (f2.1 _ _ kuM).2.trans l9
  have h2M : jr Z2 v0 18 = some uM := (f2.2.1 v0 12 18 kv0 (by decide) (by decide)).trans huM
  have b2 : I2 uM = I1 uM := f2.2.2.2 v0 12 18 uM kv0 huM (by rw [kuM.2]; rfl) rfl (by decide)
  have w3 : WD Z2 I3 := by rw [e3]; exact WD_putF w2 12 19 k2 (by decide) (by decide) (show rg 0 80 _ from ⟨by decide, by decide⟩)
  have f2' : FR Ws_X12_stairs Z I Z2 I2 := f1.trans w.1 w.2.1 (f2.mono (by decide))
  have f3 : FR Ws_X12_stairs Z I Z2 I3 := f2'.trans w.1 w.2.1 (by rw [e3]; exact FR_putF k2 (by decide) (by decide))
  have f3' : FR [(12, 19), (12, 22), (12, 24), (12, 25), (12, 26), (12, 27)] Z I Z2 I3 := ((f1'.mono (by decide)).trans w.1 w.2.1 (f2.mono (by decide))).trans w.1 w.2.1 (by rw [e3]; exact FR_putF k2 (by decide) (by decide))
  have b3 : I3 uM = I uM := by rw [e3, jpI_ne hne, b2, b1]
  have z3 : (I3 v0 19).toInt = 0 := by rw [e3, jpI_at]; rfl
  have t : MT Z2 I3 v0 uM (I v0 19).toInt := ⟨w3, k2, h2M, r2, kM2, lM2, sz.1, sz.2⟩
  have s : MRc (cT (I uM) (I v0 19).toInt) 0 Z2 I3 v0 (I v0 19).toInt I3 0 (-1) := by
    refine ⟨⟨w3, fun u hu q hq => absurd hq (by omega)⟩, FR.rf, ?_, ?_, ?_, ?_⟩
    · rw [e3, jpI_o (by decide)]; exact p26
    · rw [e3, jpI_o (by decide)]; exact p27
    · rw [e3, jpI_o (by decide), p24, z1]
    · rw [e3, jpI_o (by decide)]; exact p25
  have fin : ∀ (r : Int32) (I' : jI) (a' F' n' : Int), MRc (cT (I uM) (I v0 19).toInt) n' Z2 I3 v0 (I v0 19).toInt I' a' F' → r.toInt = stA (I uM) (I v0 19).toInt → r.toInt < 0 → Q r Z2 I' L2 := by
    intro r I' a' F' n' s' e' hr
    refine hQ r Z2 I' L2 s'.1.1 bd2 (f3.trans w.1 w.2.1 (s'.2.1.mono (by decide))) cp2 ⟨?_, e', fun q => by omega, fun _ => ?_, fun q => by omega, fun _ => ?_⟩ ⟨fun q => absurd q (by omega), fun _ j u hj hj' hu => ?_, fun q => absurd q (by omega), fun _ => ?_⟩
    · rw [s'.2.1.2.2.1 v0 12 19 k2 (by decide) (by decide)]
      exact z3
    · rw [s'.2.1.2.2.1 v0 12 0 k2 (by decide) (by decide), e3, jpI_o (by decide), f2.2.2.1 v0 12 0 kv0 (by decide) (by decide), e1, jpI_o (by decide)]
    · rw [s'.2.1.2.2.1 v0 12 7 k2 (by decide) (by decide), e3, jpI_o (by decide), f2.2.2.1 v0 12 7 kv0 (by decide) (by decide), e1, jpI_o (by decide)]
    · exact fk ((f3'.mono (W' := [(12, 19), (12, 22), (12, 24), (12, 25), (12, 26), (12, 27), (12, 28)]) (by decide)).trans w.1 w.2.1 (s'.2.1.mono (by decide))) (by decide) j u hj hj' hu
    · rw [s'.2.1.2.2.1 v0 12 52 k2 (by decide) (by decide), f3'.2.2.1 v0 12 52 kv0 (by decide) (by decide)]
  have z0 : (0 : Int32).toInt = 0 := rfl
  have e24 : (I3 v0 24).toInt = (I v0 19).toInt := s.2.2.2.2.1
  unfold f_X12_stairs_b38
  refine ⟨fun c => ?_, fun c => ?_⟩
  · have c := (i_le e24 z0).mp c
    have hS : stA (I uM) (I v0 19).toInt = -100 := by unfold stA; rw [if_pos c]
    refine ⟨1, ?_⟩
    unfold f_X12_stairs_L39
    refine ⟨fun _ => ?_, fun c => absurd rfl c⟩
    have b102 : f_X12_stairs_b102 B Q v0 0 Z2 I3 L2 := by
      unfold f_X12_stairs_b102
      refine mc_fine s (fun _ => ⟨fun _ => ⟨fun c1 => absurd c1 (by decide), fun _ => fin _ I3 0 (-1) 0 s (by rw [hS]; rfl) (by decide)⟩, fun c => absurd c (by decide)⟩) (fun c => absurd rfl c)
    unfold f_X12_stairs_b83
    refine ⟨fun _ => b102, fun c1 => ?_⟩
    exact absurd ((i_le e24 s.2.2.1).mpr (by omega)) c1
  · have c := (not_congr (i_le e24 z0)).mp c
    refine ⟨79, mc_lines t (fun I' a F v1 s' e => ?_) 79 77 0 0 I3 (by rw [z0]; exact s) (by rw [z0]; omega) (by rw [z0]; omega) (by omega) (by omega) (by omega) (by omega) (by rw [z0]) (fun j q _ => by rw [z0, b3]; rfl)⟩
    refine mc_b83 t s' (by omega) e (fun r I'' a' F' s'' e' hr => fin r I'' a' F' _ s'' (by rw [b3] at e'; exact e') hr) (fun I'' a' F' s'' e' h2 I66 e66 => ?_)
    rw [b3] at e'
    have v24 : v1.toInt ≤ 24 := by
      have := rdS_hi (g := GS (I3 uM) (min (I v0 19).toInt 76)) (lim := min (I v0 19).toInt 76) 77 0 0 (by omega) (by omega)
      rcases e with ⟨q1, q2⟩ | ⟨q1, q2, q0, q3⟩ | ⟨q1, q2, q3⟩
      · rw [← q2] at this; exact this
      · rw [← q3] at this; exact this
      · rw [← q3] at this; exact this
    have w66 : WD Z2 I66 := by rw [e66]; exact WD_putF s''.1.1 12 0 k2 (by decide) (by decide) (show rg 0 24 _ from ⟨by omega, by omega⟩)
    have f66 : FR Ws_X12_stairs Z I Z2 I66 := (f3.trans w.1 w.2.1 (s''.2.1.mono (by decide))).trans w.1 w.2.1 (by rw [e66]; exact FR_putF k2 (by decide) (by decide))
    have z66 : (I66 v0 19).toInt = 0 := by
      rw [e66, jpI_o (by decide), s''.2.1.2.2.1 v0 12 19 k2 (by decide) (by decide)]
      exact z3
    have z60 : (I66 v0 0).toInt = v1.toInt := by rw [e66, jpI_at]
    have z67 : (I66 v0 7).toInt = (I v0 7).toInt := by rw [e66, jpI_o (by decide), s''.2.1.2.2.1 v0 12 7 k2 (by decide) (by decide), e3, jpI_o (by decide), f2.2.2.1 v0 12 7 kv0 (by decide) (by decide), e1, jpI_o (by decide)]
    obtain ⟨u1, h1, ku1, -⟩ := sh_f w66.1 k2 (j := 1) (k := 14) (m := 24) rfl
    obtain ⟨u2, h2', ku2, -⟩ := sh_f w66.1 k2 (j := 2) (k := 14) (m := 24) rfl
    obtain ⟨u3, h3, ku3, -⟩ := sh_f w66.1 k2 (j := 3) (k := 14) (m := 24) rfl
    obtain ⟨u4, h4, ku4, -⟩ := sh_f w66.1 k2 (j := 4) (k := 16) (m := 24) rfl
    obtain ⟨u5, h5, ku5, -⟩ := sh_f w66.1 k2 (j := 5) (k := 14) (m := 192) rfl
    obtain ⟨u28, h28, ku28, -⟩ := sh_f w66.1 k2 (j := 28) (k := 14) (m := 120) rfl
    obtain ⟨n, en⟩ : ∃ n : Nat, v1.toInt = (n : Int) := ⟨v1.toInt.toNat, by omega⟩
    have cm66 : CM (cT (I uM) (I v0 19).toInt) Z2 I66 v0 (n : Int) := by rw [e66, ← en]; exact CM_fld w3.1 k2 s''.1.2
    refine ⟨n + 1, st_L131 w66 v0 v1 k2 u1 u2 u3 u4 u5 u28 h1 h2' h3 h4 h5 h28 n en (by omega) (fun q => cS_w _ _ _ q) cm66 (fun I7 I38 I39 L7 w7 f7 m7 e38 e39 => ?_) (n + 1) 0 0 I66 L2 w66 FR.rf rfl (by omega) (fun q hq => absurd hq (by omega)) (by omega)⟩
    have w38 : WD Z2 I38 := by rw [e38]; exact WD_putF w7 12 7 k2 (by decide) (by decide) trivial
    have f38 : FR [(12, 1), (12, 2), (12, 3), (12, 4), (12, 5), (12, 7), (12, 52)] Z2 I66 Z2 I38 := (f7.mono (by decide)).trans w66.1 w66.2.1 (by rw [e38]; exact FR_putF k2 (by decide) (by decide))
    have w39 : WD Z2 I39 := by rw [e39]; exact WD_putF w38 12 52 k2 (by decide) (by decide) (show rg 0 8 _ from ⟨by decide, by decide⟩)
    have f39 : FR [(12, 1), (12, 2), (12, 3), (12, 4), (12, 5), (12, 7), (12, 52)] Z2 I66 Z2 I39 := f38.trans w66.1 w66.2.1 (by rw [e39]; exact FR_putF k2 (by decide) (by decide))
    have t7 : (I39 v0 7).toInt = (I v0 7).toInt + 1 := by
      rw [e39, jpI_o (by decide), e38, jpI_at, f7.2.2.1 v0 12 7 k2 (by decide) (by decide)]
      exact i_add z67 (show (1 : Int32).toInt = 1 from rfl) (by omega) (by omega)
    refine ⟨9, st_L280 w39 v0 v1 k2 (fun I8 L8 w8 f8 => ?_) 9 0 I39 L7 w39 FR.rf (by decide) (by decide) (by decide)⟩
    refine hQ v1 Z2 I8 L8 w8 bd2 ((f66.trans w.1 w.2.1 (f39.mono (by decide))).trans w.1 w.2.1 (f8.mono (by decide))) cp2 ⟨?_, e', fun _ => ?_, fun q => absurd q (by omega), fun _ => ?_, fun q => absurd q (by omega)⟩ ⟨fun _ => ?_, fun q => absurd q (by omega), fun _ => ?_, fun q => absurd q (by omega)⟩
    · rw [f8.2.2.1 v0 12 19 k2 (by decide) (by decide), f39.2.2.1 v0 12 19 k2 (by decide) (by decide)]; exact z66
    · rw [f8.2.2.1 v0 12 0 k2 (by decide) (by decide), f39.2.2.1 v0 12 0 k2 (by decide) (by decide)]; exact z60
    · rw [f8.2.2.1 v0 12 7 k2 (by decide) (by decide)]; exact t7
    · intro a1 a2 a3 a4 a5 x1 x2 x3 x4 x5
      have y : ∀ {j a b}, jr Z v0 j = some a → jr Z2 v0 j = some b → ¬ (j = 23) → b = a := fun {j a b} hx hy hj => by
        have := (f2.2.1 v0 12 j kv0 (by omega) (by omega)).trans hx
        exact Option.some.inj (hy.symm.trans this)
      cases y x1 h1 (by decide); cases y x2 h2' (by decide); cases y x3 h3 (by decide); cases y x4 h4 (by decide); cases y x5 h5 (by decide)
      rw [en, Int.toNat_natCast]
      intro q hq
      have q1 : I8 u1 = I7 u1 := by rw [f8.2.2.2 v0 12 1 u1 k2 h1 (by rw [ku1.2]; rfl) rfl (by decide), e39, jpI_ne (ks_ne ku1 k2 (by decide)), e38, jpI_ne (ks_ne ku1 k2 (by decide))]
      have q2 : I8 u2 = I7 u2 := by rw [f8.2.2.2 v0 12 2 u2 k2 h2' (by rw [ku2.2]; rfl) rfl (by decide), e39, jpI_ne (ks_ne ku2 k2 (by decide)), e38, jpI_ne (ks_ne ku2 k2 (by decide))]
      have q3 : I8 u3 = I7 u3 := by rw [f8.2.2.2 v0 12 3 u3 k2 h3 (by rw [ku3.2]; rfl) rfl (by decide), e39, jpI_ne (ks_ne ku3 k2 (by decide)), e38, jpI_ne (ks_ne ku3 k2 (by decide))]
      have q4 : I8 u4 = I7 u4 := by rw [f8.2.2.2 v0 12 4 u4 k2 h4 (by rw [ku4.2]; rfl) rfl (by decide), e39, jpI_ne (ks_ne ku4 k2 (by decide)), e38, jpI_ne (ks_ne ku4 k2 (by decide))]
      have q5 : I8 u5 = I7 u5 := by rw [f8.2.2.2 v0 12 5 u5 k2 h5 (by rw [ku5.2]; rfl) rfl (by decide), e39, jpI_ne (ks_ne ku5 k2 (by decide)), e38, jpI_ne (ks_ne ku5 k2 (by decide))]
      rw [q1, q2, q3, q4, q5]
      exact m7 q hq
    · rw [f8.2.2.1 v0 12 52 k2 (by decide) (by decide), e39, jpI_at]; rfl
end
