/-! ===== pilgrims on both sides ===== -/
/-- a pilgrim just told -/
def PVp (z : Nat → Int32) (v1 v2 v3 v4 : Int32) : Prop := z 0 = v1 ∧ z 1 = v2 ∧ z 2 = v3 ∧ z 3 = v4 ∧ z 4 = 0 ∧ z 5 = -1 ∧ z 6 = v1 ∧ z 7 = v2
def pvm (v1 v2 v3 v4 : Int32) : Nat → Int32 := fun m => match m with
  | 9 => v1
  | 10 => v2
  | 11 => v3
  | 12 => v4
  | 13 => 0
  | 14 => -1
  | 15 => v1
  | 16 => v2
  | _ => 0
/-- a cell that is there keeps its ints -/
def KA (a : Nat) (z : Nat → Int32) (Z : jZ) (I : jI) : Prop := a ∈ Z.1 ∧ I a = z
theorem KA_nw {a : Nat} {z : Nat → Int32} {Z : jZ} {I : jI} {q k m : Nat} (h : KA a z Z I) (hq : q ∉ Z.1) : KA a z (jnw Z q k m) (jz0 I q) := by
  have hne : a ≠ q := fun e => hq (by rw [← e]; exact h.1)
  exact ⟨List.mem_append_left _ h.1, (va_up_ne _ _ hne).trans h.2⟩
theorem KA_pR {a : Nat} {z : Nat → Int32} {Z : jZ} {I : jI} {b j : Nat} {v : Option Nat} (h : KA a z Z I) : KA a z (jpR Z b j v) I := ⟨h.1, h.2⟩
theorem KA_pI {a : Nat} {z : Nat → Int32} {Z : jZ} {I : jI} {b j : Nat} {v : Int32} (hne : a ≠ b) (h : KA a z Z I) : KA a z Z (jpI I b j v) := ⟨h.1, (va_up_ne _ _ hne).trans h.2⟩
theorem ka_X7_init {a : Nat} {z : Nat → Int32} {v0 : Nat} {Z : jZ} {I : jI} {L : jL} {Q : jZ → jI → jL → Prop} (hne : a ≠ v0) (h : KA a z Z I) (hQ : ∀ (Z' : jZ) (I' : jI) (L' : jL), KA a z Z' I' → Q Z' I' L') : f_X7_init v0 Z I L Q := by
  unfold f_X7_init
  intro q1 nq1 Z2 eZ2 I3 eI3 L4 eL4
  have hq1 : a ≠ q1 := fun e => nq1 (e ▸ h.1)
  have h := KA_nw (k := 15) (m := 64) h nq1
  rw [← eZ2, ← eI3] at h
  intro Z6 eZ6
  have h := KA_pR (b := v0) (j := 0) (v := some q1) h
  rw [← eZ6] at h
  intro q8 nq8 Z9 eZ9 I10 eI10 L11 eL11
  have hq8 : a ≠ q8 := fun e => nq8 (e ▸ h.1)
  have h := KA_nw (k := 14) (m := 25) h nq8
  rw [← eZ9, ← eI10] at h
  intro Z13 eZ13
  have h := KA_pR (b := v0) (j := 1) (v := some q8) h
  rw [← eZ13] at h
  intro q15 nq15 Z16 eZ16 I17 eI17 L18 eL18
  have hq15 : a ≠ q15 := fun e => nq15 (e ▸ h.1)
  have h := KA_nw (k := 14) (m := 25) h nq15
  rw [← eZ16, ← eI17] at h
  intro Z20 eZ20
  have h := KA_pR (b := v0) (j := 2) (v := some q15) h
  rw [← eZ20] at h
  intro I22 eI22
  have h := KA_pI (b := v0) (j := 3) (v := (0 : Int32)) hne h
  rw [← eI22] at h
  intro q23 nq23 Z24 eZ24 I25 eI25 L26 eL26
  have hq23 : a ≠ q23 := fun e => nq23 (e ▸ h.1)
  have h := KA_nw (k := 14) (m := 3) h nq23
  rw [← eZ24, ← eI25] at h
  intro Z28 eZ28
  have h := KA_pR (b := v0) (j := 4) (v := some q23) h
  rw [← eZ28] at h
  intro q30 nq30 Z31 eZ31 I32 eI32 L33 eL33
  have hq30 : a ≠ q30 := fun e => nq30 (e ▸ h.1)
  have h := KA_nw (k := 14) (m := 3) h nq30
  rw [← eZ31, ← eI32] at h
  intro Z35 eZ35
  have h := KA_pR (b := v0) (j := 5) (v := some q30) h
  rw [← eZ35] at h
  intro q37 nq37 Z38 eZ38 I39 eI39 L40 eL40
  have hq37 : a ≠ q37 := fun e => nq37 (e ▸ h.1)
  have h := KA_nw (k := 15) (m := 3) h nq37
  rw [← eZ38, ← eI39] at h
  intro Z42 eZ42
  have h := KA_pR (b := v0) (j := 6) (v := some q37) h
  rw [← eZ42] at h
  intro q44 nq44 Z45 eZ45 I46 eI46 L47 eL47
  have hq44 : a ≠ q44 := fun e => nq44 (e ▸ h.1)
  have h := KA_nw (k := 15) (m := 3) h nq44
  rw [← eZ45, ← eI46] at h
  intro Z49 eZ49
  have h := KA_pR (b := v0) (j := 7) (v := some q44) h
  rw [← eZ49] at h
  intro I51 eI51
  have h := KA_pI (b := v0) (j := 8) (v := (0 : Int32)) hne h
  rw [← eI51] at h
  intro I52 eI52
  have h := KA_pI (b := v0) (j := 9) (v := (0 : Int32)) hne h
  rw [← eI52] at h
  exact hQ Z49 I52 L47 h
theorem ka_X6_init {a : Nat} {z : Nat → Int32} {v0 v1 : Nat} {v2 v3 v4 : Int32} {Z : jZ} {I : jI} {L : jL} {Q : jZ → jI → jL → Prop} (hne : a ≠ v0) (h : KA a z Z I) (hQ : ∀ (Z' : jZ) (I' : jI) (L' : jL), KA a z Z' I' → Q Z' I' L') : f_X6_init v0 v1 v2 v3 v4 Z I L Q := by
  unfold f_X6_init
  intro q1 nq1 Z2 eZ2 I3 eI3 L4 eL4
  have hq1 : a ≠ q1 := fun e => nq1 (e ▸ h.1)
  have h := KA_nw (k := 14) (m := 75) h nq1
  rw [← eZ2, ← eI3] at h
  intro Z7 eZ7
  have h := KA_pR (b := v0) (j := 4) (v := some q1) h
  rw [← eZ7] at h
  intro q10 nq10 Z11 eZ11 I12 eI12 L13 eL13
  have hq10 : a ≠ q10 := fun e => nq10 (e ▸ h.1)
  have h := KA_nw (k := 14) (m := 75) h nq10
  rw [← eZ11, ← eI12] at h
  intro Z16 eZ16
  have h := KA_pR (b := v0) (j := 5) (v := some q10) h
  rw [← eZ16] at h
  intro q19 nq19 Z20 eZ20 I21 eI21 L22 eL22
  have hq19 : a ≠ q19 := fun e => nq19 (e ▸ h.1)
  have h := KA_nw (k := 16) (m := 25) h nq19
  rw [← eZ20, ← eI21] at h
  intro Z25 eZ25
  have h := KA_pR (b := v0) (j := 6) (v := some q19) h
  rw [← eZ25] at h
  intro q28 nq28 Z29 eZ29 I30 eI30 L31 eL31
  have hq28 : a ≠ q28 := fun e => nq28 (e ▸ h.1)
  have h := KA_nw (k := 14) (m := 25) h nq28
  rw [← eZ29, ← eI30] at h
  intro Z34 eZ34
  have h := KA_pR (b := v0) (j := 7) (v := some q28) h
  rw [← eZ34] at h
  intro q37 nq37 Z38 eZ38 I39 eI39 L40 eL40
  have hq37 : a ≠ q37 := fun e => nq37 (e ▸ h.1)
  have h := KA_nw (k := 14) (m := 25) h nq37
  rw [← eZ38, ← eI39] at h
  intro Z43 eZ43
  have h := KA_pR (b := v0) (j := 8) (v := some q37) h
  rw [← eZ43] at h
  intro q46 nq46 Z47 eZ47 I48 eI48 L49 eL49
  have hq46 : a ≠ q46 := fun e => nq46 (e ▸ h.1)
  have h := KA_nw (k := 7) (m := 0) h nq46
  rw [← eZ47, ← eI48] at h
  refine ka_X7_init hq46 h (fun Z53 I54 L55 h => ?_)
  intro Z61 eZ61
  have h := KA_pR (b := v0) (j := 9) (v := some q46) h
  rw [← eZ61] at h
  intro q64 nq64 Z65 eZ65 I66 eI66 L67 eL67
  have hq64 : a ≠ q64 := fun e => nq64 (e ▸ h.1)
  have h := KA_nw (k := 7) (m := 0) h nq64
  rw [← eZ65, ← eI66] at h
  refine ka_X7_init hq64 h (fun Z71 I72 L73 h => ?_)
  intro Z79 eZ79
  have h := KA_pR (b := v0) (j := 10) (v := some q64) h
  rw [← eZ79] at h
  intro q82 nq82 Z83 eZ83 I84 eI84 L85 eL85
  have hq82 : a ≠ q82 := fun e => nq82 (e ▸ h.1)
  have h := KA_nw (k := 15) (m := 21) h nq82
  rw [← eZ83, ← eI84] at h
  intro Z88 eZ88
  have h := KA_pR (b := v0) (j := 11) (v := some q82) h
  rw [← eZ88] at h
  intro q91 nq91 Z92 eZ92 I93 eI93 L94 eL94
  have hq91 : a ≠ q91 := fun e => nq91 (e ▸ h.1)
  have h := KA_nw (k := 14) (m := 21) h nq91
  rw [← eZ92, ← eI93] at h
  intro Z97 eZ97
  have h := KA_pR (b := v0) (j := 12) (v := some q91) h
  rw [← eZ97] at h
  intro q100 nq100 Z101 eZ101 I102 eI102 L103 eL103
  have hq100 : a ≠ q100 := fun e => nq100 (e ▸ h.1)
  have h := KA_nw (k := 14) (m := 21) h nq100
  rw [← eZ101, ← eI102] at h
  intro Z106 eZ106
  have h := KA_pR (b := v0) (j := 13) (v := some q100) h
  rw [← eZ106] at h
  intro I109 eI109
  have h := KA_pI (b := v0) (j := 14) (v := (0 : Int32)) hne h
  rw [← eI109] at h
  intro I110 eI110
  have h := KA_pI (b := v0) (j := 15) (v := (0 : Int32)) hne h
  rw [← eI110] at h
  intro Z111 eZ111
  have h := KA_pR (b := v0) (j := 0) (v := some v1) h
  rw [← eZ111] at h
  intro I114 eI114
  have h := KA_pI (b := v0) (j := 1) (v := v2) hne h
  rw [← eI114] at h
  intro I115 eI115
  have h := KA_pI (b := v0) (j := 2) (v := v3) hne h
  rw [← eI115] at h
  intro I116 eI116
  have h := KA_pI (b := v0) (j := 3) (v := v4) hne h
  rw [← eI116] at h
  exact hQ Z111 I116 L103 h
theorem ka_X5_init {v0 v1 : Nat} {v2 v3 v4 v5 : Int32} {Z : jZ} {I : jI} {L : jL} {Q : jZ → jI → jL → Prop} (hv : v0 ∈ Z.1) (hQ : ∀ (Z' : jZ) (I' : jI) (L' : jL), PVp (I' v0) v2 v3 v4 v5 → Q Z' I' L') : f_X5_init v0 v1 v2 v3 v4 v5 Z I L Q := by
  unfold f_X5_init
  intro I1 eI1
  intro I2 eI2
  intro I3 eI3
  intro I4 eI4
  intro I5 eI5
  intro I6 eI6
  intro I7 eI7
  intro I8 eI8
  have h : KA v0 (I8 v0) Z I8 := ⟨hv, rfl⟩
  intro q9 nq9 Z10 eZ10 I11 eI11 L12 eL12
  have hq9 : v0 ≠ q9 := fun e => nq9 (e ▸ h.1)
  have h := KA_nw (k := 6) (m := 0) h nq9
  rw [← eZ10, ← eI11] at h
  refine ka_X6_init hq9 h (fun Z16 I17 L18 h => ?_)
  intro Z24 eZ24
  have h := KA_pR (b := v0) (j := 8) (v := some q9) h
  rw [← eZ24] at h
  exact hQ Z24 I17 L18 ⟨(by rw [h.2, eI8, jpI_o (by decide), eI7, jpI_o (by decide), eI6, jpI_o (by decide), eI5, jpI_o (by decide), eI4, jpI_o (by decide), eI3, jpI_at]), (by rw [h.2, eI8, jpI_o (by decide), eI7, jpI_o (by decide), eI6, jpI_o (by decide), eI5, jpI_o (by decide), eI4, jpI_at]), (by rw [h.2, eI8, jpI_o (by decide), eI7, jpI_o (by decide), eI6, jpI_o (by decide), eI5, jpI_at]), (by rw [h.2, eI8, jpI_o (by decide), eI7, jpI_o (by decide), eI6, jpI_at]), (by rw [h.2, eI8, jpI_o (by decide), eI7, jpI_o (by decide), eI6, jpI_o (by decide), eI5, jpI_o (by decide), eI4, jpI_o (by decide), eI3, jpI_o (by decide), eI2, jpI_o (by decide), eI1, jpI_at]), (by rw [h.2, eI8, jpI_o (by decide), eI7, jpI_o (by decide), eI6, jpI_o (by decide), eI5, jpI_o (by decide), eI4, jpI_o (by decide), eI3, jpI_o (by decide), eI2, jpI_at]), (by rw [h.2, eI8, jpI_o (by decide), eI7, jpI_at]), (by rw [h.2, eI8, jpI_at])⟩
theorem cj2_X5_init {v0 v1 : Nat} {v2 v3 v4 v5 : Int32} {Z : jZ} {I : jI} {L : jL} {Q1 Q3 : jZ → jI → jL → Prop} (h1 : f_X5_init v0 v1 v2 v3 v4 v5 Z I L Q1) (h2 : f_X5_init v0 v1 v2 v3 v4 v5 Z I L (fun Z I L => Q1 Z I L → Q3 Z I L)) : f_X5_init v0 v1 v2 v3 v4 v5 Z I L Q3 := cj_X5_init h1 h2 (fun _ _ _ a b => b a)
/-- what becomes of the pilgrims' row -/
def NPp (Z : jZ) (I : jI) (Z' : jZ) (I' : jI) (v0 : Nat) (v1 v2 v3 v4 r : Int32) : Prop := (r.toInt = -1 ∧ Z' = Z ∧ I' = I) ∨ (¬ r.toInt = -1 ∧ ∀ A, jr Z v0 3 = some A → jr Z' v0 3 = some A ∧ (∀ i, i ≠ (I v0 4).toNatClampNeg → jr Z' A i = jr Z A i) ∧ ∃ q, jr Z' A (I v0 4).toNatClampNeg = some q ∧ jk Z' q 5 ∧ PVp (I' q) v1 v2 v3 v4)
set_option maxHeartbeats 4000000 in
theorem s12_X11_pilgrim {B : Nat × Nat} {T : Nat} {Z : jZ} {I : jI} {L : jL} (w : WD Z I) (bd : BUD B Z T) (v0 : Nat) (v1 v2 v3 v4 : Int32) (kv0 : jk Z v0 11) (ht : (I v0 4).toInt + (T : Int) = 6) {Q : Int32 → jZ → jI → jL → Prop}
    (hQ : ∀ (r : Int32) (Z' : jZ) (I' : jI) (L' : jL) (T' : Nat), WD Z' I' → BUD B Z' T' → (I' v0 4).toInt + (T' : Int) = 6 → jext Z Z' → jle Z Z' → FRp Z I Z' I' → PSp v0 v1 v2 v3 v4 r I I' → NPp Z I Z' I' v0 v1 v2 v3 v4 r → Q r Z' I' L') : f_X11_pilgrim v0 v1 v2 v3 v4 Z I L Q := by
  have no : ∀ s0 : Int32, ((s0 = 0 ∧ ¬ FITp v1 v2 v3 v4) ∨ (s0 = 1 ∧ FITp v1 v2 v3 v4)) → f_X11_pilgrim_b49 Q v0 v1 v2 v3 v4 s0 Z I L := by
    intro s0 hs0
    unfold f_X11_pilgrim_b49
    have fr0 : FRp Z I Z I := ⟨fun _ _ _ _ _ => rfl, fun _ _ _ _ _ => rfl⟩
    refine ⟨fun c0 => hQ _ _ _ _ T w bd ht jext_rfl jle_rfl fr0 (Or.inl ⟨rfl, rfl, fun g => ?_⟩) (Or.inl ⟨rfl, rfl, rfl⟩), fun c0 => ⟨fun c1 => ?_, fun c1 => hQ _ _ _ _ T w bd ht jext_rfl jle_rfl fr0 (Or.inl ⟨rfl, rfl, fun g => c1 ((i_lt rfl (show (6 : Int32).toInt = 6 from rfl)).mpr g.2)⟩) (Or.inl ⟨rfl, rfl, rfl⟩)⟩⟩
    · rcases hs0 with h | h
      · exact h.2 g.1
      · rw [h.1] at c0; cases c0
    have hF : FITp v1 v2 v3 v4 := (hs0.resolve_left (fun h => c0 h.1)).2
    have hl : 1 ≤ v3.toInt ∧ v3.toInt ≤ 3 := ⟨hF.2.2.2.2.1, hF.2.2.2.2.2.1⟩
    have t1 : (I v0 4).toInt < 6 := (i_lt rfl (show (6 : Int32).toInt = 6 from rfl)).mp c1
    have t0 : 0 ≤ (I v0 4).toInt ∧ (I v0 4).toInt ≤ 6 := w.fld 11 4 kv0 (by decide)
    intro b3 e3 q nq Z5 eZ5 I6 eI6 L7 eL7 b11 e11
    have hne : v0 ≠ q := fun e => nq (e ▸ kv0.1)
    obtain ⟨b8, f8, k8⟩ := sh_o w.1 kv0 (j := 2) (k := 8) rfl
    have : b11 = b8 := by
      rw [eZ5, jr_old hne, f8] at e11
      exact (Option.some.inj e11).symm
    subst this
    obtain ⟨b9, f9, k9, l9⟩ := sh_f w.1 kv0 (j := 3) (k := 18) (m := 6) rfl
    cases e3.symm.trans f9
    have c0' := CW_nw 5 0 (CW_start w.2) nq
    rw [← eZ5, ← eI6] at c0'
    refine cj2_X5_init (ka_X5_init (Q := fun _ I' _ => PVp (I' q) v1 v2 v3 v4) (by rw [eZ5]; exact jk_nw.1) (fun _ _ _ h => h)) ?_
    refine cw_X5_init v1 v2 v3 v4 k8 ⟨by omega, hl.2⟩ I Z5 I6 L7 [] q 1 (0 + jcs 5 0) 0 _ c0' (by rw [eZ5]; exact jk_nw) List.not_mem_nil (fun j => by rw [eZ5]; exact jr_new) (fun j => by rw [eI6]; exact congrFun (va_up_self _ _ _) j) (fun Z13 I14 L15 c1 kq nhq _ x1 _ => ?_)
    intro hpv
    have w1 : WD Z13 I14 := ⟨CW_SH c1 w.1, c1.2.2.2.1⟩
    have k3 : jk Z13 b3 18 := (c1.1 _ _ k9).1
    have kv : jk Z13 v0 11 := (c1.1 _ _ kv0).1
    have ev : I14 v0 = I v0 := (c1.2.1 v0 kv0.1).2
    refine ⟨vi_of rfl (by omega) (by omega), ?_⟩
    intro Z22 eZ22 I24 eI24
    have w2 : WD Z22 I14 := by rw [eZ22]; exact WD_put18 w1 k3 kq nhq
    have t2 : (I14 v0 4).toInt = (I v0 4).toInt := by rw [ev]
    have t3 : ((I14 v0 4) + (1 : Int32)).toInt = (I v0 4).toInt + 1 := (i_add rfl (show (1 : Int32).toInt = 1 from rfl) (by omega) (by omega)).trans (by omega)
    have kv' : jk Z22 v0 11 := by rw [eZ22]; exact kv
    have w3 : WD Z22 I24 := by rw [eI24]; exact WD_putF w2 11 4 kv' (by decide) (by decide) (by constructor <;> omega)
    refine ⟨w2.1, hQ _ _ _ _ (T - 1) w3 ?_ ?_ ?_ ?_ ⟨fun a c j ha h18 => ?_, fun a c j ha h11 => ?_⟩ (Or.inr ⟨?_, ?_, hF, t1⟩) (Or.inr ⟨?_, fun A hA => ?_⟩)⟩
    · obtain ⟨hb1, hb2⟩ := bd
      obtain ⟨g1, g2, g3⟩ := c1.2.2.2.2.2.1
      have hp : potc Z22 = potc Z13 := by rw [eZ22]; exact potc_put k3 (by omega) (by omega)
      have hc : jcz Z22 = jcz Z13 := by rw [eZ22]; rfl
      have hs : jsz Z22 = jsz Z13 := by rw [eZ22]; rfl
      have j5 : jcs 5 0 = 9 := rfl
      have hT : T = (T - 1) + 1 := by omega
      constructor
      · rw [hp, hc]; omega
      · rw [hp, hs]; omega
    · rw [eI24, jpI_at]; omega
    · have x2 : jext Z Z13 := c1.1
      rw [eZ22]; exact jext_trans x2 jext_putr
    · rw [eZ22]; exact jle_ext w.2.1 (jext_trans c1.1 jext_putr)
    · have hna : a ≠ b3 := fun e => by subst e; exact h18 (ha.2.symm.trans k9.2)
      rw [eZ22, jrR_ne hna]
      exact congrFun (c1.2.1 a ha.1).1 j
    · rw [eI24]
      by_cases e : a = v0
      · subst e
        have hj : j ≠ 4 := fun q => h11 ⟨ha.2.symm.trans kv0.2, q⟩
        show va_up I14 a (upd (I14 a) 4 _) a j = _
        rw [va_up_self]
        exact (if_neg hj).trans (by rw [ev])
      · show va_up I14 v0 _ a j = _
        rw [va_up_ne _ _ e]
        exact congrFun (c1.2.1 a ha.1).2 j
    · rw [eI24, jpI_at]
      exact (i_sub t3 (show (1 : Int32).toInt = 1 from rfl) (by omega) (by omega)).trans (by omega)
    · rw [eI24, jpI_at]; exact t3
    · rw [eI24, jpI_at]
      have h9 := i_sub t3 (show (1 : Int32).toInt = 1 from rfl) (by omega) (by omega)
      omega
    · cases e3.symm.trans hA
      have n3 : v0 ≠ b3 := fun e => by subst e; have := kv0.2.symm.trans k9.2; omega
      refine ⟨?_, fun i hi => ?_, q, ?_, ?_, ?_⟩
      · rw [eZ22, jrR_ne n3]
        exact (congrFun (c1.2.1 v0 kv0.1).1 3).trans e3
      · rw [eZ22, jrR_off hi]
        exact congrFun (c1.2.1 b3 k9.1).1 i
      · rw [eZ22]; exact jrR_at
      · rw [eZ22]; exact kq
      · have e9 : I24 q = I14 q := by rw [eI24]; exact jpI_ne (fun e => hne e.symm)
        rw [e9]; exact hpv
  unfold f_X11_pilgrim f_X11_pilgrim_b48
  refine ⟨fun c => no 0 (Or.inl ⟨rfl, fun g => ?_⟩), fun c0 => ?_⟩
  · have h := (i_lt (x := v1) (y := 1) rfl (show (1 : Int32).toInt = 1 from rfl)).mp c
    unfold FITp at g
    omega
  have h0 := (not_congr (i_lt (x := v1) (y := 1) rfl (show (1 : Int32).toInt = 1 from rfl))).mp c0
  refine ⟨fun c => no 0 (Or.inl ⟨rfl, fun g => ?_⟩), fun c1 => ?_⟩
  · have h := (i_lt (x := 120) (y := v1) (show (120 : Int32).toInt = 120 from rfl) rfl).mp c
    unfold FITp at g
    omega
  have h1 := (not_congr (i_lt (x := 120) (y := v1) (show (120 : Int32).toInt = 120 from rfl) rfl)).mp c1
  refine ⟨fun c => no 0 (Or.inl ⟨rfl, fun g => ?_⟩), fun c2 => ?_⟩
  · have h := (i_lt (x := v2) (y := 0) rfl (show (0 : Int32).toInt = 0 from rfl)).mp c
    unfold FITp at g
    omega
  have h2 := (not_congr (i_lt (x := v2) (y := 0) rfl (show (0 : Int32).toInt = 0 from rfl))).mp c2
  refine ⟨fun c => no 0 (Or.inl ⟨rfl, fun g => ?_⟩), fun c3 => ?_⟩
  · have h := (i_lt (x := 999) (y := v2) (show (999 : Int32).toInt = 999 from rfl) rfl).mp c
    unfold FITp at g
    omega
  have h3 := (not_congr (i_lt (x := 999) (y := v2) (show (999 : Int32).toInt = 999 from rfl) rfl)).mp c3
  refine ⟨fun c => no 0 (Or.inl ⟨rfl, fun g => ?_⟩), fun c4 => ?_⟩
  · have h := (i_lt (x := v3) (y := 1) rfl (show (1 : Int32).toInt = 1 from rfl)).mp c
    unfold FITp at g
    omega
  have h4 := (not_congr (i_lt (x := v3) (y := 1) rfl (show (1 : Int32).toInt = 1 from rfl))).mp c4
  refine ⟨fun c => no 0 (Or.inl ⟨rfl, fun g => ?_⟩), fun c5 => ?_⟩
  · have h := (i_lt (x := 3) (y := v3) (show (3 : Int32).toInt = 3 from rfl) rfl).mp c
    unfold FITp at g
    omega
  have h5 := (not_congr (i_lt (x := 3) (y := v3) (show (3 : Int32).toInt = 3 from rfl) rfl)).mp c5
  refine ⟨fun c => no 0 (Or.inl ⟨rfl, fun g => ?_⟩), fun c6 => ?_⟩
  · have h := (i_lt (x := v4) (y := 0) rfl (show (0 : Int32).toInt = 0 from rfl)).mp c
    unfold FITp at g
    omega
  have h6 := (not_congr (i_lt (x := v4) (y := 0) rfl (show (0 : Int32).toInt = 0 from rfl))).mp c6
  refine ⟨fun c => no 0 (Or.inl ⟨rfl, fun g => ?_⟩), fun c7 => ?_⟩
  · have h := (i_lt (x := 50) (y := v4) (show (50 : Int32).toInt = 50 from rfl) rfl).mp c
    unfold FITp at g
    omega
  have h7 := (not_congr (i_lt (x := 50) (y := v4) (show (50 : Int32).toInt = 50 from rfl) rfl)).mp c7
  refine no 1 (Or.inr ⟨rfl, ?_⟩)
  unfold FITp
  omega
theorem dne {Z : jZ} {v0 c j j' b b' : Nat} (u : UQ Z) (k : jk Z v0 c) (h : jr Z v0 j = some b) (h' : jr Z v0 j' = some b') (s : jsr c j = false) (s' : jsr c j' = false) (n : j ≠ j') : b ≠ b' := fun e => by
  subst e
  exact n (u.2.2 v0 c j v0 c j' b k k h h' s s').2
theorem kne {Z : jZ} {a b c d : Nat} (h : jk Z a c) (g : jk Z b d) (n : c ≠ d) : a ≠ b := fun e => by
  subst e
  exact n (h.2.symm.trans g.2)
/-- what becomes of the reference's rows -/
def NQm (Z : jZ) (I I' : jI) (v0 : Nat) (v1 v2 v3 v4 r : Int32) : Prop := (r.toInt = -1 ∧ ∀ a, a ≠ v0 → I' a = I a) ∨ (¬ r.toInt = -1 ∧ ∀ m u, 9 ≤ m → m ≤ 16 → jr Z v0 m = some u → I' u = upd (I u) (I v0 8).toNatClampNeg (pvm v1 v2 v3 v4 m))
set_option maxHeartbeats 4000000 in
theorem m12_X12_pilgrim {Z : jZ} {I : jI} {L : jL} (w : WD Z I) (v0 : Nat) (v1 v2 v3 v4 : Int32) (kv0 : jk Z v0 12) {Q : Int32 → jI → jL → Prop}
    (hQ : ∀ (r : Int32) (I' : jI) (L' : jL), WD Z I' → FR Ws_X12_pilgrim Z I Z I' → ((r.toInt = -1 ∧ (I' v0 8).toInt = (I v0 8).toInt ∧ ¬ (FITp v1 v2 v3 v4 ∧ (I v0 8).toInt < 6)) ∨ (r.toInt = (I v0 8).toInt ∧ (I' v0 8).toInt = (I v0 8).toInt + 1 ∧ FITp v1 v2 v3 v4 ∧ (I v0 8).toInt < 6)) → NQm Z I I' v0 v1 v2 v3 v4 r → Q r I' L') : f_X12_pilgrim v0 v1 v2 v3 v4 Z I L Q := by
  unfold f_X12_pilgrim
  intro I1 e1
  have w1 : WD Z I1 := by rw [e1]; exact WD_putF w 12 22 kv0 (by decide) (by decide) trivial
  have f1 : FR Ws_X12_pilgrim Z I Z I1 := by rw [e1]; exact FR_putF kv0 (by decide) (by decide)
  have o1 : ∀ a, a ≠ v0 → I1 a = I a := fun a ha => by rw [e1]; exact jpI_ne ha
  have s1 : I1 v0 8 = I v0 8 := by rw [e1]; exact jpI_o (by decide)
  have bad : ¬ (FITp v1 v2 v3 v4 ∧ (I v0 8).toInt < 6) → Q (-1 : Int32) I1 L := fun h => hQ _ I1 L w1 f1 (Or.inl ⟨rfl, by rw [s1], h⟩) (Or.inl ⟨rfl, o1⟩)
  have t8 : 0 ≤ (I v0 8).toInt ∧ (I v0 8).toInt ≤ 6 := w.fld 12 8 kv0 (by decide)
  have z0 : (0 : Int32).toInt = 0 := rfl
  have z1 : (1 : Int32).toInt = 1 := rfl
  have z3 : (3 : Int32).toInt = 3 := rfl
  have z50 : (50 : Int32).toInt = 50 := rfl
  have z120 : (120 : Int32).toInt = 120 := rfl
  have z999 : (999 : Int32).toInt = 999 := rfl
  unfold FITp at bad hQ
  refine s_X12_in w1 _ _ _ (fun r1 p1 => ⟨fun c1 => bad (by have h9 := (i_eq rfl z0).mp c1; omega), fun c1 => ?_⟩)
  have c1 := (not_congr (i_eq rfl z0)).mp c1
  refine s_X12_in w1 _ _ _ (fun r2 p2 => ⟨fun c2 => bad (by have h9 := (i_eq rfl z0).mp c2; omega), fun c2 => ?_⟩)
  have c2 := (not_congr (i_eq rfl z0)).mp c2
  refine s_X12_in w1 _ _ _ (fun r3 p3 => ⟨fun c3 => bad (by have h9 := (i_eq rfl z0).mp c3; omega), fun c3 => ?_⟩)
  have c3 := (not_congr (i_eq rfl z0)).mp c3
  refine s_X12_in w1 _ _ _ (fun r4 p4 => ⟨fun c4 => bad (by have h9 := (i_eq rfl z0).mp c4; omega), fun c4 => ?_⟩)
  have c4 := (not_congr (i_eq rfl z0)).mp c4
  refine ⟨fun c5 => ?_, fun c5 => bad (by have h9 := congrArg Int32.toInt c5; rw [s1, show (6 : Int32).toInt = 6 from rfl] at h9; omega)⟩
  have c5 := (not_congr (i_eq (x := I1 v0 8) (y := 6) rfl (show (6 : Int32).toInt = 6 from rfl))).mp c5
  rw [s1] at c5
  obtain ⟨u9, h9, k9, l9⟩ := sh_f w.1 kv0 (j := 9) (k := 14) (m := 6) rfl
  have n9 : v0 ≠ u9 := kne kv0 k9 (by decide)
  obtain ⟨u10, h10, k10, l10⟩ := sh_f w.1 kv0 (j := 10) (k := 14) (m := 6) rfl
  have n10 : v0 ≠ u10 := kne kv0 k10 (by decide)
  obtain ⟨u11, h11, k11, l11⟩ := sh_f w.1 kv0 (j := 11) (k := 14) (m := 6) rfl
  have n11 : v0 ≠ u11 := kne kv0 k11 (by decide)
  obtain ⟨u12, h12, k12, l12⟩ := sh_f w.1 kv0 (j := 12) (k := 14) (m := 6) rfl
  have n12 : v0 ≠ u12 := kne kv0 k12 (by decide)
  obtain ⟨u13, h13, k13, l13⟩ := sh_f w.1 kv0 (j := 13) (k := 14) (m := 6) rfl
  have n13 : v0 ≠ u13 := kne kv0 k13 (by decide)
  obtain ⟨u14, h14, k14, l14⟩ := sh_f w.1 kv0 (j := 14) (k := 14) (m := 6) rfl
  have n14 : v0 ≠ u14 := kne kv0 k14 (by decide)
  obtain ⟨u15, h15, k15, l15⟩ := sh_f w.1 kv0 (j := 15) (k := 14) (m := 6) rfl
  have n15 : v0 ≠ u15 := kne kv0 k15 (by decide)
  obtain ⟨u16, h16, k16, l16⟩ := sh_f w.1 kv0 (j := 16) (k := 14) (m := 6) rfl
  have n16 : v0 ≠ u16 := kne kv0 k16 (by decide)
  intro b9 e9
  cases h9.symm.trans e9
  refine ⟨vi_of (x := I1 v0 8) rfl (by rw [s1]; omega) (by rw [s1]; omega), ?_⟩
  intro J9 x9
  rw [s1] at x9
  have y9 : WD Z J9 := by rw [x9]; exact WD_putA w1 12 9 kv0 h9 k9 rfl rfl (by decide) ⟨by omega, by omega⟩
  have g9 : FR Ws_X12_pilgrim Z I Z J9 := f1.trans w.1 w.2.1 (by rw [x9]; exact FR_upA w1.2.1 kv0 h9 k9 rfl rfl (by decide))
  have t9 : J9 v0 8 = I v0 8 := by rw [x9, jpI_ne n9]; exact s1
  intro b10 e10
  cases h10.symm.trans e10
  refine ⟨vi_of (x := J9 v0 8) rfl (by rw [t9]; omega) (by rw [t9]; omega), ?_⟩
  intro J10 x10
  rw [t9] at x10
  have y10 : WD Z J10 := by rw [x10]; exact WD_putA y9 12 10 kv0 h10 k10 rfl rfl (by decide) ⟨by omega, by omega⟩
  have g10 : FR Ws_X12_pilgrim Z I Z J10 := g9.trans w.1 w.2.1 (by rw [x10]; exact FR_upA y9.2.1 kv0 h10 k10 rfl rfl (by decide))
  have t10 : J10 v0 8 = I v0 8 := by rw [x10, jpI_ne n10]; exact t9
  intro b11 e11
  cases h11.symm.trans e11
  refine ⟨vi_of (x := J10 v0 8) rfl (by rw [t10]; omega) (by rw [t10]; omega), ?_⟩
  intro J11 x11
  rw [t10] at x11
  have y11 : WD Z J11 := by rw [x11]; exact WD_putA y10 12 11 kv0 h11 k11 rfl rfl (by decide) ⟨by omega, by omega⟩
  have g11 : FR Ws_X12_pilgrim Z I Z J11 := g10.trans w.1 w.2.1 (by rw [x11]; exact FR_upA y10.2.1 kv0 h11 k11 rfl rfl (by decide))
  have t11 : J11 v0 8 = I v0 8 := by rw [x11, jpI_ne n11]; exact t10
  intro b12 e12
  cases h12.symm.trans e12
  refine ⟨vi_of (x := J11 v0 8) rfl (by rw [t11]; omega) (by rw [t11]; omega), ?_⟩
  intro J12 x12
  rw [t11] at x12
  have y12 : WD Z J12 := by rw [x12]; exact WD_putA y11 12 12 kv0 h12 k12 rfl rfl (by decide) ⟨by omega, by omega⟩
  have g12 : FR Ws_X12_pilgrim Z I Z J12 := g11.trans w.1 w.2.1 (by rw [x12]; exact FR_upA y11.2.1 kv0 h12 k12 rfl rfl (by decide))
  have t12 : J12 v0 8 = I v0 8 := by rw [x12, jpI_ne n12]; exact t11
  intro b13 e13
  cases h13.symm.trans e13
  refine ⟨vi_of (x := J12 v0 8) rfl (by rw [t12]; omega) (by rw [t12]; omega), ?_⟩
  intro J13 x13
  rw [t12] at x13
  have y13 : WD Z J13 := by rw [x13]; exact WD_putA y12 12 13 kv0 h13 k13 rfl rfl (by decide) trivial
  have g13 : FR Ws_X12_pilgrim Z I Z J13 := g12.trans w.1 w.2.1 (by rw [x13]; exact FR_upA y12.2.1 kv0 h13 k13 rfl rfl (by decide))
  have t13 : J13 v0 8 = I v0 8 := by rw [x13, jpI_ne n13]; exact t12
  intro b14 e14
  cases h14.symm.trans e14
  refine ⟨vi_of (x := J13 v0 8) rfl (by rw [t13]; omega) (by rw [t13]; omega), ?_⟩
  intro J14 x14
  rw [t13] at x14
  have y14 : WD Z J14 := by rw [x14]; exact WD_putA y13 12 14 kv0 h14 k14 rfl rfl (by decide) ⟨by decide, by decide⟩
  have g14 : FR Ws_X12_pilgrim Z I Z J14 := g13.trans w.1 w.2.1 (by rw [x14]; exact FR_upA y13.2.1 kv0 h14 k14 rfl rfl (by decide))
  have t14 : J14 v0 8 = I v0 8 := by rw [x14, jpI_ne n14]; exact t13
  intro b15 e15
  cases h15.symm.trans e15
  refine ⟨vi_of (x := J14 v0 8) rfl (by rw [t14]; omega) (by rw [t14]; omega), ?_⟩
  intro J15 x15
  rw [t14] at x15
  have y15 : WD Z J15 := by rw [x15]; exact WD_putA y14 12 15 kv0 h15 k15 rfl rfl (by decide) trivial
  have g15 : FR Ws_X12_pilgrim Z I Z J15 := g14.trans w.1 w.2.1 (by rw [x15]; exact FR_upA y14.2.1 kv0 h15 k15 rfl rfl (by decide))
  have t15 : J15 v0 8 = I v0 8 := by rw [x15, jpI_ne n15]; exact t14
  intro b16 e16
  cases h16.symm.trans e16
  refine ⟨vi_of (x := J15 v0 8) rfl (by rw [t15]; omega) (by rw [t15]; omega), ?_⟩
  intro J16 x16
  rw [t15] at x16
  have y16 : WD Z J16 := by rw [x16]; exact WD_putA y15 12 16 kv0 h16 k16 rfl rfl (by decide) trivial
  have g16 : FR Ws_X12_pilgrim Z I Z J16 := g15.trans w.1 w.2.1 (by rw [x16]; exact FR_upA y15.2.1 kv0 h16 k16 rfl rfl (by decide))
  have t16 : J16 v0 8 = I v0 8 := by rw [x16, jpI_ne n16]; exact t15
  intro J e
  have tJ : (J v0 8).toInt = (I v0 8).toInt + 1 := by rw [e, jpI_at, t16]; exact i_add rfl z1 (by omega) (by omega)
  have wJ : WD Z J := by rw [e]; exact WD_putF y16 12 8 kv0 (by decide) (by decide) (by rw [t16]; constructor <;> rw [i_add (x := I v0 8) rfl z1 (by omega) (by omega)] <;> omega)
  have fJ : FR Ws_X12_pilgrim Z I Z J := g16.trans w.1 w.2.1 (by rw [e]; exact FR_putF kv0 (by decide) (by decide))
  have rJ : (J v0 8 - 1).toInt = (I v0 8).toInt := (i_sub tJ z1 (by omega) (by omega)).trans (by omega)
  refine hQ _ J L wJ fJ (Or.inr ⟨rJ, tJ, by omega, by omega⟩) (Or.inr ⟨by omega, fun m u hm1 hm2 hu => ?_⟩)
  have hm : m = 9 ∨ m = 10 ∨ m = 11 ∨ m = 12 ∨ m = 13 ∨ m = 14 ∨ m = 15 ∨ m = 16 := by omega
  rcases hm with rfl | rfl | rfl | rfl | rfl | rfl | rfl | rfl
  · cases h9.symm.trans hu
    have b9 : I1 u9 = I u9 := by exact o1 u9 (fun e9 => n9 e9.symm)
    rw [e, jpI_ne (fun e9 => n9 e9.symm), x16, jpI_ne (dne w.2.1 kv0 h9 h16 rfl rfl (by decide)), x15, jpI_ne (dne w.2.1 kv0 h9 h15 rfl rfl (by decide)), x14, jpI_ne (dne w.2.1 kv0 h9 h14 rfl rfl (by decide)), x13, jpI_ne (dne w.2.1 kv0 h9 h13 rfl rfl (by decide)), x12, jpI_ne (dne w.2.1 kv0 h9 h12 rfl rfl (by decide)), x11, jpI_ne (dne w.2.1 kv0 h9 h11 rfl rfl (by decide)), x10, jpI_ne (dne w.2.1 kv0 h9 h10 rfl rfl (by decide)), x9, ← b9]
    exact va_up_self _ _ _
  · cases h10.symm.trans hu
    have b9 : J9 u10 = I u10 := by rw [x9, jpI_ne (dne w.2.1 kv0 h10 h9 rfl rfl (by decide))]; exact o1 u10 (fun e9 => n10 e9.symm)
    rw [e, jpI_ne (fun e9 => n10 e9.symm), x16, jpI_ne (dne w.2.1 kv0 h10 h16 rfl rfl (by decide)), x15, jpI_ne (dne w.2.1 kv0 h10 h15 rfl rfl (by decide)), x14, jpI_ne (dne w.2.1 kv0 h10 h14 rfl rfl (by decide)), x13, jpI_ne (dne w.2.1 kv0 h10 h13 rfl rfl (by decide)), x12, jpI_ne (dne w.2.1 kv0 h10 h12 rfl rfl (by decide)), x11, jpI_ne (dne w.2.1 kv0 h10 h11 rfl rfl (by decide)), x10, ← b9]
    exact va_up_self _ _ _
  · cases h11.symm.trans hu
    have b9 : J10 u11 = I u11 := by rw [x10, jpI_ne (dne w.2.1 kv0 h11 h10 rfl rfl (by decide)), x9, jpI_ne (dne w.2.1 kv0 h11 h9 rfl rfl (by decide))]; exact o1 u11 (fun e9 => n11 e9.symm)
    rw [e, jpI_ne (fun e9 => n11 e9.symm), x16, jpI_ne (dne w.2.1 kv0 h11 h16 rfl rfl (by decide)), x15, jpI_ne (dne w.2.1 kv0 h11 h15 rfl rfl (by decide)), x14, jpI_ne (dne w.2.1 kv0 h11 h14 rfl rfl (by decide)), x13, jpI_ne (dne w.2.1 kv0 h11 h13 rfl rfl (by decide)), x12, jpI_ne (dne w.2.1 kv0 h11 h12 rfl rfl (by decide)), x11, ← b9]
    exact va_up_self _ _ _
  · cases h12.symm.trans hu
    have b9 : J11 u12 = I u12 := by rw [x11, jpI_ne (dne w.2.1 kv0 h12 h11 rfl rfl (by decide)), x10, jpI_ne (dne w.2.1 kv0 h12 h10 rfl rfl (by decide)), x9, jpI_ne (dne w.2.1 kv0 h12 h9 rfl rfl (by decide))]; exact o1 u12 (fun e9 => n12 e9.symm)
    rw [e, jpI_ne (fun e9 => n12 e9.symm), x16, jpI_ne (dne w.2.1 kv0 h12 h16 rfl rfl (by decide)), x15, jpI_ne (dne w.2.1 kv0 h12 h15 rfl rfl (by decide)), x14, jpI_ne (dne w.2.1 kv0 h12 h14 rfl rfl (by decide)), x13, jpI_ne (dne w.2.1 kv0 h12 h13 rfl rfl (by decide)), x12, ← b9]
    exact va_up_self _ _ _
  · cases h13.symm.trans hu
    have b9 : J12 u13 = I u13 := by rw [x12, jpI_ne (dne w.2.1 kv0 h13 h12 rfl rfl (by decide)), x11, jpI_ne (dne w.2.1 kv0 h13 h11 rfl rfl (by decide)), x10, jpI_ne (dne w.2.1 kv0 h13 h10 rfl rfl (by decide)), x9, jpI_ne (dne w.2.1 kv0 h13 h9 rfl rfl (by decide))]; exact o1 u13 (fun e9 => n13 e9.symm)
    rw [e, jpI_ne (fun e9 => n13 e9.symm), x16, jpI_ne (dne w.2.1 kv0 h13 h16 rfl rfl (by decide)), x15, jpI_ne (dne w.2.1 kv0 h13 h15 rfl rfl (by decide)), x14, jpI_ne (dne w.2.1 kv0 h13 h14 rfl rfl (by decide)), x13, ← b9]
    exact va_up_self _ _ _
  · cases h14.symm.trans hu
    have b9 : J13 u14 = I u14 := by rw [x13, jpI_ne (dne w.2.1 kv0 h14 h13 rfl rfl (by decide)), x12, jpI_ne (dne w.2.1 kv0 h14 h12 rfl rfl (by decide)), x11, jpI_ne (dne w.2.1 kv0 h14 h11 rfl rfl (by decide)), x10, jpI_ne (dne w.2.1 kv0 h14 h10 rfl rfl (by decide)), x9, jpI_ne (dne w.2.1 kv0 h14 h9 rfl rfl (by decide))]; exact o1 u14 (fun e9 => n14 e9.symm)
    rw [e, jpI_ne (fun e9 => n14 e9.symm), x16, jpI_ne (dne w.2.1 kv0 h14 h16 rfl rfl (by decide)), x15, jpI_ne (dne w.2.1 kv0 h14 h15 rfl rfl (by decide)), x14, ← b9]
    exact va_up_self _ _ _
  · cases h15.symm.trans hu
    have b9 : J14 u15 = I u15 := by rw [x14, jpI_ne (dne w.2.1 kv0 h15 h14 rfl rfl (by decide)), x13, jpI_ne (dne w.2.1 kv0 h15 h13 rfl rfl (by decide)), x12, jpI_ne (dne w.2.1 kv0 h15 h12 rfl rfl (by decide)), x11, jpI_ne (dne w.2.1 kv0 h15 h11 rfl rfl (by decide)), x10, jpI_ne (dne w.2.1 kv0 h15 h10 rfl rfl (by decide)), x9, jpI_ne (dne w.2.1 kv0 h15 h9 rfl rfl (by decide))]; exact o1 u15 (fun e9 => n15 e9.symm)
    rw [e, jpI_ne (fun e9 => n15 e9.symm), x16, jpI_ne (dne w.2.1 kv0 h15 h16 rfl rfl (by decide)), x15, ← b9]
    exact va_up_self _ _ _
  · cases h16.symm.trans hu
    have b9 : J15 u16 = I u16 := by rw [x15, jpI_ne (dne w.2.1 kv0 h16 h15 rfl rfl (by decide)), x14, jpI_ne (dne w.2.1 kv0 h16 h14 rfl rfl (by decide)), x13, jpI_ne (dne w.2.1 kv0 h16 h13 rfl rfl (by decide)), x12, jpI_ne (dne w.2.1 kv0 h16 h12 rfl rfl (by decide)), x11, jpI_ne (dne w.2.1 kv0 h16 h11 rfl rfl (by decide)), x10, jpI_ne (dne w.2.1 kv0 h16 h10 rfl rfl (by decide)), x9, jpI_ne (dne w.2.1 kv0 h16 h9 rfl rfl (by decide))]; exact o1 u16 (fun e9 => n16 e9.symm)
    rw [e, jpI_ne (fun e9 => n16 e9.symm), x16, ← b9]
    exact va_up_self _ _ _
/-- of each told pilgrim a number is the same on both sides -/
def PRr (j : Nat) (Z : jZ) (I : jI) (v1 uA uM : Nat) : Prop := ∀ i : Nat, (i : Int) < (I v1 4).toInt → ∃ p, jr Z uA i = some p ∧ jk Z p 5 ∧ I p j = I uM i
theorem PRr_fr {W : List (Nat × Nat)} {j : Nat} {Z Z' : jZ} {I I' : jI} {v1 uA uM : Nat} (f : FR W Z I Z' I') (k1 : jk Z v1 11) (kA : jk Z uA 18) (eM : I' uM = I uM) (n0 : (11, 4) ∉ W) (n1 : (5, j) ∉ W) (h : PRr j Z I v1 uA uM) : PRr j Z' I' v1 uA uM := by
  intro i hi
  rw [f.2.2.1 v1 11 4 k1 (by decide) n0] at hi
  obtain ⟨p, hp, kp, e⟩ := h i hi
  refine ⟨p, (f.2.1 uA 18 i kA (by omega) (by omega)).trans hp, (f.1 _ _ kp).1, ?_⟩
  rw [f.2.2.1 p 5 j kp (by decide) n1, eM]
  exact e
theorem eMf {W : List (Nat × Nat)} {m : Nat} {Z Z' : jZ} {I I' : jI} {v2 uM : Nat} (f : FR W Z I Z' I') (k2 : jk Z v2 12) (hM : jr Z v2 m = some uM) (kM : jk Z uM 14) (hs : jsr 12 m = false) (n2 : (12, m) ∉ W) : I' uM = I uM := f.2.2.2 v2 12 m uM k2 hM (by rw [kM.2]; rfl) hs n2
theorem clampE {x y : Int32} (h : x.toInt = y.toInt) : x.toNatClampNeg = y.toNatClampNeg := by
  show x.toInt.toNat = y.toInt.toNat
  rw [h]
theorem PRr_pil {W : List (Nat × Nat)} {j m : Nat} {Z Z' : jZ} {I I' I2 : jI} {v1 v2 uA uM : Nat} {a1 a2 a3 a4 r1 r2 : Int32} (h : PRr j Z I v1 uA uM) (x : jext Z Z') (f : FRp Z I Z' I') (n : NPp Z I Z' I' v1 a1 a2 a3 a4 r1) (p : PSp v1 a1 a2 a3 a4 r1 I I') (f2 : FR W Z' I' Z' I2) (n2 : NQm Z' I' I2 v2 a1 a2 a3 a4 r2) (er : r1.toInt = r2.toInt) (e48 : (I v1 4).toInt = (I v2 8).toInt)
    (k1 : jk Z v1 11) (k2 : jk Z v2 12) (hA : jr Z v1 3 = some uA) (kM : jk Z uM 14) (hM : jr Z v2 m = some uM) (hm : 9 ≤ m ∧ m ≤ 16) (w1 : (5, j) ∉ W) (w2 : (11, 4) ∉ W) (hv : ∀ z, PVp z a1 a2 a3 a4 → z j = pvm a1 a2 a3 a4 m) : PRr j Z' I2 v1 uA uM := by
  have hM' : jr Z' v2 m = some uM := (f.1 v2 12 m k2 (by decide)).trans hM
  rcases n with ⟨hr, rfl, rfl⟩ | ⟨hr, hn⟩
  · rcases n2 with ⟨-, ho⟩ | ⟨hr2, -⟩
    · intro i hi
      rw [ho v1 (kne k1 k2 (by decide))] at hi
      obtain ⟨q, hq, kq, e⟩ := h i hi
      refine ⟨q, hq, kq, ?_⟩
      rw [ho q (kne kq k2 (by decide)), ho uM (kne kM k2 (by decide))]
      exact e
    · exact absurd (er.symm.trans hr) hr2
  · rcases n2 with ⟨hr2, -⟩ | ⟨-, ho⟩
    · exact absurd (er.trans hr2) hr
    · obtain ⟨-, hoff, q, hq, kq, pq⟩ := hn uA hA
      have e8 : I' v2 8 = I v2 8 := f.2 v2 12 8 k2 (by decide)
      have eN : (I v1 4).toNatClampNeg = (I' v2 8).toNatClampNeg := by rw [e8]; exact clampE e48
      have eU := ho m uM hm.1 hm.2 hM'
      have t : (I' v1 4).toInt = (I v1 4).toInt + 1 := by
        rcases p with ⟨h1, -⟩ | ⟨-, h2, -⟩
        · exact absurd h1 hr
        · exact h2
      have k1' := (x _ _ k1).1
      intro i hi
      rw [f2.2.2.1 v1 11 4 k1' (by decide) w2, t] at hi
      by_cases hin : i = (I v1 4).toNatClampNeg
      · refine ⟨q, by rw [hin]; exact hq, kq, ?_⟩
        rw [f2.2.2.1 q 5 j kq (by decide) w1, eU, hin, eN, hv _ pq]
        exact (if_pos rfl).symm
      · have hi0 : (i : Int) < (I v1 4).toInt := by
          have h0 : 0 ≤ (I v1 4).toInt ∨ (I v1 4).toInt < 0 := by omega
          rcases h0 with h0 | h0
          · have := i_nat (x := I v1 4) rfl h0
            omega
          · omega
        obtain ⟨b, hb, kb, e⟩ := h i hi0
        have kb' := (x _ _ kb).1
        refine ⟨b, (hoff i hin).trans hb, kb', ?_⟩
        rw [f2.2.2.1 b 5 j kb' (by decide) w1, eU, f.2 b 5 j kb (by omega), e]
        have e1 : upd (I' uM) (I' v2 8).toNatClampNeg (pvm a1 a2 a3 a4 m) i = I' uM i := if_neg (fun g => hin (by rw [eN]; exact g))
        rw [e1, f.2 uM 14 i kM (by omega)]
/-- vow on both sides -/
def VO11 (Z : jZ) (I I' : jI) (v0 uA : Nat) (v1 v2 r : Int32) : Prop := (r.toInt = -1 ∧ I' = I ∧ ¬ (0 ≤ v1.toInt ∧ v1.toInt < (I v0 4).toInt ∧ 0 ≤ v2.toInt ∧ v2.toInt ≤ 255)) ∨ ((0 ≤ v1.toInt ∧ v1.toInt < (I v0 4).toInt ∧ 0 ≤ v2.toInt ∧ v2.toInt ≤ 255) ∧ ∃ p, jr Z uA v1.toNatClampNeg = some p ∧ jk Z p 5 ∧ r = I p 4 ∧ I' = jpI I p 4 v2)
def VO12 (I I' : jI) (v0 uV : Nat) (v1 v2 r : Int32) : Prop := (r.toInt = -1 ∧ (∀ a, a ≠ v0 → I' a = I a) ∧ ¬ (0 ≤ v1.toInt ∧ v1.toInt < (I v0 8).toInt ∧ 0 ≤ v2.toInt ∧ v2.toInt ≤ 255)) ∨ ((0 ≤ v1.toInt ∧ v1.toInt < (I v0 8).toInt ∧ 0 ≤ v2.toInt ∧ v2.toInt ≤ 255) ∧ r = I uV v1.toNatClampNeg ∧ (∀ a, a ≠ v0 → a ≠ uV → I' a = I a) ∧ I' uV = upd (I uV) v1.toNatClampNeg v2)
theorem s12_X11_vow {Z : jZ} {I : jI} {L : jL} (w : WD Z I) (v0 : Nat) (v1 v2 : Int32) (kv0 : jk Z v0 11) (uA : Nat) (hA : jr Z v0 3 = some uA) (uV : Nat) (hp : PRr 4 Z I v0 uA uV) {Q : Int32 → jI → jL → Prop} (hQ : ∀ (r : Int32) (I' : jI) (L' : jL), WD Z I' → FR Ws_X11_vow Z I Z I' → VO11 Z I I' v0 uA v1 v2 r → Q r I' L') : f_X11_vow v0 v1 v2 Z I L Q := by
  have bad : ¬ (0 ≤ v1.toInt ∧ v1.toInt < (I v0 4).toInt ∧ 0 ≤ v2.toInt ∧ v2.toInt ≤ 255) → Q (-1 : Int32) I L := fun h => hQ _ I L w FR.rf (Or.inl ⟨rfl, rfl, h⟩)
  have t4 : 0 ≤ (I v0 4).toInt ∧ (I v0 4).toInt ≤ 6 := w.fld 11 4 kv0 (by decide)
  unfold f_X11_vow f_X11_find f_X11_find_b30
  refine ⟨fun c => ?_, fun c => ?_⟩
  · have c := (i_lt (x := v1) (y := 0) rfl (show (0 : Int32).toInt = 0 from rfl)).mp c
    exact ⟨fun _ => bad (by omega), fun b hb => (by cases hb)⟩
  have c := (not_congr (i_lt (x := v1) (y := 0) rfl (show (0 : Int32).toInt = 0 from rfl))).mp c
  refine ⟨fun c1 => ?_, fun c1 => ?_⟩
  · have c1 := (i_le (x := I v0 4) (y := v1) rfl rfl).mp c1
    exact ⟨fun _ => bad (by omega), fun b hb => (by cases hb)⟩
  have c1 := (not_congr (i_le (x := I v0 4) (y := v1) rfl rfl)).mp c1
  intro b3 e3
  refine ⟨fun c2 => ?_, fun c2 => ?_⟩
  · have c2 := (i_le (x := 6) (y := v1) (show (6 : Int32).toInt = 6 from rfl) rfl).mp c2
    exact absurd c2 (by omega)
  intro b5 e5
  cases hA.symm.trans e5
  have n1 := i_nat (x := v1) rfl (by omega)
  obtain ⟨p, hpp, kp, -⟩ := hp v1.toNatClampNeg (by omega)
  refine ⟨vi_of rfl (by omega) (by omega), fun hn => ?_, fun b7 h7 => ?_⟩
  · rw [hpp] at hn; cases hn
  cases hpp.symm.trans h7
  refine ⟨fun hn => (by cases hn), fun b8 h8 => ?_⟩
  cases h8
  refine ⟨fun c3 => ?_, fun c3 => ⟨fun c4 => ?_, fun c4 => ?_⟩⟩
  · have c3 := (i_lt (x := v2) (y := 0) rfl (show (0 : Int32).toInt = 0 from rfl)).mp c3
    exact bad (by omega)
  · have c3 := (not_congr (i_lt (x := v2) (y := 0) rfl (show (0 : Int32).toInt = 0 from rfl))).mp c3
    have c4 := (i_le (x := v2) (y := 255) rfl (show (255 : Int32).toInt = 255 from rfl)).mp c4
    intro x12 e12 I13 e13
    refine hQ x12 I13 L ?_ ?_ (Or.inr ⟨by omega, p, hpp, kp, e12, e13⟩)
    · rw [e13]; exact WD_putF w 5 4 kp (by decide) (by decide) trivial
    · rw [e13]; exact FR_putF kp (by decide) List.mem_cons_self
  · have c4 := (not_congr (i_le (x := v2) (y := 255) rfl (show (255 : Int32).toInt = 255 from rfl))).mp c4
    exact bad (by omega)
theorem s12_X12_vow {Z : jZ} {I : jI} {L : jL} (w : WD Z I) (v0 : Nat) (v1 v2 : Int32) (kv0 : jk Z v0 12) (uV : Nat) (hV : jr Z v0 13 = some uV) {Q : Int32 → jI → jL → Prop} (hQ : ∀ (r : Int32) (I' : jI) (L' : jL), WD Z I' → FR Ws_X12_vow Z I Z I' → VO12 I I' v0 uV v1 v2 r → Q r I' L') : f_X12_vow v0 v1 v2 Z I L Q := by
  obtain ⟨x, ex, kV, lV⟩ := sh_f w.1 kv0 (j := 13) (k := 14) (m := 6) rfl
  cases hV.symm.trans ex
  have nV : uV ≠ v0 := kne kV kv0 (by decide)
  unfold f_X12_vow
  intro I1 e1
  have w1 : WD Z I1 := by rw [e1]; exact WD_putF w 12 22 kv0 (by decide) (by decide) trivial
  have f1 : FR Ws_X12_vow Z I Z I1 := by rw [e1]; exact FR_putF kv0 (by decide) (by decide)
  have o1 : ∀ a, a ≠ v0 → I1 a = I a := fun a ha => by rw [e1]; exact jpI_ne ha
  have s8 : I1 v0 8 = I v0 8 := by rw [e1]; exact jpI_o (by decide)
  have z0 : (0 : Int32).toInt = 0 := rfl
  have z2 : (255 : Int32).toInt = 255 := rfl
  have bad : ¬ (0 ≤ v1.toInt ∧ v1.toInt < (I v0 8).toInt ∧ 0 ≤ v2.toInt ∧ v2.toInt ≤ 255) → Q (-1 : Int32) I1 L := fun h => hQ _ I1 L w1 f1 (Or.inl ⟨rfl, o1, h⟩)
  have t8 : 0 ≤ (I v0 8).toInt ∧ (I v0 8).toInt ≤ 6 := w.fld 12 8 kv0 (by decide)
  refine s_X12_isOne w1 v0 v1 kv0 (fun r p => ?_)
  rw [s8] at p
  refine ⟨fun c => ?_, fun c => ?_⟩
  · have c := (i_eq rfl z0).mp c
    exact bad (by omega)
  have c := (not_congr (i_eq rfl z0)).mp c
  refine s_X12_in w1 _ _ _ (fun r2 p2 => ?_)
  refine ⟨fun c2 => ?_, fun c2 => ?_⟩
  · have c2 := (not_congr (i_eq rfl z0)).mp c2
    have n1 := i_nat (x := v1) rfl (by omega)
    intro b18 e18
    cases hV.symm.trans e18
    refine ⟨vi_of rfl (by omega) (by omega), ?_⟩
    intro x20 e20 b21 e21
    cases hV.symm.trans e21
    refine ⟨vi_of rfl (by omega) (by omega), ?_⟩
    intro I23 e23
    refine hQ x20 I23 L ?_ ?_ (Or.inr ⟨by omega, ?_, fun a h1 h2 => ?_, ?_⟩)
    · rw [e23]; exact WD_putA w1 12 13 kv0 hV kV rfl rfl (by decide) trivial
    · refine f1.trans w.1 w.2.1 ?_
      rw [e23]; exact FR_upA w1.2.1 kv0 hV kV rfl rfl (by decide)
    · rw [e20, o1 uV nV]
    · rw [e23, jpI_ne h2, o1 a h1]
    · rw [e23, ← o1 uV nV]; exact va_up_self _ _ _
  · have c2 := (i_eq rfl z0).mp c2
    exact bad (by omega)
theorem PRr_vow {Z : jZ} {I0 I1 I2 : jI} {v1 v2 uA uV : Nat} {a b r1 r2 : Int32} (uq : UQ Z) (h : PRr 4 Z I0 v1 uA uV) (k1 : jk Z v1 11) (kA : jk Z uA 18) (k2 : jk Z v2 12) (kV : jk Z uV 14) (e48 : (I0 v1 4).toInt = (I0 v2 8).toInt) (p1 : VO11 Z I0 I1 v1 uA a b r1) (p2 : VO12 I1 I2 v2 uV a b r2) : r1.toInt = r2.toInt ∧ PRr 4 Z I2 v1 uA uV := by
  rcases p1 with ⟨h1, rfl, hn⟩ | ⟨hc, p, hp, kp, e1, e2⟩
  · rcases p2 with ⟨h2, ho, -⟩ | ⟨hc, -⟩
    · refine ⟨h1.trans h2.symm, fun i hi => ?_⟩
      rw [ho v1 (kne k1 k2 (by decide))] at hi
      obtain ⟨q, hq, kq, e⟩ := h i hi
      exact ⟨q, hq, kq, by rw [ho q (kne kq k2 (by decide)), ho uV (kne kV k2 (by decide))]; exact e⟩
    · exact absurd hc (by rw [← e48]; exact hn)
  · have o1 : ∀ x, x ≠ p → I1 x = I0 x := fun x hx => by rw [e2]; exact jpI_ne hx
    have np : uV ≠ p := kne kV kp (by decide)
    have n2 : v2 ≠ p := kne k2 kp (by decide)
    have n1 : v1 ≠ p := kne k1 kp (by decide)
    rcases p2 with ⟨-, -, hn⟩ | ⟨-, e3, ho, eV⟩
    · rw [o1 v2 n2] at hn
      exact absurd hc (by rw [e48]; exact hn)
    · obtain ⟨q, hq, kq, e⟩ := h a.toNatClampNeg (by have := i_nat (x := a) rfl hc.1; omega)
      cases hp.symm.trans hq
      refine ⟨by rw [e1, e3, e, o1 uV np], fun i hi => ?_⟩
      rw [ho v1 (kne k1 k2 (by decide)) (kne k1 kV (by decide)), o1 v1 n1] at hi
      obtain ⟨q', hq', kq', e'⟩ := h i hi
      refine ⟨q', hq', kq', ?_⟩
      rw [ho q' (kne kq' k2 (by decide)) (kne kq' kV (by decide)), eV, o1 uV np]
      by_cases hia : i = a.toNatClampNeg
      · have : q' = p := by rw [hia, hp] at hq'; exact (Option.some.inj hq').symm
        rw [this, e2, jpI_at, hia]
        exact (if_pos rfl).symm
      · have hne : q' ≠ p := fun g => by
          subst g
          exact hia (uq.2.2 uA 18 i uA 18 a.toNatClampNeg q' kA kA hq' hp rfl rfl).2
        rw [o1 q' hne, e']
        exact (if_neg hia).symm
/-- breaks of the reference leaves the vows as they were -/
theorem bk_L56 {B : Nat × Nat} {T : Nat} {Z0 : jZ} {I0 : jI} {Q : Int32 → jZ → jI → jL → Prop} (w0 : WD Z0 I0) (v0 : Nat) (v1 : Int32) (kv0 : jk Z0 v0 12) (uV : Nat) (hV : jr Z0 v0 13 = some uV) (v2 v3 : Int32) (hv3 : v3 = I0 uV v1.toNatClampNeg) (hp : 0 ≤ v1.toInt ∧ v1.toInt ≤ 5)
    (hQ : ∀ (r : Int32) (Z' : jZ) (I' : jI) (L' : jL), WD Z' I' → BUD B Z' T → FR Ws_X12_breaks Z0 I0 Z' I' → CP Z0 Z' → I' uV = I0 uV → Q r Z' I' L') :
    ∀ (n : Nat) (v4 v5 v6 : Int32) (Z : jZ) (I : jI) (L : jL), WD Z I → BUD B Z T → FR Ws_X12_breaks Z0 I0 Z I → CP Z0 Z → (∀ i, i ≠ v1.toNatClampNeg → I uV i = I0 uV i) → 1 ≤ (I v0 0).toInt → 0 ≤ v6.toInt → v6.toInt ≤ 8 → 9 ≤ (n : Int) + v6.toInt → f_X12_breaks_L56 B Q n v0 v1 v2 v3 v4 v5 v6 Z I L := by
  intro n
  induction n with
  | zero => intro v4 v5 v6 Z I L w bd q cp ho h0 h1 h2 h3; exfalso; omega
  | succ n ih =>
    intro v4 v5 v6 Z I L w bd q cp ho h0 h1 h2 h3
    have k := (q.1 _ _ kv0).1
    have hVZ : jr Z v0 13 = some uV := (q.2.1 v0 12 13 kv0 (by decide) (by decide)).trans hV
    obtain ⟨x, ex, kV, lV⟩ := sh_f w.1 k (j := 13) (k := 14) (m := 6) rfl
    cases hVZ.symm.trans ex
    have nV : uV ≠ v0 := kne kV k (by decide)
    have n1 := i_nat (x := v1) rfl hp.1
    unfold f_X12_breaks_L56
    refine ⟨fun c => ?_, fun c => ?_⟩
    · intro b4 e4
      cases hVZ.symm.trans e4
      refine ⟨vi_of rfl (by omega) (by omega), ?_⟩
      intro I6 e6
      have w6 : WD Z I6 := by rw [e6]; exact WD_putA w 12 13 k hVZ kV rfl rfl (by decide) trivial
      have q6 : FR Ws_X12_breaks Z0 I0 Z I6 := q.trans w0.1 w0.2.1 (by rw [e6]; exact FR_upA w.2.1 k hVZ kV rfl rfl (by decide))
      have eV : I6 uV = I0 uV := funext fun i => by
        by_cases hi : i = v1.toNatClampNeg
        · rw [e6, hi, jpI_at]; exact hv3
        · rw [e6, jpI_off hi]; exact ho i hi
      refine ⟨fun c4 => ?_, fun c4 => hQ _ Z I6 L w6 bd q6 cp eV⟩
      intro I8 e8
      have w8 : WD Z I8 := by rw [e8]; exact WD_putF w6 12 21 k (by decide) (by decide) ⟨by decide, by decide⟩
      have q8 : FR Ws_X12_breaks Z0 I0 Z I8 := q6.trans w0.1 w0.2.1 (by rw [e8]; exact FR_putF k (by decide) (by decide))
      have eV8 : I8 uV = I0 uV := by rw [e8, jpI_ne nV]; exact eV
      have t8 : (I8 v0 21).toInt = 0 := by rw [e8, jpI_at]; rfl
      refine s_X12_tell w8 v0 _ k (by omega) (fun I11 L12 w11 f11 p11 => ?_)
      refine s_X12_tell w11 v0 _ k (by omega) (fun I17 L18 w17 f17 p17 => ?_)
      refine hQ _ Z I17 L18 w17 bd ((q8.trans w0.1 w0.2.1 (f11.mono (by decide))).trans w0.1 w0.2.1 (f17.mono (by decide))) cp ?_
      rw [eMf f17 k hVZ kV rfl (by decide), eMf f11 k hVZ kV rfl (by decide)]
      exact eV8
    · have c := (not_congr (i_le (x := 8) (y := v6) (show (8 : Int32).toInt = 8 from rfl) rfl)).mp c
      have nx : ∀ x : Int32, x = v6 + 1 → x.toInt = v6.toInt + 1 := fun x e => by rw [e]; exact i_add rfl (show (1 : Int32).toInt = 1 from rfl) (by omega) (by omega)
      refine s_X12_has w v3 v6 (fun r27 => ⟨fun c27 => ?_, fun c27 => ?_⟩)
      · intro b29 e29
        cases hVZ.symm.trans e29
        refine ⟨vi_of rfl (by omega) (by omega), ?_⟩
        intro I31 e31
        have w31 : WD Z I31 := by rw [e31]; exact WD_putA w 12 13 k hVZ kV rfl rfl (by decide) trivial
        have q31 : FR Ws_X12_breaks Z0 I0 Z I31 := q.trans w0.1 w0.2.1 (by rw [e31]; exact FR_upA w.2.1 k hVZ kV rfl rfl (by decide))
        have o31 : ∀ i, i ≠ v1.toNatClampNeg → I31 uV i = I0 uV i := fun i hi => by rw [e31, jpI_off hi]; exact ho i hi
        have s31 : (I31 v0 0).toInt = (I v0 0).toInt := by rw [e31, jpI_ne (fun e => nV e.symm)]
        obtain ⟨b34, eb34, -⟩ := sh_f w31.1 k (j := 37) (k := 14) (m := 75) rfl
        obtain ⟨b35, eb35, -⟩ := sh_f w31.1 k (j := 38) (k := 14) (m := 75) rfl
        obtain ⟨b36, eb36, -⟩ := sh_f w31.1 k (j := 40) (k := 14) (m := 25000) rfl
        obtain ⟨b37, eb37, -⟩ := sh_f w31.1 k (j := 9) (k := 14) (m := 6) rfl
        obtain ⟨b38, eb38, -⟩ := sh_f w31.1 k (j := 44) (k := 14) (m := 24) rfl
        refine s_X12_findClimb w31 bd v0 v1 k b34 eb34 b35 eb35 b36 eb36 b37 eb37 b38 eb38 hp (by omega) (fun r38 Z33 I34 L35 w34 bd34 f34 c34 p34 => ?_)
        have q34 : FR Ws_X12_breaks Z0 I0 Z33 I34 := q31.trans w0.1 w0.2.1 (f34.mono (by decide))
        have cp34 : CP Z0 Z33 := cp.trans q31.1 c34
        have o34 : ∀ i, i ≠ v1.toNatClampNeg → I34 uV i = I0 uV i := fun i hi => by rw [eMf f34 k hVZ kV rfl (by decide)]; exact o31 i hi
        have s34 : (I34 v0 0).toInt = (I31 v0 0).toInt := by rw [f34.2.2.1 v0 12 0 k (by decide) (by decide)]
        have go : ∀ (y4 y5 : Int32), f_X12_breaks_b124 B (f_X12_breaks_L56 B Q n) Q v0 v1 v2 v3 y4 y5 v6 Z33 I34 L35 := fun y4 y5 x ex => ih y4 y5 x Z33 I34 L35 w34 bd34 q34 cp34 o34 (by omega) (by have := nx x ex; omega) (by have := nx x ex; omega) (by have := nx x ex; omega)
        refine ⟨fun _ => go _ _, fun _ => ⟨fun _ => ?_, fun _ => ⟨fun _ => ?_, fun _ => go _ _⟩⟩⟩
        · exact fun x2 _ => go _ _
        · exact fun x2 _ => go _ _
      · exact fun x ex => ih v4 v5 x Z I L w bd q cp ho h0 (by have := nx x ex; omega) (by have := nx x ex; omega) (by have := nx x ex; omega)
theorem s12_X12_breaks {B : Nat × Nat} {T : Nat} {Z : jZ} {I : jI} {L : jL} (w : WD Z I) (bd : BUD B Z T) (v0 : Nat) (v1 : Int32) (kv0 : jk Z v0 12) (uV : Nat) (hV : jr Z v0 13 = some uV) {Q : Int32 → jZ → jI → jL → Prop} (hQ : ∀ (r : Int32) (Z' : jZ) (I' : jI) (L' : jL), WD Z' I' → BUD B Z' T → FR Ws_X12_breaks Z I Z' I' → CP Z Z' → I' uV = I uV → Q r Z' I' L') : f_X12_breaks B v0 v1 Z I L Q := by
  obtain ⟨x, ex, kV, lV⟩ := sh_f w.1 kv0 (j := 13) (k := 14) (m := 6) rfl
  cases hV.symm.trans ex
  have nV : uV ≠ v0 := kne kV kv0 (by decide)
  have z0 : (0 : Int32).toInt = 0 := rfl
  unfold f_X12_breaks
  intro I1 e1
  have w1 : WD Z I1 := by rw [e1]; exact WD_putF w 12 22 kv0 (by decide) (by decide) trivial
  have f1 : FR Ws_X12_breaks Z I Z I1 := by rw [e1]; exact FR_putF kv0 (by decide) (by decide)
  have o1 : I1 uV = I uV := by rw [e1]; exact jpI_ne nV
  refine s_X12_isOne w1 v0 v1 kv0 (fun r p => ⟨fun c => hQ _ Z I1 L w1 bd f1 CP.rf o1, fun c => ⟨fun c2 => ?_, fun c2 => hQ _ Z I1 L w1 bd f1 CP.rf o1⟩⟩)
  have c := (not_congr (i_eq rfl z0)).mp c
  have c2 := (not_congr (i_eq (x := I1 v0 0) (y := 0) rfl z0)).mp c2
  have t0 : 0 ≤ (I1 v0 0).toInt ∧ (I1 v0 0).toInt ≤ 24 := w1.fld 12 0 kv0 (by decide)
  obtain ⟨b34, eb34, -⟩ := sh_f w1.1 kv0 (j := 37) (k := 14) (m := 75) rfl
  obtain ⟨b35, eb35, -⟩ := sh_f w1.1 kv0 (j := 38) (k := 14) (m := 75) rfl
  obtain ⟨b36, eb36, -⟩ := sh_f w1.1 kv0 (j := 40) (k := 14) (m := 25000) rfl
  obtain ⟨b37, eb37, -⟩ := sh_f w1.1 kv0 (j := 9) (k := 14) (m := 6) rfl
  obtain ⟨b38, eb38, -⟩ := sh_f w1.1 kv0 (j := 44) (k := 14) (m := 24) rfl
  refine s_X12_findClimb w1 bd v0 v1 kv0 b34 eb34 b35 eb35 b36 eb36 b37 eb37 b38 eb38 (by omega) (by omega) (fun r63 Z2 I2 L2 w2 bd2 f2 cp2 p2 => ?_)
  have q2 : FR Ws_X12_breaks Z I Z2 I2 := f1.trans w.1 w.2.1 (f2.mono (by decide))
  have o2 : I2 uV = I uV := (eMf f2 kv0 hV kV rfl (by decide)).trans o1
  have s2 : (I2 v0 0).toInt = (I1 v0 0).toInt := by rw [f2.2.2.1 v0 12 0 kv0 (by decide) (by decide)]
  have go : ∀ s : Int32, f_X12_breaks_b38 B Q v0 v1 s Z2 I2 L2 := fun s b43 e43 => by
    cases (((f2.2.1 v0 12 13 kv0 (by decide) (by decide)).trans hV).symm.trans e43)
    refine ⟨vi_of rfl (by omega) (by omega), ?_⟩
    intro x45 e45
    exact ⟨9, bk_L56 w v0 v1 kv0 uV hV s x45 (by rw [e45, o2]) (by omega) hQ 9 _ _ 0 Z2 I2 L2 w2 bd2 q2 cp2 (fun i _ => by rw [o2]) (by omega) (by decide) (by decide) (by decide)⟩
  exact ⟨fun _ => go _, fun _ => go _⟩
