/-- what is told of a pilgrim fits -/
def FITp (v1 v2 v3 v4 : Int32) : Prop := 1 ≤ v1.toInt ∧ v1.toInt ≤ 120 ∧ 0 ≤ v2.toInt ∧ v2.toInt ≤ 999 ∧ 1 ≤ v3.toInt ∧ v3.toInt ≤ 3 ∧ 0 ≤ v4.toInt ∧ v4.toInt ≤ 50
/-- from (Z, I) on nothing that was there has changed but the pilgrims' row and their number -/
def FRp (Z : jZ) (I : jI) (Z' : jZ) (I' : jI) : Prop := (∀ a c j, jk Z a c → c ≠ 18 → jr Z' a j = jr Z a j) ∧ (∀ a c j, jk Z a c → ¬ (c = 11 ∧ j = 4) → I' a j = I a j)
def PSp (v0 : Nat) (v1 v2 v3 v4 r : Int32) (I I' : jI) : Prop := (r.toInt = -1 ∧ (I' v0 4).toInt = (I v0 4).toInt ∧ ¬ (FITp v1 v2 v3 v4 ∧ (I v0 4).toInt < 6)) ∨ (r.toInt = (I v0 4).toInt ∧ (I' v0 4).toInt = (I v0 4).toInt + 1 ∧ FITp v1 v2 v3 v4 ∧ (I v0 4).toInt < 6)
set_option maxHeartbeats 4000000 in
theorem s9_X11_pilgrim {B : Nat × Nat} {T : Nat} {Z : jZ} {I : jI} {L : jL} (w : WD Z I) (bd : BUD B Z T) (v0 : Nat) (v1 v2 v3 v4 : Int32) (kv0 : jk Z v0 11) (ht : (I v0 4).toInt + (T : Int) = 6) {Q : Int32 → jZ → jI → jL → Prop}
    (hQ : ∀ (r : Int32) (Z' : jZ) (I' : jI) (L' : jL) (T' : Nat), WD Z' I' → BUD B Z' T' → (I' v0 4).toInt + (T' : Int) = 6 → jext Z Z' → jle Z Z' → FRp Z I Z' I' → PSp v0 v1 v2 v3 v4 r I I' → Q r Z' I' L') : f_X11_pilgrim v0 v1 v2 v3 v4 Z I L Q := by
  have no : ∀ s0 : Int32, ((s0 = 0 ∧ ¬ FITp v1 v2 v3 v4) ∨ (s0 = 1 ∧ FITp v1 v2 v3 v4)) → f_X11_pilgrim_b49 Q v0 v1 v2 v3 v4 s0 Z I L := by
    intro s0 hs0
    unfold f_X11_pilgrim_b49
    have fr0 : FRp Z I Z I := ⟨fun _ _ _ _ _ => rfl, fun _ _ _ _ _ => rfl⟩
    refine ⟨fun c0 => hQ _ _ _ _ T w bd ht jext_rfl jle_rfl fr0 (Or.inl ⟨rfl, rfl, fun g => ?_⟩), fun c0 => ⟨fun c1 => ?_, fun c1 => hQ _ _ _ _ T w bd ht jext_rfl jle_rfl fr0 (Or.inl ⟨rfl, rfl, fun g => c1 ((i_lt rfl (show (6 : Int32).toInt = 6 from rfl)).mpr g.2)⟩)⟩⟩
    · rcases hs0 with h | h
      · exact h.2 g.1
      · rw [h.1] at c0; cases c0
    have hF : FITp v1 v2 v3 v4 := (hs0.resolve_left (fun h => c0 h.1)).2
    have hl : 1 ≤ v3.toInt ∧ v3.toInt ≤ 3 := ⟨hF.2.2.2.2.1, hF.2.2.2.2.2.1⟩
    have t1 : (I v0 4).toInt < 6 := (i_lt rfl (show (6 : Int32).toInt = 6 from rfl)).mp c1
    have t0 : 0 ≤ (I v0 4).toInt ∧ (I v0 4).toInt ≤ 6 := w.fld 11 4 kv0 (by decide)
    intro b3 e3 q nq Z5 eZ5 I6 eI6 L7 eL7 b11 e11
    have hne : v0 ≠ q := fun e => nq (e ▸ kv0.1)
    obtain ⟨b8, f8, k8⟩ := sh_o w.1 kv0 (j := 2) (k := 8) rfl
    have : b11 = b8 := by
      rw [eZ5, jr_old hne, f8] at e11
      exact (Option.some.inj e11).symm
    subst this
    obtain ⟨b9, f9, k9, l9⟩ := sh_f w.1 kv0 (j := 3) (k := 18) (m := 6) rfl
    cases e3.symm.trans f9
    have c0' := CW_nw 5 0 (CW_start w.2) nq
    rw [← eZ5, ← eI6] at c0'
    refine cw_X5_init v1 v2 v3 v4 k8 ⟨by omega, hl.2⟩ I Z5 I6 L7 [] q 1 (0 + jcs 5 0) 0 _ c0' (by rw [eZ5]; exact jk_nw) List.not_mem_nil (fun j => by rw [eZ5]; exact jr_new) (fun j => by rw [eI6]; exact congrFun (va_up_self _ _ _) j) (fun Z13 I14 L15 c1 kq nhq _ x1 _ => ?_)
    have w1 : WD Z13 I14 := ⟨CW_SH c1 w.1, c1.2.2.2.1⟩
    have k3 : jk Z13 b3 18 := (c1.1 _ _ k9).1
    have kv : jk Z13 v0 11 := (c1.1 _ _ kv0).1
    have ev : I14 v0 = I v0 := (c1.2.1 v0 kv0.1).2
    refine ⟨vi_of rfl (by omega) (by omega), ?_⟩
    intro Z22 eZ22 I24 eI24
    have w2 : WD Z22 I14 := by rw [eZ22]; exact WD_put18 w1 k3 kq nhq
    have t2 : (I14 v0 4).toInt = (I v0 4).toInt := by rw [ev]
    have t3 : ((I14 v0 4) + (1 : Int32)).toInt = (I v0 4).toInt + 1 := (i_add rfl (show (1 : Int32).toInt = 1 from rfl) (by omega) (by omega)).trans (by omega)
    have kv' : jk Z22 v0 11 := by rw [eZ22]; exact kv
    have w3 : WD Z22 I24 := by rw [eI24]; exact WD_putF w2 11 4 kv' (by decide) (by decide) (by constructor <;> omega)
    refine ⟨w2.1, hQ _ _ _ _ (T - 1) w3 ?_ ?_ ?_ ?_ ⟨fun a c j ha h18 => ?_, fun a c j ha h11 => ?_⟩ (Or.inr ⟨?_, ?_, hF, t1⟩)⟩
    · obtain ⟨hb1, hb2⟩ := bd
      obtain ⟨g1, g2, g3⟩ := c1.2.2.2.2.2.1
      have hp : potc Z22 = potc Z13 := by rw [eZ22]; exact potc_put k3 (by omega) (by omega)
      have hc : jcz Z22 = jcz Z13 := by rw [eZ22]; rfl
      have hs : jsz Z22 = jsz Z13 := by rw [eZ22]; rfl
      have j5 : jcs 5 0 = 9 := rfl
      have hT : T = (T - 1) + 1 := by omega
      constructor
      · rw [hp, hc]; omega
      · rw [hp, hs]; omega
    · rw [eI24, jpI_at]; omega
    · have x2 : jext Z Z13 := c1.1
      rw [eZ22]; exact jext_trans x2 jext_putr
    · rw [eZ22]; exact jle_ext w.2.1 (jext_trans c1.1 jext_putr)
    · have hna : a ≠ b3 := fun e => by subst e; exact h18 (ha.2.symm.trans k9.2)
      rw [eZ22, jrR_ne hna]
      exact congrFun (c1.2.1 a ha.1).1 j
    · rw [eI24]
      by_cases e : a = v0
      · subst e
        have hj : j ≠ 4 := fun q => h11 ⟨ha.2.symm.trans kv0.2, q⟩
        show va_up I14 a (upd (I14 a) 4 _) a j = _
        rw [va_up_self]
        exact (if_neg hj).trans (by rw [ev])
      · show va_up I14 v0 _ a j = _
        rw [va_up_ne _ _ e]
        exact congrFun (c1.2.1 a ha.1).2 j
    · rw [eI24, jpI_at]
      exact (i_sub t3 (show (1 : Int32).toInt = 1 from rfl) (by omega) (by omega)).trans (by omega)
    · rw [eI24, jpI_at]; exact t3
  unfold f_X11_pilgrim f_X11_pilgrim_b48
  refine ⟨fun c => no 0 (Or.inl ⟨rfl, fun g => ?_⟩), fun c0 => ?_⟩
  · have h := (i_lt (x := v1) (y := 1) rfl (show (1 : Int32).toInt = 1 from rfl)).mp c
    unfold FITp at g
    omega
  have h0 := (not_congr (i_lt (x := v1) (y := 1) rfl (show (1 : Int32).toInt = 1 from rfl))).mp c0
  refine ⟨fun c => no 0 (Or.inl ⟨rfl, fun g => ?_⟩), fun c1 => ?_⟩
  · have h := (i_lt (x := 120) (y := v1) (show (120 : Int32).toInt = 120 from rfl) rfl).mp c
    unfold FITp at g
    omega
  have h1 := (not_congr (i_lt (x := 120) (y := v1) (show (120 : Int32).toInt = 120 from rfl) rfl)).mp c1
  refine ⟨fun c => no 0 (Or.inl ⟨rfl, fun g => ?_⟩), fun c2 => ?_⟩
  · have h := (i_lt (x := v2) (y := 0) rfl (show (0 : Int32).toInt = 0 from rfl)).mp c
    unfold FITp at g
    omega
  have h2 := (not_congr (i_lt (x := v2) (y := 0) rfl (show (0 : Int32).toInt = 0 from rfl))).mp c2
  refine ⟨fun c => no 0 (Or.inl ⟨rfl, fun g => ?_⟩), fun c3 => ?_⟩
  · have h := (i_lt (x := 999) (y := v2) (show (999 : Int32).toInt = 999 from rfl) rfl).mp c
    unfold FITp at g
    omega
  have h3 := (not_congr (i_lt (x := 999) (y := v2) (show (999 : Int32).toInt = 999 from rfl) rfl)).mp c3
  refine ⟨fun c => no 0 (Or.inl ⟨rfl, fun g => ?_⟩), fun c4 => ?_⟩
  · have h := (i_lt (x := v3) (y := 1) rfl (show (1 : Int32).toInt = 1 from rfl)).mp c
    unfold FITp at g
    omega
  have h4 := (not_congr (i_lt (x := v3) (y := 1) rfl (show (1 : Int32).toInt = 1 from rfl))).mp c4
  refine ⟨fun c => no 0 (Or.inl ⟨rfl, fun g => ?_⟩), fun c5 => ?_⟩
  · have h := (i_lt (x := 3) (y := v3) (show (3 : Int32).toInt = 3 from rfl) rfl).mp c
    unfold FITp at g
    omega
  have h5 := (not_congr (i_lt (x := 3) (y := v3) (show (3 : Int32).toInt = 3 from rfl) rfl)).mp c5
  refine ⟨fun c => no 0 (Or.inl ⟨rfl, fun g => ?_⟩), fun c6 => ?_⟩
  · have h := (i_lt (x := v4) (y := 0) rfl (show (0 : Int32).toInt = 0 from rfl)).mp c
    unfold FITp at g
    omega
  have h6 := (not_congr (i_lt (x := v4) (y := 0) rfl (show (0 : Int32).toInt = 0 from rfl))).mp c6
  refine ⟨fun c => no 0 (Or.inl ⟨rfl, fun g => ?_⟩), fun c7 => ?_⟩
  · have h := (i_lt (x := 50) (y := v4) (show (50 : Int32).toInt = 50 from rfl) rfl).mp c
    unfold FITp at g
    omega
  have h7 := (not_congr (i_lt (x := 50) (y := v4) (show (50 : Int32).toInt = 50 from rfl) rfl)).mp c7
  refine no 1 (Or.inr ⟨rfl, ?_⟩)
  unfold FITp
  omega
