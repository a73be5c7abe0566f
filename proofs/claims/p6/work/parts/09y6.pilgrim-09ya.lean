section
/-- what is told of a pilgrim fits -/
def FITp (v1 v2 v3 v4 : Int32) : Prop := 1 ≤ v1.toInt ∧ v1.toInt ≤ 120 ∧ 0 ≤ v2.toInt ∧ v2.toInt ≤ 999 ∧ 1 ≤ v3.toInt ∧ v3.toInt ≤ 3 ∧ 0 ≤ v4.toInt ∧ v4.toInt ≤ 50
/-- from (Z, I) on nothing that was there has changed but the pilgrims' row and their number -/
def FRp (Z : jZ) (I : jI) (Z' : jZ) (I' : jI) : Prop := (∀ a c j, jk Z a c → c ≠ 18 → jr Z' a j = jr Z a j) ∧ (∀ a c j, jk Z a c → ¬ (c = 11 ∧ j = 4) → I' a j = I a j)
def PSp (v0 : Nat) (v1 v2 v3 v4 r : Int32) (I I' : jI) : Prop := (r.toInt = -1 ∧ (I' v0 4).toInt = (I v0 4).toInt ∧ ¬ (FITp v1 v2 v3 v4 ∧ (I v0 4).toInt < 6)) ∨ (r.toInt = (I v0 4).toInt ∧ (I' v0 4).toInt = (I v0 4).toInt + 1 ∧ FITp v1 v2 v3 v4 ∧ (I v0 4).toInt < 6)
set_option maxHeartbeats 4000000 in
theorem s9_X11_pilgrim {B : Nat × Nat} {T : Nat} {Z : jZ} {I : jI} {L : jL} (w : WD Z I) (bd : BUD B Z T) (v0 : Nat) (v1 v2 v3 v4 : Int32) (kv0 : jk Z v0 11) (ht : (I v0 4).toInt + (T : Int) = 6) {Q : Int32 → jZ → jI → jL → Prop}
    (hQ : ∀ (r : Int32) (Z' : jZ) (I' : jI) (L' : jL) (T' : Nat), WD Z' I' → BUD B Z' T' → (I' v0 4).toInt + (T' : Int) = 6 → jext Z Z' → jle Z Z' → FRp Z I Z' I' → PSp v0 v1 v2 v3 v4 r I I' → Q r Z' I' L') : f_X11_pilgrim v0 v1 v2 v3 v4 Z I L Q := by
  have no : ∀ s0 : Int32, ((s0 = 0 ∧ ¬ FITp v1 v2 v3 v4) ∨ (s0 = 1 ∧ FITp v1 v2 v3 v4)) → f_X11_pilgrim_b49 Q v0 v1 v2 v3 v4 s0 Z I L := by
    intro s0 hs0
    unfold f_X11_pilgrim_b49
    have fr0 : FRp Z I Z I := ⟨fun _ _ _ _ _ => rfl, fun _ _ _ _ _ => rfl⟩
    refine ⟨fun c0 => hQ _ _ _ _ T w bd ht jext_rfl jle_rfl fr0 (Or.inl ⟨rfl, rfl, fun g => ?_⟩), fun c0 => ⟨fun c1 => ?_, fun c1 => hQ _ _ _ _ T w bd ht jext_rfl jle_rfl fr0 (Or.inl ⟨rfl, rfl, fun g => c1 ((i_lt rfl (show (6 : Int32).toInt = 6 from rfl)).mpr g.2)⟩)⟩⟩
    · rcases hs0 with h | h
      · exact h.2 g.1
      · rw [h.1] at c0; cases c0
    have hF : FITp v1 v2 v3 v4 := (hs0.resolve_left (fun h => c0 h.1)).2
    have hl : 1 ≤ v3.toInt ∧ v3.toInt ≤ 3 := ⟨hF.2.2.2.2.1, hF.2.2.2.2.2.1⟩
    have t1 : (I v0 4).toInt < 6 := (i_lt rfl (show (6 : Int32).toInt = 6 from rfl)).mp c1
    have t0 : 0 ≤ (I v0 4).toInt ∧ (I v0 4).toInt ≤ 6 := w.fld 11 4 kv0 (by decide)
    intro b3 e3 q nq Z5 eZ5 I6 eI6 L7 eL7 b11 e11
    have hne : v0 ≠ q := fun e => nq (e ▸ kv0.1)
    obtain ⟨b8, f8, k8⟩ := sh_o w.1 kv0 (j := 2) (k := 8) rfl
    have : b11 = b8 := by
      rw [eZ5, jr_old hne, f8] at e11
      exact (Option.some.inj e11).symm
    subst this
    obtain ⟨b9, f9, k9, l9⟩ := sh_f w.1 kv0 (j := 3) (k := 18) (m := 6) rfl
    cases e3.symm.trans f9
    have c0' := CW_nw 5 0 (CW_start w.2) nq
    rw [← eZ5, ← eI6] at c0'
    refine cw_X5_init v1 v2 v3 v4 k8 ⟨by omega, hl.2⟩ I Z5 I6 L7 [] q 1 (0 + jcs 5 0) 0 _ c0' (by rw [eZ5]; exact jk_nw) List.not_mem_nil (fun j => by rw [eZ5]; exact jr_new) (fun j => by rw [eI6]; exact congrFun (va_up_self _ _ _) j) (fun Z13 I14 L15 c1 kq nhq _ x1 _ => ?_)
    have w1 : WD Z13 I14 := ⟨CW_SH c1 w.1, c1.2.2.2.1⟩
    have k3 : jk Z13 b3 18 := (c1.1 _ _ k9).1
    have kv : jk Z13 v0 11 := (c1.1 _ _ kv0).1
    have ev : I14 v0 = I v0 := (c1.2.1 v0 kv0.1).2
    refine ⟨vi_of rfl (by omega) (by omega), ?_⟩
    intro Z22 eZ22 I24 eI24
    have w2 : WD Z22 I14 := by rw [eZ22]; exact WD_put18 w1 k3 kq nhq
    have t2 : (I14 v0 4).toInt = (I v0 4).toInt := by rw [ev]
    have t3 : ((I14 v0 4) + (1 : Int32)).toInt = (I v0 4).toInt + 1 := (i_add rfl (show (1 : Int32).toInt = 1 from rfl) (by omega) (by omega)).trans (by omega)
    have kv' : jk Z22 v0 11 := by rw [eZ22]; exact kv
    have w3 : WD Z22 I24 := by rw [eI24]; exact WD_putF w2 11 4 kv' (by decide) (by decide) (by constructor <;> omega)
    refine ⟨w2.1, hQ _ _ _ _ (T - 1) w3 ?_ ?_ ?_ ?_ ⟨fun a c j ha h18 => ?_, fun a c j ha h11 => ?_⟩ (Or.inr ⟨?_, ?_, hF, t1⟩)⟩
    · obtain ⟨hb1, hb2⟩ := bd
      obtain ⟨g1, g2, g3⟩ := c1.2.2.2.2.2.1
      have hp : potc Z22 = potc Z13 := by rw [eZ22]; exact potc_put k3 (by omega) (by omega)
      have hc : jcz Z22 = jcz Z13 := by rw [eZ22]; rfl
      have hs : jsz Z22 = jsz Z13 := by rw [eZ22]; rfl
      have j5 : jcs 5 0 = 9 := rfl
      have hT : T = (T - 1) + 1 := by omega
      constructor
      · rw [hp, hc]; omega
      · rw [hp, hs]; omega
    · rw [eI24, jpI_at]; omega
    · have x2 : jext Z Z13 := c1.1
      rw [eZ22]; exact jext_trans x2 jext_putr
    · rw [eZ22]; exact jle_ext w.2.1 (jext_trans c1.1 jext_putr)
    · have hna : a ≠ b3 := fun e => by subst e; exact h18 (ha.2.symm.trans k9.2)
      rw [eZ22, jrR_ne hna]
      exact congrFun (c1.2.1 a ha.1).1 j
    · rw [eI24]
      by_cases e : a = v0
      · subst e
        have hj : j ≠ 4 := fun q => h11 ⟨ha.2.symm.trans kv0.2, q⟩
        show va_up I14 a (upd (I14 a) 4 _) a j = _
        rw [va_up_self]
        exact (if_neg hj).trans (by rw [ev])
      · show va_up I14 v0 _ a j = _
        rw [va_up_ne _ _ e]
        exact congrFun (c1.2.1 a ha.1).2 j
    · rw [eI24, jpI_at]
      exact (i_sub t3 (show (1 : Int32).toInt = 1 from rfl) (by omega) (by omega)).trans (by omega)
    · rw [eI24, jpI_at]; exact t3
  unfold f_X11_pilgrim f_X11_pilgrim_b48
  refine ⟨fun c => no 0 (Or.inl ⟨rfl, fun g => ?_⟩), fun c0 => ?_⟩
  · have h := (i_lt (x := v1) (y := 1) rfl (show (1 : Int32).toInt = 1 from rfl)).mp c
    unfold FITp at g
    omega
  have h0 := (not_congr (i_lt (x := v1) (y := 1) rfl (show (1 : Int32).toInt = 1 from rfl))).mp c0
  refine ⟨fun c => no 0 (Or.inl ⟨rfl, fun g => ?_⟩), fun c1 => ?_⟩
  · have h := (i_lt (x := 120) (y := v1) (show (120 : Int32).toInt = 120 from rfl) rfl).mp c
    unfold FITp at g
    omega
  have h1 := (not_congr (i_lt (x := 120) (y := v1) (show (120 : Int32).toInt = 120 from rfl) rfl)).mp c1
  refine ⟨fun c => no 0 (Or.inl ⟨rfl, fun g => ?_⟩), fun c2 => ?_⟩
  · have h := (i_lt (x := v2) (y := 0) rfl (show (0 : Int32).toInt = 0 from rfl)).mp c
    unfold FITp at g
    omega
  have h2 := (not_congr (i_lt (x := v2) (y := 0) rfl (show (0 : Int32).toInt = 0 from rfl))).mp c2
  refine ⟨fun c => no 0 (Or.inl ⟨rfl, fun g => ?_⟩), fun c3 => ?_⟩
  · have h := (i_lt (x := 999) (y := v2) (show (999 : Int32).toInt = 999 from rfl) rfl).mp c
    unfold FITp at g
    omega
  have h3 := (not_congr (i_lt (x := 999) (y := v2) (show (999 : Int32).toInt = 999 from rfl) rfl)).mp c3
  refine ⟨fun c => no 0 (Or.inl ⟨rfl, fun g => ?_⟩), fun c4 => ?_⟩
  · have h := (i_lt (x := v3) (y := 1) rfl (show (1 : Int32).toInt = 1 from rfl)).mp c
    unfold FITp at g
    omega
  have h4 := (not_congr (i_lt (x := v3) (y := 1) rfl (show (1 : Int32).toInt = 1 from rfl))).mp c4
  refine ⟨fun c => no 0 (Or.inl ⟨rfl, fun g => ?_⟩), fun c5 => ?_⟩
  · have h := (i_lt (x := 3) (y := v3) (show (3 : Int32).toInt = 3 from rfl) rfl).mp c
    unfold FITp at g
    omega
  have h5 := (not_congr (i_lt (x := 3) (y := v3) (show (3 : Int32).toInt = 3 from rfl) rfl)).mp c5
  refine ⟨fun c => no 0 (Or.inl ⟨rfl, fun g => ?_⟩), fun c6 => ?_⟩
  · have h := (i_lt (x := v4) (y := 0) rfl (show (0 : Int32).toInt = 0 from rfl)).mp c
    unfold FITp at g
    omega
  have h6 := (not_congr (i_lt (x := v4) (y := 0) rfl (show (0 : Int32).toInt = 0 from rfl))).mp c6
  refine ⟨fun c => no 0 (Or.inl ⟨rfl, fun g => ?_⟩), fun c7 => ?_⟩
  · have h := (i_lt (x := 50) (y := v4) (show (50 : Int32).toInt = 50 from rfl) rfl).mp c
    unfold FITp at g
    omega
  have h7 := (not_congr (i_lt (x := 50) (y := v4) (show (50 : Int32).toInt = 50 from rfl) rfl)).mp c7
  refine no 1 (Or.inr ⟨rfl, ?_⟩)
  unfold FITp
  omega
end
section
/-! ===== what constructors leave ===== -/
/-- the ints that a new cell of kind c holds -/
def jz : Nat → Nat → Int32 := fun c j => match c, j with
  | 9, 8 => -1
  | 3, 8 => -1
  | 12, 31 => -1
  | 12, 39 => -1
  | _, _ => 0
def fr1 (I : jI) (L : jL) (a c : Nat) : Prop := (∀ j, I a j = jz c j) ∧ ∀ j, L a j = 0
/-- cell a is as it was -/
def sm1 (Z : jZ) (I : jI) (L : jL) (Z' : jZ) (I' : jI) (L' : jL) (a : Nat) : Prop := Z'.2.2.2 a = Z.2.2.2 a ∧ I' a = I a ∧ L' a = L a
/-- while cells are made: those of the base stay, all other ones but those in U are whole and new -/
def CI (B : jZ × jI × jL) (Z : jZ) (I : jI) (L : jL) (U : List Nat) : Prop :=
  jext B.1 Z ∧ (∀ a ∈ B.1.1, a ∉ U → sm1 B.1 B.2.1 B.2.2 Z I L a) ∧ ∀ a c, jk Z a c → a ∉ B.1.1 → a ∉ U → sh1 Z U a c ∧ fr1 I L a c
theorem jk_one {Z : jZ} {a k k' : Nat} (h : jk Z a k) (h' : jk Z a k') : k = k' := h.2.symm.trans h'.2
theorem jk_nw_old {Z : jZ} {q k m a c : Nat} (h : jk (jnw Z q k m) a c) (hne : a ≠ q) : jk Z a c := by
  refine ⟨?_, ?_⟩
  · rcases List.mem_append.mp h.1 with h1 | h1
    · exact h1
    · exact absurd (List.mem_singleton.mp h1) hne
  · have h2 : va_up Z.2.1 q k a = c := h.2
    rw [va_up_ne _ _ hne] at h2
    exact h2
theorem jr_nw_old {Z : jZ} {q k m a : Nat} (hne : a ≠ q) : (jnw Z q k m).2.2.2 a = Z.2.2.2 a := va_up_ne _ _ hne
theorem jlen_nw_old {Z : jZ} {q k m a : Nat} (hne : a ≠ q) : jlen (jnw Z q k m) a = jlen Z a := va_up_ne _ _ hne
/-- a new cell, into U -/
theorem CI_nw {B : jZ × jI × jL} {Z : jZ} {I : jI} {L : jL} {U : List Nat} {q k m : Nat} (h : CI B Z I L U) (hq : q ∉ Z.1) : CI B (jnw Z q k m) (jz0 I q) (jzL L q) (q :: U) := by
  have hx : jext Z (jnw Z q k m) := jext_nw hq
  refine ⟨jext_trans h.1 hx, fun a ha hU => ?_, fun a c ha hB hU => ?_⟩
  · have hne : a ≠ q := fun e => hU (e ▸ List.mem_cons_self)
    obtain ⟨h1, h2, h3⟩ := h.2.1 a ha (fun e => hU (List.mem_cons_of_mem _ e))
    exact ⟨(jr_nw_old hne).trans h1, (va_up_ne _ _ hne).trans h2, (va_up_ne _ _ hne).trans h3⟩
  · have hne : a ≠ q := fun e => hU (e ▸ List.mem_cons_self)
    have ha' := jk_nw_old ha hne
    obtain ⟨h1, h2⟩ := h.2.2 a c ha' hB (fun e => hU (List.mem_cons_of_mem _ e))
    refine ⟨sh1_ext h1 ha' hx (jr_nw_old hne) (fun b hb hbU e => ?_), ?_, ?_⟩
    · rcases List.mem_cons.mp e with e | e
      · exact hq (e ▸ hb)
      · exact hbU e
    · intro j; rw [show jz0 I q a = I a from va_up_ne _ _ hne]; exact h2.1 j
    · intro j; rw [show jzL L q a = L a from va_up_ne _ _ hne]; exact h2.2 j
/-- a cell in U is written -/
theorem CI_put {B : jZ × jI × jL} {Z Z' : jZ} {I I' : jI} {L L' : jL} {U : List Nat} {u : Nat} (h : CI B Z I L U) (hu : u ∈ U) (h1 : Z'.1 = Z.1) (h2 : Z'.2.1 = Z.2.1) (h3 : Z'.2.2.1 = Z.2.2.1) (ho : ∀ a, a ≠ u → sm1 Z I L Z' I' L' a) : CI B Z' I' L' U := by
  have hx : jext Z Z' := fun a c ha => ⟨⟨by rw [h1]; exact ha.1, by rw [h2]; exact ha.2⟩, congrFun h3 a⟩
  have hb : ∀ a c, jk Z' a c → jk Z a c := fun a c ha => ⟨by rw [← h1]; exact ha.1, by rw [← h2]; exact ha.2⟩
  refine ⟨jext_trans h.1 hx, fun a ha hU => ?_, fun a c ha hB hU => ?_⟩
  · have hne : a ≠ u := fun e => hU (e ▸ hu)
    obtain ⟨g1, g2, g3⟩ := h.2.1 a ha hU
    obtain ⟨o1, o2, o3⟩ := ho a hne
    exact ⟨o1.trans g1, o2.trans g2, o3.trans g3⟩
  · have hne : a ≠ u := fun e => hU (e ▸ hu)
    obtain ⟨o1, o2, o3⟩ := ho a hne
    obtain ⟨g1, g2⟩ := h.2.2 a c (hb a c ha) hB hU
    exact ⟨sh1_ext g1 (hb a c ha) hx o1 (fun _ _ q => q), fun j => by rw [o2]; exact g2.1 j, fun j => by rw [o3]; exact g2.2 j⟩
/-- a cell of U is whole: it leaves U -/
theorem CI_done {B : jZ × jI × jL} {Z : jZ} {I : jI} {L : jL} {U : List Nat} {u c : Nat} (h : CI B Z I L (u :: U)) (hk : jk Z u c) (hB : u ∉ B.1.1) (hs : sh1 Z U u c) (hf : fr1 I L u c) : CI B Z I L U := by
  refine ⟨h.1, fun a ha hU => h.2.1 a ha (fun e => ?_), fun a c' ha hB' hU => ?_⟩
  · rcases List.mem_cons.mp e with e | e
    · exact hB (e ▸ ha)
    · exact hU e
  · by_cases e : a = u
    · subst e
      cases jk_one ha hk
      exact ⟨hs, hf⟩
    · obtain ⟨h1, h2⟩ := h.2.2 a c' ha hB' (fun q => (List.mem_cons.mp q).elim e hU)
      exact ⟨sh1_ext h1 ha jext_rfl rfl (fun b _ hb q => hb (List.mem_cons_of_mem _ q)), h2⟩
/-- in the constructor of h0, of kind c, from (Zs, Is, Ls): the fields J and the ints K are done -/
def ST (B : jZ × jI × jL) (Zs : jZ) (Is : jI) (Ls : jL) (U : List Nat) (h0 c : Nat) (J K : List Nat) (Z : jZ) (I : jI) (L : jL) : Prop :=
  CI B Z I L (h0 :: U) ∧ jext Zs Z ∧ (∀ a ∈ Zs.1, a ≠ h0 → sm1 Zs Is Ls Z I L a) ∧ jk Z h0 c ∧ h0 ∉ B.1.1 ∧ (∀ u ∈ U, u ∈ Zs.1)
  ∧ (∀ j ∈ J, ∀ k o, jsh c j = some (k, o) → ∃ b, jr Z h0 j = some b ∧ b ∉ h0 :: U ∧ jk Z b k ∧ ∀ m, o = some m → jlen Z b = m)
  ∧ (∀ j, j ∉ K → I h0 j = 0) ∧ (∀ j ∈ K, I h0 j = jz c j) ∧ ∀ j, L h0 j = 0
/-- what a constructor without parameters does -/
def CTOR (c : Nat) (f : Nat → jZ → jI → jL → (jZ → jI → jL → Prop) → Prop) : Prop :=
  ∀ (B : jZ × jI × jL) (Z : jZ) (I : jI) (L : jL) (U : List Nat) (h0 : Nat) (Q : jZ → jI → jL → Prop), CI B Z I L (h0 :: U) → jk Z h0 c → h0 ∉ B.1.1 → h0 ∉ U → (∀ u ∈ U, u ∈ Z.1) → (∀ j, I h0 j = 0) → (∀ j, L h0 j = 0) →
    (∀ Z' I' L', CI B Z' I' L' U → jext Z Z' → (∀ a ∈ Z.1, a ≠ h0 → sm1 Z I L Z' I' L' a) → Q Z' I' L') → f h0 Z I L Q
theorem ST_start {B : jZ × jI × jL} {Z : jZ} {I : jI} {L : jL} {U : List Nat} {h0 c : Nat} (h : CI B Z I L (h0 :: U)) (hk : jk Z h0 c) (hB : h0 ∉ B.1.1) (hU : ∀ u ∈ U, u ∈ Z.1) (hI : ∀ j, I h0 j = 0) (hL : ∀ j, L h0 j = 0) : ST B Z I L U h0 c [] [] Z I L :=
  ⟨h, jext_rfl, fun _ _ _ => ⟨rfl, rfl, rfl⟩, hk, hB, hU, fun _ h => absurd h List.not_mem_nil, fun j _ => hI j, fun _ h => absurd h List.not_mem_nil, hL⟩
theorem ST_end {B : jZ × jI × jL} {Zs Z : jZ} {Is I : jI} {Ls L : jL} {U : List Nat} {h0 c : Nat} {J K : List Nat} (h : ST B Zs Is Ls U h0 c J K Z I L) (hU : h0 ∉ U) (hJ : ∀ j k o, jsh c j = some (k, o) → j ∈ J) (hc : c < 13) (hK : ∀ j, j ∉ K → jz c j = 0) : CI B Z I L U ∧ jext Zs Z ∧ ∀ a ∈ Zs.1, a ≠ h0 → sm1 Zs Is Ls Z I L a := by
  obtain ⟨h1, h2, h3, h4, h5, h6, h7, h8, h9, h10⟩ := h
  refine ⟨CI_done h1 h4 h5 ⟨fun j k o e => ?_, fun e => by omega, fun e => by omega, fun e => by omega⟩ ⟨fun j => ?_, h10⟩, h2, h3⟩
  · obtain ⟨b, g1, g2, g3⟩ := h7 j (hJ j k o e) k o e
    exact ⟨b, g1, fun q => g2 (List.mem_cons_of_mem _ q), g3⟩
  · by_cases hj : j ∈ K
    · exact h9 j hj
    · rw [h8 j hj, hK j hj]
/-- a reference is put -/
theorem ST_ref {B : jZ × jI × jL} {Zs Z : jZ} {Is I : jI} {Ls L : jL} {U : List Nat} {h0 c : Nat} {J K : List Nat} (j : Nat) {b : Nat} (h : ST B Zs Is Ls U h0 c J K Z I L) (hb : b ∉ h0 :: U) (hs : ∀ k o, jsh c j = some (k, o) → jk Z b k ∧ ∀ m, o = some m → jlen Z b = m) : ST B Zs Is Ls U h0 c (j :: J) K (jpR Z h0 j (some b)) I L := by
  obtain ⟨h1, h2, h3, h4, h5, h6, h7, h8, h9, h10⟩ := h
  have ho : ∀ a, a ≠ h0 → sm1 Z I L (jpR Z h0 j (some b)) I L a := fun a ha => ⟨va_up_ne _ _ ha, rfl, rfl⟩
  refine ⟨CI_put h1 List.mem_cons_self rfl rfl rfl ho, jext_trans h2 jext_putr, fun a ha hne => ?_, h4, h5, h6, fun i hi k o e => ?_, h8, h9, h10⟩
  · obtain ⟨o1, o2, o3⟩ := ho a hne
    obtain ⟨g1, g2, g3⟩ := h3 a ha hne
    exact ⟨o1.trans g1, o2.trans g2, o3.trans g3⟩
  · by_cases hij : i = j
    · subst hij
      obtain ⟨s1, s2⟩ := hs k o e
      exact ⟨b, by show va_up Z.2.2.2 h0 (va_up (Z.2.2.2 h0) i (some b)) h0 i = some b; rw [va_up_self, va_up_self], hb, s1, s2⟩
    · obtain ⟨b', g1, g2, g3, g4⟩ := h7 i ((List.mem_cons.mp hi).resolve_left hij) k o e
      exact ⟨b', by show va_up Z.2.2.2 h0 (va_up (Z.2.2.2 h0) j (some b)) h0 i = some b'; rw [va_up_self, va_up_ne _ _ hij]; exact g1, g2, g3, g4⟩
theorem ST_int {B : jZ × jI × jL} {Zs Z : jZ} {Is I : jI} {Ls L : jL} {U : List Nat} {h0 c : Nat} {J K : List Nat} (j : Nat) {v : Int32} (h : ST B Zs Is Ls U h0 c J K Z I L) (hv : v = jz c j) : ST B Zs Is Ls U h0 c J (j :: K) Z (jpI I h0 j v) L := by
  obtain ⟨h1, h2, h3, h4, h5, h6, h7, h8, h9, h10⟩ := h
  have ho : ∀ a, a ≠ h0 → sm1 Z I L Z (jpI I h0 j v) L a := fun a ha => ⟨rfl, va_up_ne _ _ ha, rfl⟩
  have hI : ∀ i, jpI I h0 j v h0 i = if i = j then v else I h0 i := fun i => by
    show va_up I h0 (upd (I h0) j v) h0 i = _
    rw [va_up_self]; rfl
  refine ⟨CI_put h1 List.mem_cons_self rfl rfl rfl ho, h2, fun a ha hne => ?_, h4, h5, h6, h7, fun i hi => ?_, fun i hi => ?_, h10⟩
  · obtain ⟨o1, o2, o3⟩ := ho a hne
    obtain ⟨g1, g2, g3⟩ := h3 a ha hne
    exact ⟨o1.trans g1, o2.trans g2, o3.trans g3⟩
  · rw [hI, if_neg (fun (e : i = j) => hi (by rw [e]; exact List.mem_cons_self))]
    exact h8 i (fun e => hi (List.mem_cons_of_mem _ e))
  · rw [hI]
    by_cases e : i = j
    · subst e; rw [if_pos rfl]; exact hv
    · rw [if_neg e]; exact h9 i ((List.mem_cons.mp hi).resolve_left e)
theorem ST_long {B : jZ × jI × jL} {Zs Z : jZ} {Is I : jI} {Ls L : jL} {U : List Nat} {h0 c : Nat} {J K : List Nat} (j : Nat) (h : ST B Zs Is Ls U h0 c J K Z I L) : ST B Zs Is Ls U h0 c J K Z I (jpL L h0 j 0) := by
  obtain ⟨h1, h2, h3, h4, h5, h6, h7, h8, h9, h10⟩ := h
  have ho : ∀ a, a ≠ h0 → sm1 Z I L Z I (jpL L h0 j 0) a := fun a ha => ⟨rfl, rfl, va_up_ne _ _ ha⟩
  refine ⟨CI_put h1 List.mem_cons_self rfl rfl rfl ho, h2, fun a ha hne => ?_, h4, h5, h6, h7, h8, h9, fun i => ?_⟩
  · obtain ⟨o1, o2, o3⟩ := ho a hne
    obtain ⟨g1, g2, g3⟩ := h3 a ha hne
    exact ⟨o1.trans g1, o2.trans g2, o3.trans g3⟩
  · show va_up L h0 (vp_updL (L h0) j 0) h0 i = 0
    rw [va_up_self]
    show (if i = j then (0 : Int64) else L h0 i) = 0
    by_cases e : i = j
    · rw [if_pos e]
    · rw [if_neg e]; exact h10 i
/-- a new cell, still in U -/
theorem ST_nw {B : jZ × jI × jL} {Zs Z : jZ} {Is I : jI} {Ls L : jL} {U : List Nat} {h0 c : Nat} {J K : List Nat} {q k m : Nat} (h : ST B Zs Is Ls U h0 c J K Z I L) (hq : q ∉ Z.1) : CI B (jnw Z q k m) (jz0 I q) (jzL L q) (q :: h0 :: U) ∧ jk (jnw Z q k m) q k ∧ jlen (jnw Z q k m) q = m ∧ q ∉ B.1.1 ∧ q ∉ h0 :: U ∧ (∀ u ∈ h0 :: U, u ∈ (jnw Z q k m).1) ∧ (∀ j, jz0 I q q j = 0) ∧ (∀ j, jzL L q q j = 0) ∧ jext Z (jnw Z q k m) ∧ ∀ a ∈ Z.1, sm1 Z I L (jnw Z q k m) (jz0 I q) (jzL L q) a := by
  obtain ⟨h1, h2, h3, h4, h5, h6, h7, h8, h9, h10⟩ := h
  have hU : ∀ u ∈ h0 :: U, u ∈ Z.1 := fun u hu => (List.mem_cons.mp hu).elim (fun e => e ▸ h4.1) (fun e => (h2 u _ ⟨h6 u e, rfl⟩).1.1)
  refine ⟨CI_nw h1 hq, jk_nw, jlen_nw, fun e => hq (h1.1 q _ ⟨e, rfl⟩).1.1, fun e => hq (hU q e), fun u hu => List.mem_append_left _ (hU u hu), fun j => congrFun (va_up_self _ _ _) j, fun j => congrFun (va_up_self _ _ _) j, jext_nw hq, fun a ha => ?_⟩
  have hne : a ≠ q := fun e => hq (e ▸ ha)
  exact ⟨va_up_ne _ _ hne, va_up_ne _ _ hne, va_up_ne _ _ hne⟩
/-- and whole: a primitive array, or what a constructor has left -/
theorem ST_go {B : jZ × jI × jL} {Zs Z Z' : jZ} {Is I I' : jI} {Ls L L' : jL} {U : List Nat} {h0 c : Nat} {J K : List Nat} (h : ST B Zs Is Ls U h0 c J K Z I L) (h1 : CI B Z' I' L' (h0 :: U)) (hx : jext Z Z') (hs : ∀ a ∈ Z.1, sm1 Z I L Z' I' L' a) : ST B Zs Is Ls U h0 c J K Z' I' L' := by
  obtain ⟨-, h2, h3, h4, h5, h6, h7, h8, h9, h10⟩ := h
  obtain ⟨s1, s2, s3⟩ := hs h0 h4.1
  refine ⟨h1, jext_trans h2 hx, fun a ha hne => ?_, (hx _ _ h4).1, h5, h6, fun j hj k o e => ?_, fun j hj => by rw [s2]; exact h8 j hj, fun j hj => by rw [s2]; exact h9 j hj, fun j => by rw [s3]; exact h10 j⟩
  · obtain ⟨o1, o2, o3⟩ := hs a (h2 a _ ⟨ha, rfl⟩).1.1
    obtain ⟨g1, g2, g3⟩ := h3 a ha hne
    exact ⟨o1.trans g1, o2.trans g2, o3.trans g3⟩
  · obtain ⟨b, g1, g2, g3, g4⟩ := h7 j hj k o e
    exact ⟨b, (congrFun s1 j).trans g1, g2, (hx _ _ g3).1, fun m hm => (hx _ _ g3).2.trans (g4 m hm)⟩
theorem jz_arr {k : Nat} (h : 13 ≤ k) (j : Nat) : jz k j = 0 := by
  unfold jz
  split <;> first | rfl | omega
/-- a new array of ints, longs, bytes or booleans goes to field j -/
theorem ST_arr {B : jZ × jI × jL} {Zs Z : jZ} {Is I : jI} {Ls L : jL} {U : List Nat} {h0 c : Nat} {J K : List Nat} (j : Nat) {q k m : Nat} (h : ST B Zs Is Ls U h0 c J K Z I L) (hq : q ∉ Z.1) (hk : 13 ≤ k) (hk2 : k ≤ 16) (hj : ∀ k' o, jsh c j = some (k', o) → k' = k ∧ ∀ m', o = some m' → m' = m) : ST B Zs Is Ls U h0 c (j :: J) K (jpR (jnw Z q k m) h0 j (some q)) (jz0 I q) (jzL L q) := by
  obtain ⟨g1, g2, g3, g4, g5, g6, g7, g8, g9, g10⟩ := ST_nw (k := k) (m := m) h hq
  have g1' := CI_done g1 g2 g4 (sh1_prim hk hk2) ⟨fun j => by rw [g7, jz_arr hk], g8⟩
  refine ST_ref j (ST_go h g1' g9 g10) g5 (fun k' o e => ?_)
  obtain ⟨e1, e2⟩ := hj k' o e
  subst e1
  exact ⟨g2, fun m' hm => by rw [e2 m' hm]; exact g3⟩
theorem sm1_trans {Z Z' Z'' : jZ} {I I' I'' : jI} {L L' L'' : jL} {a : Nat} (h : sm1 Z I L Z' I' L' a) (h' : sm1 Z' I' L' Z'' I'' L'' a) : sm1 Z I L Z'' I'' L'' a := ⟨h'.1.trans h.1, h'.2.1.trans h.2.1, h'.2.2.trans h.2.2⟩
theorem jz_big {c j : Nat} (h : 67 ≤ j) : jz c j = 0 := by
  unfold jz
  split <;> first | rfl | omega
theorem shK {c : Nat} {K : List Nat} (h : ∀ j, j < 67 → j ∉ K → jz c j = 0) : ∀ j, j ∉ K → jz c j = 0 := fun j hj => by
  by_cases hl : j < 67
  · exact h j hl hj
  · exact jz_big (by omega)
theorem shAn {c j k m : Nat} (h : jsh c j = some (k, none)) : ∀ k' o, jsh c j = some (k', o) → k' = k ∧ ∀ m', o = some m' → m' = m := fun k' o e => by
  rw [h] at e
  cases e
  exact ⟨rfl, fun m' hm => by cases hm⟩
theorem shO {Z : jZ} {b c j k : Nat} (h : jsh c j = some (k, none)) (hk : jk Z b k) : ∀ k' o, jsh c j = some (k', o) → jk Z b k' ∧ ∀ m, o = some m → jlen Z b = m := fun k' o e => by
  rw [h] at e
  cases e
  exact ⟨hk, fun m hm => by cases hm⟩
theorem shL {Z : jZ} {b c j k n : Nat} (h : jsh c j = some (k, some n)) (hk : jk Z b k) (hl : jlen Z b = n) : ∀ k' o, jsh c j = some (k', o) → jk Z b k' ∧ ∀ m, o = some m → jlen Z b = m := fun k' o e => by
  rw [h] at e
  cases e
  exact ⟨hk, fun m hm => by cases hm; exact hl⟩
/-- a new object, made whole by its constructor -/
theorem ST_obj {B : jZ × jI × jL} {Zs Z Z1 : jZ} {Is I I1 : jI} {Ls L L1 : jL} {U : List Nat} {h0 c : Nat} {J K : List Nat} {q k : Nat} {f : Nat → jZ → jI → jL → (jZ → jI → jL → Prop) → Prop} (hf : CTOR k f) (h : ST B Zs Is Ls U h0 c J K Z I L) (hq : q ∉ Z.1) (eZ : Z1 = jnw Z q k 0) (eI : I1 = jz0 I q) (eL : L1 = jzL L q) {Q : jZ → jI → jL → Prop} (kk : ∀ Z' I' L', ST B Zs Is Ls U h0 c J K Z' I' L' → jk Z' q k → q ∉ h0 :: U → jext Z Z' → (∀ a ∈ Z.1, sm1 Z I L Z' I' L' a) → Q Z' I' L') : f q Z1 I1 L1 Q := by
  subst eZ; subst eI; subst eL
  obtain ⟨g1, g2, g3, g4, g5, g6, g7, g8, g9, g10⟩ := ST_nw (k := k) (m := 0) h hq
  refine hf B _ _ _ (h0 :: U) q Q g1 g2 g4 g5 g6 g7 g8 (fun Z' I' L' hC' hx' hs' => ?_)
  have hs : ∀ a ∈ Z.1, sm1 Z I L Z' I' L' a := fun a ha => sm1_trans (g10 a ha) (hs' a (g9 a _ ⟨ha, rfl⟩).1.1 (fun e => hq (e ▸ ha)))
  exact kk Z' I' L' (ST_go h hC' (jext_trans g9 hx') hs) (hx' _ _ g2).1 g5 (jext_trans g9 hx') hs
/-- two rows of bytes and the row of them -/
theorem ST_mna {B : jZ × jI × jL} {Zs Z : jZ} {Is I : jI} {Ls L : jL} {U : List Nat} {h0 c : Nat} {J K : List Nat} (j : Nat) {r0 r1 q : Nat} (h : ST B Zs Is Ls U h0 c J K Z I L) (h0' : r0 ∉ Z.1) (h1' : r1 ∉ (jnw Z r0 13 40).1) (hq : q ∉ (jnw (jnw Z r0 13 40) r1 13 40).1) (hj : jsh c j = some (19, some 2)) : ST B Zs Is Ls U h0 c (j :: J) K (jpR (jnw2 Z r0 r1 q) h0 j (some q)) (jz2 I r0 r1 q) (jzL2 L r0 r1 q) := by
  have arr : ∀ {Z : jZ} {I : jI} {L : jL} {r : Nat}, ST B Zs Is Ls U h0 c J K Z I L → r ∉ Z.1 → ST B Zs Is Ls U h0 c J K (jnw Z r 13 40) (jz0 I r) (jzL L r) := by
    intro Z I L r h hr
    obtain ⟨g1, g2, g3, g4, g5, g6, g7, g8, g9, g10⟩ := ST_nw (k := 13) (m := 40) h hr
    exact ST_go h (CI_done g1 g2 g4 (sh1_prim (by decide) (by decide)) ⟨fun j => by rw [g7, jz_arr (by decide)], g8⟩) g9 g10
  have s1 := arr h h0'
  have s2 := arr s1 h1'
  obtain ⟨g1, g2, g3, g4, g5, g6, g7, g8, g9, g10⟩ := ST_nw (k := 19) (m := 2) s2 hq
  have ho : ∀ a, a ≠ q → sm1 (jnw (jnw (jnw Z r0 13 40) r1 13 40) q 19 2) (jz2 I r0 r1 q) (jzL2 L r0 r1 q) (jnw2 Z r0 r1 q) (jz2 I r0 r1 q) (jzL2 L r0 r1 q) a := fun a ha => ⟨(va_up_ne _ _ ha).trans (va_up_ne _ _ ha), rfl, rfl⟩
  have c1 := CI_put (Z' := jnw2 Z r0 r1 q) (I' := jz2 I r0 r1 q) (L' := jzL2 L r0 r1 q) g1 List.mem_cons_self rfl rfl rfl ho
  have kr0 : jk (jnw (jnw Z r0 13 40) r1 13 40) r0 13 ∧ jlen (jnw (jnw Z r0 13 40) r1 13 40) r0 = 40 := ⟨(jext_nw h1' _ _ jk_nw).1, (jext_nw h1' _ _ jk_nw).2.trans jlen_nw⟩
  have kr1 : jk (jnw (jnw Z r0 13 40) r1 13 40) r1 13 ∧ jlen (jnw (jnw Z r0 13 40) r1 13 40) r1 = 40 := ⟨jk_nw, jlen_nw⟩
  have nU : ∀ {Z : jZ} {I : jI} {L : jL} {r : Nat}, ST B Zs Is Ls U h0 c J K Z I L → r ∉ Z.1 → r ∉ h0 :: U := fun h hr => (ST_nw (k := 13) (m := 40) h hr).2.2.2.2.1
  have e0 : jr (jnw2 Z r0 r1 q) q 0 = some r0 := by simp [jr, jnw2, jpR, va_up]
  have e1 : jr (jnw2 Z r0 r1 q) q 1 = some r1 := by simp [jr, jnw2, jpR, va_up]
  have c2 := CI_done c1 (c := 19) g2 g4 ⟨fun j' k' o e => jsh_no (by decide) e, fun e => by omega, fun e => by omega, fun _ i hi => by
      have hi : i < 2 := by rw [show jlen (jnw2 Z r0 r1 q) q = 2 from g3] at hi; exact hi
      rcases (show i = 0 ∨ i = 1 by omega) with rfl | rfl
      · exact ⟨r0, e0, nU h h0', (g9 _ _ kr0.1).1, (g9 _ _ kr0.1).2.trans kr0.2⟩
      · exact ⟨r1, e1, nU s1 h1', (g9 _ _ kr1.1).1, (g9 _ _ kr1.1).2.trans kr1.2⟩⟩ ⟨fun j => by rw [show jz2 I r0 r1 q q j = 0 from g7 j, jz_arr (by decide)], g8⟩
  have s3 := ST_go s2 c2 (Z' := jnw2 Z r0 r1 q) (jext_trans g9 (jext_trans jext_putr jext_putr)) (fun a ha => sm1_trans (g10 a ha) (ho a (fun e => hq (e ▸ ha))))
  exact ST_ref j s3 g5 (shL hj g2 g3)
/-- a new array of pilgrims holds none -/
theorem sh1_pnull {B : jZ × jI × jL} {Zs Z : jZ} {Is I : jI} {Ls L : jL} {U : List Nat} {h0 c : Nat} {J K : List Nat} {q m : Nat} {U' : List Nat} (_ : ST B Zs Is Ls U h0 c J K Z I L) (_ : q ∉ Z.1) : sh1 (jnw Z q 18 m) U' q 18 := by
  refine ⟨fun j k o e => jsh_no (by decide) e, fun _ i b e => ?_, fun e => by omega, fun e => by omega⟩
  · have e2 : va_up Z.2.2.2 q (fun _ => none) q i = some b := e
    rw [va_up_self] at e2; cases e2

set_option maxHeartbeats 4000000 in
set_option maxRecDepth 100000 in
theorem p_X10_init : CTOR 10 f_X10_init := by
  intro B Z I L U h0 Q hC hk hB hU hUZ hI hL hQ
  have s0 := ST_start hC hk hB hUZ hI hL
  unfold f_X10_init
  intro q1 nq1 Z2 eZ2 I3 eI3 L4 eL4
  intro Z5 eZ5
  have s6 := ST_arr 0 (k := 13) (m := 80) s0 nq1 (by decide) (by decide) (shM rfl)
  rw [← eZ2, ← eZ5, ← eI3, ← eL4] at s6
  intro I7 eI7
  have s8 := ST_int 1 s6 (v := 0) rfl
  rw [← eI7] at s8
  obtain ⟨e1, e2, e3⟩ := ST_end s8 hU (shJ (by decide)) (by decide) (shK (by decide))
  exact hQ _ _ _ e1 e2 e3
set_option maxHeartbeats 4000000 in
set_option maxRecDepth 100000 in
theorem p_X9_init : CTOR 9 f_X9_init := by
  intro B Z I L U h0 Q hC hk hB hU hUZ hI hL hQ
  have s0 := ST_start hC hk hB hUZ hI hL
  unfold f_X9_init
  intro q1 nq1 Z2 eZ2 I3 eI3 L4 eL4
  intro Z5 eZ5
  have s6 := ST_arr 0 (k := 14) (m := 24) s0 nq1 (by decide) (by decide) (shM rfl)
  rw [← eZ2, ← eZ5, ← eI3, ← eL4] at s6
  intro q7 nq7 Z8 eZ8 I9 eI9 L10 eL10
  intro Z11 eZ11
  have s12 := ST_arr 1 (k := 14) (m := 24) s6 nq7 (by decide) (by decide) (shM rfl)
  rw [← eZ8, ← eZ11, ← eI9, ← eL10] at s12
  intro q13 nq13 Z14 eZ14 I15 eI15 L16 eL16
  intro Z17 eZ17
  have s18 := ST_arr 2 (k := 14) (m := 24) s12 nq13 (by decide) (by decide) (shM rfl)
  rw [← eZ14, ← eZ17, ← eI15, ← eL16] at s18
  intro q19 nq19 Z20 eZ20 I21 eI21 L22 eL22
  intro Z23 eZ23
  have s24 := ST_arr 3 (k := 14) (m := 24) s18 nq19 (by decide) (by decide) (shM rfl)
  rw [← eZ20, ← eZ23, ← eI21, ← eL22] at s24
  intro q25 nq25 Z26 eZ26 I27 eI27 L28 eL28
  intro Z29 eZ29
  have s30 := ST_arr 4 (k := 14) (m := 24) s24 nq25 (by decide) (by decide) (shM rfl)
  rw [← eZ26, ← eZ29, ← eI27, ← eL28] at s30
  intro I31 eI31
  have s32 := ST_int 5 s30 (v := 0) rfl
  rw [← eI31] at s32
  intro I33 eI33
  have s34 := ST_int 6 s32 (v := 0) rfl
  rw [← eI33] at s34
  intro I35 eI35
  have s36 := ST_int 7 s34 (v := 0) rfl
  rw [← eI35] at s36
  intro I37 eI37
  have s38 := ST_int 8 s36 (v := -1) rfl
  rw [← eI37] at s38
  obtain ⟨e1, e2, e3⟩ := ST_end s38 hU (shJ (by decide)) (by decide) (shK (by decide))
  exact hQ _ _ _ e1 e2 e3
set_option maxHeartbeats 4000000 in
set_option maxRecDepth 100000 in
theorem p_X4_init : CTOR 4 f_X4_init := by
  intro B Z I L U h0 Q hC hk hB hU hUZ hI hL hQ
  have s0 := ST_start hC hk hB hUZ hI hL
  unfold f_X4_init
  intro q1 nq1 Z2 eZ2 I3 eI3 L4 eL4
  intro Z5 eZ5
  have s6 := ST_arr 0 (k := 14) (m := 192) s0 nq1 (by decide) (by decide) (shM rfl)
  rw [← eZ2, ← eZ5, ← eI3, ← eL4] at s6
  intro q7 nq7 Z8 eZ8 I9 eI9 L10 eL10
  intro Z11 eZ11
  have s12 := ST_arr 1 (k := 14) (m := 24) s6 nq7 (by decide) (by decide) (shM rfl)
  rw [← eZ8, ← eZ11, ← eI9, ← eL10] at s12
  intro q13 nq13 Z14 eZ14 I15 eI15 L16 eL16
  intro Z17 eZ17
  have s18 := ST_arr 2 (k := 14) (m := 1536) s12 nq13 (by decide) (by decide) (shM rfl)
  rw [← eZ14, ← eZ17, ← eI15, ← eL16] at s18
  intro I19 eI19
  have s20 := ST_int 3 s18 (v := 0) rfl
  rw [← eI19] at s20
  intro I21 eI21
  have s22 := ST_int 4 s20 (v := 0) rfl
  rw [← eI21] at s22
  obtain ⟨e1, e2, e3⟩ := ST_end s22 hU (shJ (by decide)) (by decide) (shK (by decide))
  exact hQ _ _ _ e1 e2 e3
set_option maxHeartbeats 4000000 in
set_option maxRecDepth 100000 in
theorem p_X3_init : CTOR 3 f_X3_init := by
  intro B Z I L U h0 Q hC hk hB hU hUZ hI hL hQ
  have s0 := ST_start hC hk hB hUZ hI hL
  unfold f_X3_init
  intro q1 nq1 Z2 eZ2 I3 eI3 L4 eL4
  intro Z5 eZ5
  have s6 := ST_arr 0 (k := 14) (m := 40) s0 nq1 (by decide) (by decide) (shM rfl)
  rw [← eZ2, ← eZ5, ← eI3, ← eL4] at s6
  intro q7 nq7 Z8 eZ8 I9 eI9 L10 eL10
  intro Z11 eZ11
  have s12 := ST_arr 1 (k := 14) (m := 40) s6 nq7 (by decide) (by decide) (shM rfl)
  rw [← eZ8, ← eZ11, ← eI9, ← eL10] at s12
  intro q13 nq13 Z14 eZ14 I15 eI15 L16 eL16
  intro Z17 eZ17
  have s18 := ST_arr 2 (k := 14) (m := 41) s12 nq13 (by decide) (by decide) (shM rfl)
  rw [← eZ14, ← eZ17, ← eI15, ← eL16] at s18
  intro I19 eI19
  have s20 := ST_int 3 s18 (v := 0) rfl
  rw [← eI19] at s20
  intro I21 eI21
  have s22 := ST_int 4 s20 (v := 0) rfl
  rw [← eI21] at s22
  intro I23 eI23
  have s24 := ST_int 5 s22 (v := 0) rfl
  rw [← eI23] at s24
  intro I25 eI25
  have s26 := ST_int 6 s24 (v := 0) rfl
  rw [← eI25] at s26
  intro I27 eI27
  have s28 := ST_int 7 s26 (v := 0) rfl
  rw [← eI27] at s28
  intro I29 eI29
  have s30 := ST_int 8 s28 (v := -1) rfl
  rw [← eI29] at s30
  obtain ⟨e1, e2, e3⟩ := ST_end s30 hU (shJ (by decide)) (by decide) (shK (by decide))
  exact hQ _ _ _ e1 e2 e3
set_option maxHeartbeats 4000000 in
set_option maxRecDepth 100000 in
theorem p_X8_init : CTOR 8 f_X8_init := by
  intro B Z I L U h0 Q hC hk hB hU hUZ hI hL hQ
  have s0 := ST_start hC hk hB hUZ hI hL
  unfold f_X8_init
  intro q1 nq1 Z2 eZ2 I3 eI3 L4 eL4
  intro Z5 eZ5
  have s6 := ST_arr 0 (k := 14) (m := 24) s0 nq1 (by decide) (by decide) (shM rfl)
  rw [← eZ2, ← eZ5, ← eI3, ← eL4] at s6
  intro q7 nq7 Z8 eZ8 I9 eI9 L10 eL10
  intro Z11 eZ11
  have s12 := ST_arr 1 (k := 14) (m := 24) s6 nq7 (by decide) (by decide) (shM rfl)
  rw [← eZ8, ← eZ11, ← eI9, ← eL10] at s12
  intro q13 nq13 Z14 eZ14 I15 eI15 L16 eL16
  intro Z17 eZ17
  have s18 := ST_arr 2 (k := 14) (m := 24) s12 nq13 (by decide) (by decide) (shM rfl)
  rw [← eZ14, ← eZ17, ← eI15, ← eL16] at s18
  intro q19 nq19 Z20 eZ20 I21 eI21 L22 eL22
  intro Z23 eZ23
  have s24 := ST_arr 3 (k := 14) (m := 24) s18 nq19 (by decide) (by decide) (shM rfl)
  rw [← eZ20, ← eZ23, ← eI21, ← eL22] at s24
  intro q25 nq25 Z26 eZ26 I27 eI27 L28 eL28
  refine ST_obj p_X4_init s24 nq25 eZ26 eI27 eL28 (fun Z29 I30 L31 s32 kq25 uq25 _ _ => ?_)
  intro Z33 eZ33
  have s34 := ST_ref 4 s32 uq25 (shO rfl kq25)
  rw [← eZ33] at s34
  intro q35 nq35 Z36 eZ36 I37 eI37 L38 eL38
  intro Z39 eZ39
  have s40 := ST_arr 5 (k := 14) (m := 8) s34 nq35 (by decide) (by decide) (shM rfl)
  rw [← eZ36, ← eZ39, ← eI37, ← eL38] at s40
  intro q41 nq41 Z42 eZ42 I43 eI43 L44 eL44
  refine ST_obj p_X3_init s40 nq41 eZ42 eI43 eL44 (fun Z45 I46 L47 s48 kq41 uq41 _ _ => ?_)
  intro Z49 eZ49
  have s50 := ST_ref 6 s48 uq41 (shO rfl kq41)
  rw [← eZ49] at s50
  intro q51 nq51 Z52 eZ52 I53 eI53 L54 eL54
  refine ST_obj p_X3_init s50 nq51 eZ52 eI53 eL54 (fun Z55 I56 L57 s58 kq51 uq51 _ _ => ?_)
  intro Z59 eZ59
  have s60 := ST_ref 7 s58 uq51 (shO rfl kq51)
  rw [← eZ59] at s60
  intro q61 nq61 Z62 eZ62 I63 eI63 L64 eL64
  intro Z65 eZ65
  have s66 := ST_arr 8 (k := 14) (m := 7) s60 nq61 (by decide) (by decide) (shM rfl)
  rw [← eZ62, ← eZ65, ← eI63, ← eL64] at s66
  intro I67 eI67
  have s68 := ST_int 9 s66 (v := 0) rfl
  rw [← eI67] at s68
  obtain ⟨e1, e2, e3⟩ := ST_end s68 hU (shJ (by decide)) (by decide) (shK (by decide))
  exact hQ _ _ _ e1 e2 e3
set_option maxHeartbeats 4000000 in
set_option maxRecDepth 100000 in
theorem p_X7_init : CTOR 7 f_X7_init := by
  intro B Z I L U h0 Q hC hk hB hU hUZ hI hL hQ
  have s0 := ST_start hC hk hB hUZ hI hL
  unfold f_X7_init
  intro q1 nq1 Z2 eZ2 I3 eI3 L4 eL4
  intro Z5 eZ5
  have s6 := ST_arr 0 (k := 15) (m := 64) s0 nq1 (by decide) (by decide) (shAn rfl)
  rw [← eZ2, ← eZ5, ← eI3, ← eL4] at s6
  intro q7 nq7 Z8 eZ8 I9 eI9 L10 eL10
  intro Z11 eZ11
  have s12 := ST_arr 1 (k := 14) (m := 25) s6 nq7 (by decide) (by decide) (shM rfl)
  rw [← eZ8, ← eZ11, ← eI9, ← eL10] at s12
  intro q13 nq13 Z14 eZ14 I15 eI15 L16 eL16
  intro Z17 eZ17
  have s18 := ST_arr 2 (k := 14) (m := 25) s12 nq13 (by decide) (by decide) (shM rfl)
  rw [← eZ14, ← eZ17, ← eI15, ← eL16] at s18
  intro I19 eI19
  have s20 := ST_int 3 s18 (v := 0) rfl
  rw [← eI19] at s20
  intro q21 nq21 Z22 eZ22 I23 eI23 L24 eL24
  intro Z25 eZ25
  have s26 := ST_arr 4 (k := 14) (m := 3) s20 nq21 (by decide) (by decide) (shM rfl)
  rw [← eZ22, ← eZ25, ← eI23, ← eL24] at s26
  intro q27 nq27 Z28 eZ28 I29 eI29 L30 eL30
  intro Z31 eZ31
  have s32 := ST_arr 5 (k := 14) (m := 3) s26 nq27 (by decide) (by decide) (shM rfl)
  rw [← eZ28, ← eZ31, ← eI29, ← eL30] at s32
  intro q33 nq33 Z34 eZ34 I35 eI35 L36 eL36
  intro Z37 eZ37
  have s38 := ST_arr 6 (k := 15) (m := 3) s32 nq33 (by decide) (by decide) (shM rfl)
  rw [← eZ34, ← eZ37, ← eI35, ← eL36] at s38
  intro q39 nq39 Z40 eZ40 I41 eI41 L42 eL42
  intro Z43 eZ43
  have s44 := ST_arr 7 (k := 15) (m := 3) s38 nq39 (by decide) (by decide) (shM rfl)
  rw [← eZ40, ← eZ43, ← eI41, ← eL42] at s44
  intro I45 eI45
  have s46 := ST_int 8 s44 (v := 0) rfl
  rw [← eI45] at s46
  intro I47 eI47
  have s48 := ST_int 9 s46 (v := 0) rfl
  rw [← eI47] at s48
  obtain ⟨e1, e2, e3⟩ := ST_end s48 hU (shJ (by decide)) (by decide) (shK (by decide))
  exact hQ _ _ _ e1 e2 e3
set_option maxHeartbeats 4000000 in
set_option maxRecDepth 100000 in
theorem p_X0_init : CTOR 0 f_X0_init := by
  intro B Z I L U h0 Q hC hk hB hU hUZ hI hL hQ
  have s0 := ST_start hC hk hB hUZ hI hL
  unfold f_X0_init
  intro q1 nq1 Z2 eZ2 I3 eI3 L4 eL4
  refine ST_obj p_X7_init s0 nq1 eZ2 eI3 eL4 (fun Z5 I6 L7 s8 kq1 uq1 _ _ => ?_)
  intro Z9 eZ9
  have s10 := ST_ref 0 s8 uq1 (shO rfl kq1)
  rw [← eZ9] at s10
  intro q11 nq11 Z12 eZ12 I13 eI13 L14 eL14
  intro Z15 eZ15
  have s16 := ST_arr 1 (k := 15) (m := 400) s10 nq11 (by decide) (by decide) (shM rfl)
  rw [← eZ12, ← eZ15, ← eI13, ← eL14] at s16
  intro L17 eL17
  have s18 := ST_long 2 s16
  rw [← eL17] at s18
  obtain ⟨e1, e2, e3⟩ := ST_end s18 hU (shJ (by decide)) (by decide) (shK (by decide))
  exact hQ _ _ _ e1 e2 e3
set_option maxHeartbeats 4000000 in
set_option maxRecDepth 100000 in
theorem p_X1_init : CTOR 1 f_X1_init := by
  intro B Z I L U h0 Q hC hk hB hU hUZ hI hL hQ
  have s0 := ST_start hC hk hB hUZ hI hL
  unfold f_X1_init
  intro q1 nq1 Z2 eZ2 I3 eI3 L4 eL4
  intro Z5 eZ5
  have s6 := ST_arr 0 (k := 16) (m := 6) s0 nq1 (by decide) (by decide) (shM rfl)
  rw [← eZ2, ← eZ5, ← eI3, ← eL4] at s6
  intro q7 nq7 Z8 eZ8 I9 eI9 L10 eL10
  intro Z11 eZ11
  have s12 := ST_arr 1 (k := 15) (m := 6) s6 nq7 (by decide) (by decide) (shM rfl)
  rw [← eZ8, ← eZ11, ← eI9, ← eL10] at s12
  intro q13 nq13 Z14 eZ14 I15 eI15 L16 eL16
  intro Z17 eZ17
  have s18 := ST_arr 2 (k := 14) (m := 6) s12 nq13 (by decide) (by decide) (shM rfl)
  rw [← eZ14, ← eZ17, ← eI15, ← eL16] at s18
  intro q19 nq19 Z20 eZ20 I21 eI21 L22 eL22
  intro Z23 eZ23
  have s24 := ST_arr 3 (k := 14) (m := 6) s18 nq19 (by decide) (by decide) (shM rfl)
  rw [← eZ20, ← eZ23, ← eI21, ← eL22] at s24
  intro q25 nq25 Z26 eZ26 I27 eI27 L28 eL28
  intro Z29 eZ29
  have s30 := ST_arr 4 (k := 14) (m := 24) s24 nq25 (by decide) (by decide) (shM rfl)
  rw [← eZ26, ← eZ29, ← eI27, ← eL28] at s30
  intro q31 nq31 Z32 eZ32 I33 eI33 L34 eL34
  intro Z35 eZ35
  have s36 := ST_arr 5 (k := 14) (m := 24) s30 nq31 (by decide) (by decide) (shM rfl)
  rw [← eZ32, ← eZ35, ← eI33, ← eL34] at s36
  intro I37 eI37
  have s38 := ST_int 6 s36 (v := 0) rfl
  rw [← eI37] at s38
  intro I39 eI39
  have s40 := ST_int 7 s38 (v := 0) rfl
  rw [← eI39] at s40
  intro I41 eI41
  have s42 := ST_int 8 s40 (v := 0) rfl
  rw [← eI41] at s42
  intro I43 eI43
  have s44 := ST_int 9 s42 (v := 0) rfl
  rw [← eI43] at s44
  obtain ⟨e1, e2, e3⟩ := ST_end s44 hU (shJ (by decide)) (by decide) (shK (by decide))
  exact hQ _ _ _ e1 e2 e3
set_option maxHeartbeats 4000000 in
set_option maxRecDepth 100000 in
theorem p_X2_init : CTOR 2 f_X2_init := by
  intro B Z I L U h0 Q hC hk hB hU hUZ hI hL hQ
  have s0 := ST_start hC hk hB hUZ hI hL
  unfold f_X2_init
  intro q1 nq1 Z2 eZ2 I3 eI3 L4 eL4
  intro Z5 eZ5
  have s6 := ST_arr 0 (k := 14) (m := 24) s0 nq1 (by decide) (by decide) (shM rfl)
  rw [← eZ2, ← eZ5, ← eI3, ← eL4] at s6
  intro q7 nq7 Z8 eZ8 I9 eI9 L10 eL10
  intro Z11 eZ11
  have s12 := ST_arr 1 (k := 14) (m := 24) s6 nq7 (by decide) (by decide) (shM rfl)
  rw [← eZ8, ← eZ11, ← eI9, ← eL10] at s12
  intro q13 nq13 Z14 eZ14 I15 eI15 L16 eL16
  intro Z17 eZ17
  have s18 := ST_arr 2 (k := 14) (m := 192) s12 nq13 (by decide) (by decide) (shM rfl)
  rw [← eZ14, ← eZ17, ← eI15, ← eL16] at s18
  intro q19 nq19 Z20 eZ20 I21 eI21 L22 eL22
  intro Z23 eZ23
  have s24 := ST_arr 3 (k := 14) (m := 8) s18 nq19 (by decide) (by decide) (shM rfl)
  rw [← eZ20, ← eZ23, ← eI21, ← eL22] at s24
  intro q25 nq25 Z26 eZ26 I27 eI27 L28 eL28
  intro Z29 eZ29
  have s30 := ST_arr 4 (k := 14) (m := 6) s24 nq25 (by decide) (by decide) (shM rfl)
  rw [← eZ26, ← eZ29, ← eI27, ← eL28] at s30
  intro q31 nq31 Z32 eZ32 I33 eI33 L34 eL34
  intro Z35 eZ35
  have s36 := ST_arr 5 (k := 14) (m := 6) s30 nq31 (by decide) (by decide) (shM rfl)
  rw [← eZ32, ← eZ35, ← eI33, ← eL34] at s36
  intro q37 nq37 Z38 eZ38 I39 eI39 L40 eL40
  intro Z41 eZ41
  have s42 := ST_arr 6 (k := 14) (m := 6) s36 nq37 (by decide) (by decide) (shM rfl)
  rw [← eZ38, ← eZ41, ← eI39, ← eL40] at s42
  intro I43 eI43
  have s44 := ST_int 7 s42 (v := 0) rfl
  rw [← eI43] at s44
  intro I45 eI45
  have s46 := ST_int 8 s44 (v := 0) rfl
  rw [← eI45] at s46
  obtain ⟨e1, e2, e3⟩ := ST_end s46 hU (shJ (by decide)) (by decide) (shK (by decide))
  exact hQ _ _ _ e1 e2 e3
set_option maxHeartbeats 4000000 in
set_option maxRecDepth 100000 in
theorem p_X11_init : CTOR 11 f_X11_init := by
  intro B Z I L U h0 Q hC hk hB hU hUZ hI hL hQ
  have s0 := ST_start hC hk hB hUZ hI hL
  unfold f_X11_init
  intro q1 nq1 Z2 eZ2 I3 eI3 L4 eL4
  refine ST_obj p_X10_init s0 nq1 eZ2 eI3 eL4 (fun Z5 I6 L7 s8 kq1 uq1 _ _ => ?_)
  intro Z9 eZ9
  have s10 := ST_ref 0 s8 uq1 (shO rfl kq1)
  rw [← eZ9] at s10
  intro q11 nq11 Z12 eZ12 I13 eI13 L14 eL14
  refine ST_obj p_X9_init s10 nq11 eZ12 eI13 eL14 (fun Z15 I16 L17 s18 kq11 uq11 _ _ => ?_)
  intro Z19 eZ19
  have s20 := ST_ref 1 s18 uq11 (shO rfl kq11)
  rw [← eZ19] at s20
  intro q21 nq21 Z22 eZ22 I23 eI23 L24 eL24
  refine ST_obj p_X8_init s20 nq21 eZ22 eI23 eL24 (fun Z25 I26 L27 s28 kq21 uq21 _ _ => ?_)
  intro Z29 eZ29
  have s30 := ST_ref 2 s28 uq21 (shO rfl kq21)
  rw [← eZ29] at s30
  intro q31 nq31 Z32 eZ32 I33 eI33 L34 eL34
  intro Z35 eZ35
  obtain ⟨g361, g362, g363, g364, g365, g366, g367, g368, g369, g3610⟩ := ST_nw (k := 18) (m := 6) s30 nq31
  have g36c := CI_done g361 g362 g364 (sh1_pnull s30 nq31) ⟨fun j => by rw [g367, jz_arr (by decide)], g368⟩
  have s36 := ST_ref 3 (ST_go s30 g36c g369 g3610) g365 (shL rfl g362 g363)
  rw [← eZ32, ← eZ35, ← eI33, ← eL34] at s36
  intro I37 eI37
  have s38 := ST_int 4 s36 (v := 0) rfl
  rw [← eI37] at s38
  intro q39 nq39 Z40 eZ40 I41 eI41 L42 eL42
  intro Z43 eZ43
  have s44 := ST_arr 5 (k := 14) (m := 8) s38 nq39 (by decide) (by decide) (shM rfl)
  rw [← eZ40, ← eZ43, ← eI41, ← eL42] at s44
  intro q45 nq45 Z46 eZ46 I47 eI47 L48 eL48
  intro Z49 eZ49
  have s50 := ST_arr 6 (k := 14) (m := 8) s44 nq45 (by decide) (by decide) (shM rfl)
  rw [← eZ46, ← eZ49, ← eI47, ← eL48] at s50
  intro q51 nq51 Z52 eZ52 I53 eI53 L54 eL54
  intro Z55 eZ55
  have s56 := ST_arr 7 (k := 14) (m := 8) s50 nq51 (by decide) (by decide) (shM rfl)
  rw [← eZ52, ← eZ55, ← eI53, ← eL54] at s56
  intro q57 nq57 Z58 eZ58 I59 eI59 L60 eL60
  rw [eZ58, eI59, eL60]
  obtain ⟨z1, z2, z3, z4, z5, z6, z7, z8, z9, z10⟩ := ST_nw (k := 17) (m := 2) s56 nq57
  have w0 := ST_start z1 z2 z4 z6 z7 z8
  intro q61 nq61 Z64 eZ64 I65 eI65 L66 eL66
  refine ST_obj p_X2_init w0 nq61 eZ64 eI65 eL66 (fun Z67 I68 L69 w1 kq61 uq61 xq61 mq61 => ?_)
  intro Z70 eZ70
  have w2 := ST_ref 0 (b := q61) w1 uq61 (fun k o e => jsh_no (by decide) e)
  rw [show jpR Z67 q57 0 (some q61) = Z70 from eZ70.symm] at w2
  have a0 : jr Z70 q57 0 = some q61 := by rw [eZ70]; exact (congrFun (va_up_self _ _ _) _).trans (va_up_self _ _ _)
  have b0 : jk Z70 q61 2 := by rw [eZ70]; exact kq61
  intro q62 nq62 Z71 eZ71 I72 eI72 L73 eL73
  refine ST_obj p_X2_init w2 nq62 eZ71 eI72 eL73 (fun Z74 I75 L76 w3 kq62 uq62 xq62 mq62 => ?_)
  intro Z77 eZ77
  have w4 := ST_ref 1 (b := q62) w3 uq62 (fun k o e => jsh_no (by decide) e)
  rw [show jpR Z74 q57 1 (some q62) = Z77 from eZ77.symm] at w4
  have a1 : jr Z77 q57 1 = some q62 := by rw [eZ77]; exact (congrFun (va_up_self _ _ _) _).trans (va_up_self _ _ _)
  have a0 : jr Z77 q57 0 = some q61 := by rw [eZ77]; exact ((congrFun (va_up_self _ _ _) _).trans (va_up_ne _ _ (by decide))).trans ((congrFun (mq62 q57 w2.2.2.2.1.1).1 0).trans a0)
  have b1 : jk Z77 q62 2 := by rw [eZ77]; exact kq62
  have b0 : jk Z77 q61 2 := by rw [eZ77]; exact (xq62 _ _ b0).1
  have lq : jlen Z77 q57 = 2 := (w4.2.1 _ _ z2).2.trans z3
  have cK := CI_done w4.1 (c := 17) w4.2.2.2.1 z4 ⟨fun j k o e => jsh_no (by decide) e, fun e => by omega, fun _ i hi => by
      rw [lq] at hi
      rcases (show i = 0 ∨ i = 1 by omega) with rfl | rfl
      · exact ⟨q61, a0, fun e => uq61 (List.mem_cons_of_mem _ e), b0⟩
      · exact ⟨q62, a1, fun e => uq62 (List.mem_cons_of_mem _ e), b1⟩, fun e => by omega⟩ ⟨fun j => by rw [w4.2.2.2.2.2.2.2.1 j List.not_mem_nil, jz_arr (by decide)], w4.2.2.2.2.2.2.2.2.2⟩
  have s63 := ST_go s56 cK (jext_trans z9 w4.2.1) (fun a ha => sm1_trans (z10 a ha) (w4.2.2.1 a (z9 a _ ⟨ha, rfl⟩).1.1 (fun e => nq57 (e ▸ ha))))
  intro Z78 eZ78
  have s79 := ST_ref 8 s63 z5 (shL rfl w4.2.2.2.1 lq)
  rw [← eZ78] at s79
  intro q80 nq80 Z81 eZ81 I82 eI82 L83 eL83
  refine ST_obj p_X0_init s79 nq80 eZ81 eI82 eL83 (fun Z84 I85 L86 s87 kq80 uq80 _ _ => ?_)
  intro Z88 eZ88
  have s89 := ST_ref 9 s87 uq80 (shO rfl kq80)
  rw [← eZ88] at s89
  intro q90 nq90 Z91 eZ91 I92 eI92 L93 eL93
  refine ST_obj p_X1_init s89 nq90 eZ91 eI92 eL93 (fun Z94 I95 L96 s97 kq90 uq90 _ _ => ?_)
  intro Z98 eZ98
  have s99 := ST_ref 10 s97 uq90 (shO rfl kq90)
  rw [← eZ98] at s99
  intro q100 nq100 Z101 eZ101 I102 eI102 L103 eL103
  intro Z104 eZ104
  have s105 := ST_arr 11 (k := 14) (m := 3) s99 nq100 (by decide) (by decide) (shM rfl)
  rw [← eZ101, ← eZ104, ← eI102, ← eL103] at s105
  intro q106 nq106 Z107 eZ107 I108 eI108 L109 eL109
  intro Z110 eZ110
  have s111 := ST_arr 12 (k := 14) (m := 3) s105 nq106 (by decide) (by decide) (shM rfl)
  rw [← eZ107, ← eZ110, ← eI108, ← eL109] at s111
  intro q112 nq112 Z113 eZ113 I114 eI114 L115 eL115
  intro Z116 eZ116
  have s117 := ST_arr 13 (k := 14) (m := 21) s111 nq112 (by decide) (by decide) (shM rfl)
  rw [← eZ113, ← eZ116, ← eI114, ← eL115] at s117
  intro q118 nq118 Z119 eZ119 I120 eI120 L121 eL121
  intro Z122 eZ122
  have s123 := ST_arr 14 (k := 14) (m := 21) s117 nq118 (by decide) (by decide) (shM rfl)
  rw [← eZ119, ← eZ122, ← eI120, ← eL121] at s123
  intro q124 nq124 Z125 eZ125 I126 eI126 L127 eL127
  intro Z128 eZ128
  have s129 := ST_arr 15 (k := 15) (m := 26) s123 nq124 (by decide) (by decide) (shM rfl)
  rw [← eZ125, ← eZ128, ← eI126, ← eL127] at s129
  intro I130 eI130
  have s131 := ST_int 16 s129 (v := 0) rfl
  rw [← eI130] at s131
  obtain ⟨e1, e2, e3⟩ := ST_end s131 hU (shJ (by decide)) (by decide) (shK (by decide))
  exact hQ _ _ _ e1 e2 e3
set_option maxHeartbeats 4000000 in
set_option maxRecDepth 100000 in
theorem p_X12_init : CTOR 12 f_X12_init := by
  intro B Z I L U h0 Q hC hk hB hU hUZ hI hL hQ
  have s0 := ST_start hC hk hB hUZ hI hL
  unfold f_X12_init
  intro q1 nq1 Z2 eZ2 I3 eI3 L4 eL4
  intro Z5 eZ5
  have s6 := ST_arr 1 (k := 14) (m := 24) s0 nq1 (by decide) (by decide) (shM rfl)
  rw [← eZ2, ← eZ5, ← eI3, ← eL4] at s6
  intro q7 nq7 Z8 eZ8 I9 eI9 L10 eL10
  intro Z11 eZ11
  have s12 := ST_arr 2 (k := 14) (m := 24) s6 nq7 (by decide) (by decide) (shM rfl)
  rw [← eZ8, ← eZ11, ← eI9, ← eL10] at s12
  intro q13 nq13 Z14 eZ14 I15 eI15 L16 eL16
  intro Z17 eZ17
  have s18 := ST_arr 3 (k := 14) (m := 24) s12 nq13 (by decide) (by decide) (shM rfl)
  rw [← eZ14, ← eZ17, ← eI15, ← eL16] at s18
  intro q19 nq19 Z20 eZ20 I21 eI21 L22 eL22
  intro Z23 eZ23
  have s24 := ST_arr 4 (k := 16) (m := 24) s18 nq19 (by decide) (by decide) (shM rfl)
  rw [← eZ20, ← eZ23, ← eI21, ← eL22] at s24
  intro q25 nq25 Z26 eZ26 I27 eI27 L28 eL28
  intro Z29 eZ29
  have s30 := ST_arr 5 (k := 14) (m := 192) s24 nq25 (by decide) (by decide) (shM rfl)
  rw [← eZ26, ← eZ29, ← eI27, ← eL28] at s30
  intro q31 nq31 Z32 eZ32 I33 eI33 L34 eL34
  intro Z35 eZ35
  have s36 := ST_arr 6 (k := 16) (m := 64) s30 nq31 (by decide) (by decide) (shM rfl)
  rw [← eZ32, ← eZ35, ← eI33, ← eL34] at s36
  intro q37 nq37 Z38 eZ38 I39 eI39 L40 eL40
  intro Z41 eZ41
  have s42 := ST_arr 9 (k := 14) (m := 6) s36 nq37 (by decide) (by decide) (shM rfl)
  rw [← eZ38, ← eZ41, ← eI39, ← eL40] at s42
  intro q43 nq43 Z44 eZ44 I45 eI45 L46 eL46
  intro Z47 eZ47
  have s48 := ST_arr 10 (k := 14) (m := 6) s42 nq43 (by decide) (by decide) (shM rfl)
  rw [← eZ44, ← eZ47, ← eI45, ← eL46] at s48
  intro q49 nq49 Z50 eZ50 I51 eI51 L52 eL52
  intro Z53 eZ53
  have s54 := ST_arr 11 (k := 14) (m := 6) s48 nq49 (by decide) (by decide) (shM rfl)
  rw [← eZ50, ← eZ53, ← eI51, ← eL52] at s54
  intro q55 nq55 Z56 eZ56 I57 eI57 L58 eL58
  intro Z59 eZ59
  have s60 := ST_arr 12 (k := 14) (m := 6) s54 nq55 (by decide) (by decide) (shM rfl)
  rw [← eZ56, ← eZ59, ← eI57, ← eL58] at s60
  intro q61 nq61 Z62 eZ62 I63 eI63 L64 eL64
  intro Z65 eZ65
  have s66 := ST_arr 13 (k := 14) (m := 6) s60 nq61 (by decide) (by decide) (shM rfl)
  rw [← eZ62, ← eZ65, ← eI63, ← eL64] at s66
  intro q67 nq67 Z68 eZ68 I69 eI69 L70 eL70
  intro Z71 eZ71
  have s72 := ST_arr 14 (k := 14) (m := 6) s66 nq67 (by decide) (by decide) (shM rfl)
  rw [← eZ68, ← eZ71, ← eI69, ← eL70] at s72
  intro q73 nq73 Z74 eZ74 I75 eI75 L76 eL76
  intro Z77 eZ77
  have s78 := ST_arr 15 (k := 14) (m := 6) s72 nq73 (by decide) (by decide) (shM rfl)
  rw [← eZ74, ← eZ77, ← eI75, ← eL76] at s78
  intro q79 nq79 Z80 eZ80 I81 eI81 L82 eL82
  intro Z83 eZ83
  have s84 := ST_arr 16 (k := 14) (m := 6) s78 nq79 (by decide) (by decide) (shM rfl)
  rw [← eZ80, ← eZ83, ← eI81, ← eL82] at s84
  intro q85 nq85 Z86 eZ86 I87 eI87 L88 eL88
  intro Z89 eZ89
  have s90 := ST_arr 17 (k := 14) (m := 8) s84 nq85 (by decide) (by decide) (shM rfl)
  rw [← eZ86, ← eZ89, ← eI87, ← eL88] at s90
  intro q91 nq91 Z92 eZ92 I93 eI93 L94 eL94
  intro Z95 eZ95
  have s96 := ST_arr 18 (k := 13) (m := 80) s90 nq91 (by decide) (by decide) (shM rfl)
  rw [← eZ92, ← eZ95, ← eI93, ← eL94] at s96
  intro q97 nq97 Z98 eZ98 I99 eI99 L100 eL100
  intro Z101 eZ101
  have s102 := ST_arr 20 (k := 15) (m := 40) s96 nq97 (by decide) (by decide) (shM rfl)
  rw [← eZ98, ← eZ101, ← eI99, ← eL100] at s102
  intro q103 nq103 Z104 eZ104 I105 eI105 L106 eL106
  intro Z107 eZ107
  have s108 := ST_arr 28 (k := 14) (m := 120) s102 nq103 (by decide) (by decide) (shM rfl)
  rw [← eZ104, ← eZ107, ← eI105, ← eL106] at s108
  intro q109 q110 q111 nq109 nq110 nq111 Z112 eZ112 I113 eI113 L114 eL114
  intro Z115 eZ115
  have s116 := ST_mna 29 s108 nq109 nq110 nq111 rfl
  rw [← eZ112, ← eZ115, ← eI113, ← eL114] at s116
  intro q117 nq117 Z118 eZ118 I119 eI119 L120 eL120
  intro Z121 eZ121
  have s122 := ST_arr 30 (k := 14) (m := 2) s116 nq117 (by decide) (by decide) (shM rfl)
  rw [← eZ118, ← eZ121, ← eI119, ← eL120] at s122
  intro I123 eI123
  have s124 := ST_int 31 s122 (v := -1) rfl
  rw [← eI123] at s124
  intro q125 nq125 Z126 eZ126 I127 eI127 L128 eL128
  intro Z129 eZ129
  have s130 := ST_arr 35 (k := 14) (m := 8) s124 nq125 (by decide) (by decide) (shM rfl)
  rw [← eZ126, ← eZ129, ← eI127, ← eL128] at s130
  intro q131 nq131 Z132 eZ132 I133 eI133 L134 eL134
  intro Z135 eZ135
  have s136 := ST_arr 36 (k := 15) (m := 8) s130 nq131 (by decide) (by decide) (shM rfl)
  rw [← eZ132, ← eZ135, ← eI133, ← eL134] at s136
  intro q137 nq137 Z138 eZ138 I139 eI139 L140 eL140
  intro Z141 eZ141
  have s142 := ST_arr 37 (k := 14) (m := 75) s136 nq137 (by decide) (by decide) (shM rfl)
  rw [← eZ138, ← eZ141, ← eI139, ← eL140] at s142
  intro q143 nq143 Z144 eZ144 I145 eI145 L146 eL146
  intro Z147 eZ147
  have s148 := ST_arr 38 (k := 14) (m := 75) s142 nq143 (by decide) (by decide) (shM rfl)
  rw [← eZ144, ← eZ147, ← eI145, ← eL146] at s148
  intro I149 eI149
  have s150 := ST_int 39 s148 (v := -1) rfl
  rw [← eI149] at s150
  intro q151 nq151 Z152 eZ152 I153 eI153 L154 eL154
  intro Z155 eZ155
  have s156 := ST_arr 40 (k := 14) (m := 25000) s150 nq151 (by decide) (by decide) (shM rfl)
  rw [← eZ152, ← eZ155, ← eI153, ← eL154] at s156
  intro q157 nq157 Z158 eZ158 I159 eI159 L160 eL160
  intro Z161 eZ161
  have s162 := ST_arr 44 (k := 14) (m := 24) s156 nq157 (by decide) (by decide) (shM rfl)
  rw [← eZ158, ← eZ161, ← eI159, ← eL160] at s162
  intro q163 nq163 Z164 eZ164 I165 eI165 L166 eL166
  intro Z167 eZ167
  have s168 := ST_arr 45 (k := 14) (m := 484000) s162 nq163 (by decide) (by decide) (shM rfl)
  rw [← eZ164, ← eZ167, ← eI165, ← eL166] at s168
  intro q169 nq169 Z170 eZ170 I171 eI171 L172 eL172
  intro Z173 eZ173
  have s174 := ST_arr 53 (k := 14) (m := 1536) s168 nq169 (by decide) (by decide) (shM rfl)
  rw [← eZ170, ← eZ173, ← eI171, ← eL172] at s174
  intro q175 nq175 Z176 eZ176 I177 eI177 L178 eL178
  intro Z179 eZ179
  have s180 := ST_arr 54 (k := 14) (m := 192) s174 nq175 (by decide) (by decide) (shM rfl)
  rw [← eZ176, ← eZ179, ← eI177, ← eL178] at s180
  intro q181 nq181 Z182 eZ182 I183 eI183 L184 eL184
  intro Z185 eZ185
  have s186 := ST_arr 55 (k := 14) (m := 144) s180 nq181 (by decide) (by decide) (shM rfl)
  rw [← eZ182, ← eZ185, ← eI183, ← eL184] at s186
  intro q187 nq187 Z188 eZ188 I189 eI189 L190 eL190
  intro Z191 eZ191
  have s192 := ST_arr 56 (k := 14) (m := 6) s186 nq187 (by decide) (by decide) (shM rfl)
  rw [← eZ188, ← eZ191, ← eI189, ← eL190] at s192
  intro q193 nq193 Z194 eZ194 I195 eI195 L196 eL196
  intro Z197 eZ197
  have s198 := ST_arr 57 (k := 14) (m := 6) s192 nq193 (by decide) (by decide) (shM rfl)
  rw [← eZ194, ← eZ197, ← eI195, ← eL196] at s198
  intro q199 nq199 Z200 eZ200 I201 eI201 L202 eL202
  intro Z203 eZ203
  have s204 := ST_arr 58 (k := 14) (m := 6) s198 nq199 (by decide) (by decide) (shM rfl)
  rw [← eZ200, ← eZ203, ← eI201, ← eL202] at s204
  intro q205 nq205 Z206 eZ206 I207 eI207 L208 eL208
  intro Z209 eZ209
  have s210 := ST_arr 59 (k := 14) (m := 24) s204 nq205 (by decide) (by decide) (shM rfl)
  rw [← eZ206, ← eZ209, ← eI207, ← eL208] at s210
  intro q211 nq211 Z212 eZ212 I213 eI213 L214 eL214
  intro Z215 eZ215
  have s216 := ST_arr 61 (k := 14) (m := 6) s210 nq211 (by decide) (by decide) (shM rfl)
  rw [← eZ212, ← eZ215, ← eI213, ← eL214] at s216
  intro q217 nq217 Z218 eZ218 I219 eI219 L220 eL220
  intro Z221 eZ221
  have s222 := ST_arr 62 (k := 14) (m := 532) s216 nq217 (by decide) (by decide) (shM rfl)
  rw [← eZ218, ← eZ221, ← eI219, ← eL220] at s222
  intro q223 nq223 Z224 eZ224 I225 eI225 L226 eL226
  intro Z227 eZ227
  have s228 := ST_arr 63 (k := 16) (m := 2) s222 nq223 (by decide) (by decide) (shM rfl)
  rw [← eZ224, ← eZ227, ← eI225, ← eL226] at s228
  intro q229 nq229 Z230 eZ230 I231 eI231 L232 eL232
  intro Z233 eZ233
  have s234 := ST_arr 64 (k := 14) (m := 2) s228 nq229 (by decide) (by decide) (shM rfl)
  rw [← eZ230, ← eZ233, ← eI231, ← eL232] at s234
  intro q235 nq235 Z236 eZ236 I237 eI237 L238 eL238
  intro Z239 eZ239
  have s240 := ST_arr 65 (k := 14) (m := 2) s234 nq235 (by decide) (by decide) (shM rfl)
  rw [← eZ236, ← eZ239, ← eI237, ← eL238] at s240
  obtain ⟨e1, e2, e3⟩ := ST_end s240 hU (shJ (by decide)) (by decide) (shK (by decide))
  exact hQ _ _ _ e1 e2 e3
set_option maxHeartbeats 4000000 in
set_option maxRecDepth 100000 in
theorem cj_X10_init {v0 : Nat} {Z : jZ} {I : jI} {L : jL} {Q1 Q2 Q3 : jZ → jI → jL → Prop} (h1 : f_X10_init v0 Z I L Q1) (h2 : f_X10_init v0 Z I L Q2) (hq : ∀ (Z : jZ) (I : jI) (L : jL), Q1 Z I L → Q2 Z I L → Q3 Z I L) : f_X10_init v0 Z I L Q3 := by
  unfold f_X10_init at h1 h2 ⊢
  intro q1
  specialize h1 q1
  specialize h2 q1
  intro e
  specialize h1 e
  specialize h2 e
  intro Z2
  specialize h1 Z2
  specialize h2 Z2
  intro e
  specialize h1 e
  specialize h2 e
  intro I3
  specialize h1 I3
  specialize h2 I3
  intro e
  specialize h1 e
  specialize h2 e
  intro L4
  specialize h1 L4
  specialize h2 L4
  intro e
  specialize h1 e
  specialize h2 e
  intro Z6
  specialize h1 Z6
  specialize h2 Z6
  intro e
  specialize h1 e
  specialize h2 e
  intro I8
  specialize h1 I8
  specialize h2 I8
  intro e
  specialize h1 e
  specialize h2 e
  exact hq _ _ _ h1 h2
set_option maxHeartbeats 4000000 in
set_option maxRecDepth 100000 in
theorem cj_X9_init {v0 : Nat} {Z : jZ} {I : jI} {L : jL} {Q1 Q2 Q3 : jZ → jI → jL → Prop} (h1 : f_X9_init v0 Z I L Q1) (h2 : f_X9_init v0 Z I L Q2) (hq : ∀ (Z : jZ) (I : jI) (L : jL), Q1 Z I L → Q2 Z I L → Q3 Z I L) : f_X9_init v0 Z I L Q3 := by
  unfold f_X9_init at h1 h2 ⊢
  intro q1
  specialize h1 q1
  specialize h2 q1
  intro e
  specialize h1 e
  specialize h2 e
  intro Z2
  specialize h1 Z2
  specialize h2 Z2
  intro e
  specialize h1 e
  specialize h2 e
  intro I3
  specialize h1 I3
  specialize h2 I3
  intro e
  specialize h1 e
  specialize h2 e
  intro L4
  specialize h1 L4
  specialize h2 L4
  intro e
  specialize h1 e
  specialize h2 e
  intro Z6
  specialize h1 Z6
  specialize h2 Z6
  intro e
  specialize h1 e
  specialize h2 e
  intro q8
  specialize h1 q8
  specialize h2 q8
  intro e
  specialize h1 e
  specialize h2 e
  intro Z9
  specialize h1 Z9
  specialize h2 Z9
  intro e
  specialize h1 e
  specialize h2 e
  intro I10
  specialize h1 I10
  specialize h2 I10
  intro e
  specialize h1 e
  specialize h2 e
  intro L11
  specialize h1 L11
  specialize h2 L11
  intro e
  specialize h1 e
  specialize h2 e
  intro Z13
  specialize h1 Z13
  specialize h2 Z13
  intro e
  specialize h1 e
  specialize h2 e
  intro q15
  specialize h1 q15
  specialize h2 q15
  intro e
  specialize h1 e
  specialize h2 e
  intro Z16
  specialize h1 Z16
  specialize h2 Z16
  intro e
  specialize h1 e
  specialize h2 e
  intro I17
  specialize h1 I17
  specialize h2 I17
  intro e
  specialize h1 e
  specialize h2 e
  intro L18
  specialize h1 L18
  specialize h2 L18
  intro e
  specialize h1 e
  specialize h2 e
  intro Z20
  specialize h1 Z20
  specialize h2 Z20
  intro e
  specialize h1 e
  specialize h2 e
  intro q22
  specialize h1 q22
  specialize h2 q22
  intro e
  specialize h1 e
  specialize h2 e
  intro Z23
  specialize h1 Z23
  specialize h2 Z23
  intro e
  specialize h1 e
  specialize h2 e
  intro I24
  specialize h1 I24
  specialize h2 I24
  intro e
  specialize h1 e
  specialize h2 e
  intro L25
  specialize h1 L25
  specialize h2 L25
  intro e
  specialize h1 e
  specialize h2 e
  intro Z27
  specialize h1 Z27
  specialize h2 Z27
  intro e
  specialize h1 e
  specialize h2 e
  intro q29
  specialize h1 q29
  specialize h2 q29
  intro e
  specialize h1 e
  specialize h2 e
  intro Z30
  specialize h1 Z30
  specialize h2 Z30
  intro e
  specialize h1 e
  specialize h2 e
  intro I31
  specialize h1 I31
  specialize h2 I31
  intro e
  specialize h1 e
  specialize h2 e
  intro L32
  specialize h1 L32
  specialize h2 L32
  intro e
  specialize h1 e
  specialize h2 e
  intro Z34
  specialize h1 Z34
  specialize h2 Z34
  intro e
  specialize h1 e
  specialize h2 e
  intro I36
  specialize h1 I36
  specialize h2 I36
  intro e
  specialize h1 e
  specialize h2 e
  intro I37
  specialize h1 I37
  specialize h2 I37
  intro e
  specialize h1 e
  specialize h2 e
  intro I38
  specialize h1 I38
  specialize h2 I38
  intro e
  specialize h1 e
  specialize h2 e
  intro I39
  specialize h1 I39
  specialize h2 I39
  intro e
  specialize h1 e
  specialize h2 e
  exact hq _ _ _ h1 h2
set_option maxHeartbeats 4000000 in
set_option maxRecDepth 100000 in
theorem cj_X4_init {v0 : Nat} {Z : jZ} {I : jI} {L : jL} {Q1 Q2 Q3 : jZ → jI → jL → Prop} (h1 : f_X4_init v0 Z I L Q1) (h2 : f_X4_init v0 Z I L Q2) (hq : ∀ (Z : jZ) (I : jI) (L : jL), Q1 Z I L → Q2 Z I L → Q3 Z I L) : f_X4_init v0 Z I L Q3 := by
  unfold f_X4_init at h1 h2 ⊢
  intro q1
  specialize h1 q1
  specialize h2 q1
  intro e
  specialize h1 e
  specialize h2 e
  intro Z2
  specialize h1 Z2
  specialize h2 Z2
  intro e
  specialize h1 e
  specialize h2 e
  intro I3
  specialize h1 I3
  specialize h2 I3
  intro e
  specialize h1 e
  specialize h2 e
  intro L4
  specialize h1 L4
  specialize h2 L4
  intro e
  specialize h1 e
  specialize h2 e
  intro Z6
  specialize h1 Z6
  specialize h2 Z6
  intro e
  specialize h1 e
  specialize h2 e
  intro q8
  specialize h1 q8
  specialize h2 q8
  intro e
  specialize h1 e
  specialize h2 e
  intro Z9
  specialize h1 Z9
  specialize h2 Z9
  intro e
  specialize h1 e
  specialize h2 e
  intro I10
  specialize h1 I10
  specialize h2 I10
  intro e
  specialize h1 e
  specialize h2 e
  intro L11
  specialize h1 L11
  specialize h2 L11
  intro e
  specialize h1 e
  specialize h2 e
  intro Z13
  specialize h1 Z13
  specialize h2 Z13
  intro e
  specialize h1 e
  specialize h2 e
  intro q15
  specialize h1 q15
  specialize h2 q15
  intro e
  specialize h1 e
  specialize h2 e
  intro Z16
  specialize h1 Z16
  specialize h2 Z16
  intro e
  specialize h1 e
  specialize h2 e
  intro I17
  specialize h1 I17
  specialize h2 I17
  intro e
  specialize h1 e
  specialize h2 e
  intro L18
  specialize h1 L18
  specialize h2 L18
  intro e
  specialize h1 e
  specialize h2 e
  intro Z20
  specialize h1 Z20
  specialize h2 Z20
  intro e
  specialize h1 e
  specialize h2 e
  intro I22
  specialize h1 I22
  specialize h2 I22
  intro e
  specialize h1 e
  specialize h2 e
  intro I23
  specialize h1 I23
  specialize h2 I23
  intro e
  specialize h1 e
  specialize h2 e
  exact hq _ _ _ h1 h2
set_option maxHeartbeats 4000000 in
set_option maxRecDepth 100000 in
theorem cj_X3_init {v0 : Nat} {Z : jZ} {I : jI} {L : jL} {Q1 Q2 Q3 : jZ → jI → jL → Prop} (h1 : f_X3_init v0 Z I L Q1) (h2 : f_X3_init v0 Z I L Q2) (hq : ∀ (Z : jZ) (I : jI) (L : jL), Q1 Z I L → Q2 Z I L → Q3 Z I L) : f_X3_init v0 Z I L Q3 := by
  unfold f_X3_init at h1 h2 ⊢
  intro q1
  specialize h1 q1
  specialize h2 q1
  intro e
  specialize h1 e
  specialize h2 e
  intro Z2
  specialize h1 Z2
  specialize h2 Z2
  intro e
  specialize h1 e
  specialize h2 e
  intro I3
  specialize h1 I3
  specialize h2 I3
  intro e
  specialize h1 e
  specialize h2 e
  intro L4
  specialize h1 L4
  specialize h2 L4
  intro e
  specialize h1 e
  specialize h2 e
  intro Z6
  specialize h1 Z6
  specialize h2 Z6
  intro e
  specialize h1 e
  specialize h2 e
  intro q8
  specialize h1 q8
  specialize h2 q8
  intro e
  specialize h1 e
  specialize h2 e
  intro Z9
  specialize h1 Z9
  specialize h2 Z9
  intro e
  specialize h1 e
  specialize h2 e
  intro I10
  specialize h1 I10
  specialize h2 I10
  intro e
  specialize h1 e
  specialize h2 e
  intro L11
  specialize h1 L11
  specialize h2 L11
  intro e
  specialize h1 e
  specialize h2 e
  intro Z13
  specialize h1 Z13
  specialize h2 Z13
  intro e
  specialize h1 e
  specialize h2 e
  intro q15
  specialize h1 q15
  specialize h2 q15
  intro e
  specialize h1 e
  specialize h2 e
  intro Z16
  specialize h1 Z16
  specialize h2 Z16
  intro e
  specialize h1 e
  specialize h2 e
  intro I17
  specialize h1 I17
  specialize h2 I17
  intro e
  specialize h1 e
  specialize h2 e
  intro L18
  specialize h1 L18
  specialize h2 L18
  intro e
  specialize h1 e
  specialize h2 e
  intro Z20
  specialize h1 Z20
  specialize h2 Z20
  intro e
  specialize h1 e
  specialize h2 e
  intro I22
  specialize h1 I22
  specialize h2 I22
  intro e
  specialize h1 e
  specialize h2 e
  intro I23
  specialize h1 I23
  specialize h2 I23
  intro e
  specialize h1 e
  specialize h2 e
  intro I24
  specialize h1 I24
  specialize h2 I24
  intro e
  specialize h1 e
  specialize h2 e
  intro I25
  specialize h1 I25
  specialize h2 I25
  intro e
  specialize h1 e
  specialize h2 e
  intro I26
  specialize h1 I26
  specialize h2 I26
  intro e
  specialize h1 e
  specialize h2 e
  intro I27
  specialize h1 I27
  specialize h2 I27
  intro e
  specialize h1 e
  specialize h2 e
  exact hq _ _ _ h1 h2
set_option maxHeartbeats 4000000 in
set_option maxRecDepth 100000 in
theorem cj_X8_init {v0 : Nat} {Z : jZ} {I : jI} {L : jL} {Q1 Q2 Q3 : jZ → jI → jL → Prop} (h1 : f_X8_init v0 Z I L Q1) (h2 : f_X8_init v0 Z I L Q2) (hq : ∀ (Z : jZ) (I : jI) (L : jL), Q1 Z I L → Q2 Z I L → Q3 Z I L) : f_X8_init v0 Z I L Q3 := by
  unfold f_X8_init at h1 h2 ⊢
  intro q1
  specialize h1 q1
  specialize h2 q1
  intro e
  specialize h1 e
  specialize h2 e
  intro Z2
  specialize h1 Z2
  specialize h2 Z2
  intro e
  specialize h1 e
  specialize h2 e
  intro I3
  specialize h1 I3
  specialize h2 I3
  intro e
  specialize h1 e
  specialize h2 e
  intro L4
  specialize h1 L4
  specialize h2 L4
  intro e
  specialize h1 e
  specialize h2 e
  intro Z6
  specialize h1 Z6
  specialize h2 Z6
  intro e
  specialize h1 e
  specialize h2 e
  intro q8
  specialize h1 q8
  specialize h2 q8
  intro e
  specialize h1 e
  specialize h2 e
  intro Z9
  specialize h1 Z9
  specialize h2 Z9
  intro e
  specialize h1 e
  specialize h2 e
  intro I10
  specialize h1 I10
  specialize h2 I10
  intro e
  specialize h1 e
  specialize h2 e
  intro L11
  specialize h1 L11
  specialize h2 L11
  intro e
  specialize h1 e
  specialize h2 e
  intro Z13
  specialize h1 Z13
  specialize h2 Z13
  intro e
  specialize h1 e
  specialize h2 e
  intro q15
  specialize h1 q15
  specialize h2 q15
  intro e
  specialize h1 e
  specialize h2 e
  intro Z16
  specialize h1 Z16
  specialize h2 Z16
  intro e
  specialize h1 e
  specialize h2 e
  intro I17
  specialize h1 I17
  specialize h2 I17
  intro e
  specialize h1 e
  specialize h2 e
  intro L18
  specialize h1 L18
  specialize h2 L18
  intro e
  specialize h1 e
  specialize h2 e
  intro Z20
  specialize h1 Z20
  specialize h2 Z20
  intro e
  specialize h1 e
  specialize h2 e
  intro q22
  specialize h1 q22
  specialize h2 q22
  intro e
  specialize h1 e
  specialize h2 e
  intro Z23
  specialize h1 Z23
  specialize h2 Z23
  intro e
  specialize h1 e
  specialize h2 e
  intro I24
  specialize h1 I24
  specialize h2 I24
  intro e
  specialize h1 e
  specialize h2 e
  intro L25
  specialize h1 L25
  specialize h2 L25
  intro e
  specialize h1 e
  specialize h2 e
  intro Z27
  specialize h1 Z27
  specialize h2 Z27
  intro e
  specialize h1 e
  specialize h2 e
  intro q29
  specialize h1 q29
  specialize h2 q29
  intro e
  specialize h1 e
  specialize h2 e
  intro Z30
  specialize h1 Z30
  specialize h2 Z30
  intro e
  specialize h1 e
  specialize h2 e
  intro I31
  specialize h1 I31
  specialize h2 I31
  intro e
  specialize h1 e
  specialize h2 e
  intro L32
  specialize h1 L32
  specialize h2 L32
  intro e
  specialize h1 e
  specialize h2 e
  refine cj_X4_init h1 h2 (fun _ _ _ h1 h2 => ?_)
  intro Z42
  specialize h1 Z42
  specialize h2 Z42
  intro e
  specialize h1 e
  specialize h2 e
  intro q44
  specialize h1 q44
  specialize h2 q44
  intro e
  specialize h1 e
  specialize h2 e
  intro Z45
  specialize h1 Z45
  specialize h2 Z45
  intro e
  specialize h1 e
  specialize h2 e
  intro I46
  specialize h1 I46
  specialize h2 I46
  intro e
  specialize h1 e
  specialize h2 e
  intro L47
  specialize h1 L47
  specialize h2 L47
  intro e
  specialize h1 e
  specialize h2 e
  intro Z49
  specialize h1 Z49
  specialize h2 Z49
  intro e
  specialize h1 e
  specialize h2 e
  intro q51
  specialize h1 q51
  specialize h2 q51
  intro e
  specialize h1 e
  specialize h2 e
  intro Z52
  specialize h1 Z52
  specialize h2 Z52
  intro e
  specialize h1 e
  specialize h2 e
  intro I53
  specialize h1 I53
  specialize h2 I53
  intro e
  specialize h1 e
  specialize h2 e
  intro L54
  specialize h1 L54
  specialize h2 L54
  intro e
  specialize h1 e
  specialize h2 e
  refine cj_X3_init h1 h2 (fun _ _ _ h1 h2 => ?_)
  intro Z64
  specialize h1 Z64
  specialize h2 Z64
  intro e
  specialize h1 e
  specialize h2 e
  intro q66
  specialize h1 q66
  specialize h2 q66
  intro e
  specialize h1 e
  specialize h2 e
  intro Z67
  specialize h1 Z67
  specialize h2 Z67
  intro e
  specialize h1 e
  specialize h2 e
  intro I68
  specialize h1 I68
  specialize h2 I68
  intro e
  specialize h1 e
  specialize h2 e
  intro L69
  specialize h1 L69
  specialize h2 L69
  intro e
  specialize h1 e
  specialize h2 e
  refine cj_X3_init h1 h2 (fun _ _ _ h1 h2 => ?_)
  intro Z79
  specialize h1 Z79
  specialize h2 Z79
  intro e
  specialize h1 e
  specialize h2 e
  intro q81
  specialize h1 q81
  specialize h2 q81
  intro e
  specialize h1 e
  specialize h2 e
  intro Z82
  specialize h1 Z82
  specialize h2 Z82
  intro e
  specialize h1 e
  specialize h2 e
  intro I83
  specialize h1 I83
  specialize h2 I83
  intro e
  specialize h1 e
  specialize h2 e
  intro L84
  specialize h1 L84
  specialize h2 L84
  intro e
  specialize h1 e
  specialize h2 e
  intro Z86
  specialize h1 Z86
  specialize h2 Z86
  intro e
  specialize h1 e
  specialize h2 e
  intro I88
  specialize h1 I88
  specialize h2 I88
  intro e
  specialize h1 e
  specialize h2 e
  exact hq _ _ _ h1 h2
set_option maxHeartbeats 4000000 in
set_option maxRecDepth 100000 in
theorem cj_X7_init {v0 : Nat} {Z : jZ} {I : jI} {L : jL} {Q1 Q2 Q3 : jZ → jI → jL → Prop} (h1 : f_X7_init v0 Z I L Q1) (h2 : f_X7_init v0 Z I L Q2) (hq : ∀ (Z : jZ) (I : jI) (L : jL), Q1 Z I L → Q2 Z I L → Q3 Z I L) : f_X7_init v0 Z I L Q3 := by
  unfold f_X7_init at h1 h2 ⊢
  intro q1
  specialize h1 q1
  specialize h2 q1
  intro e
  specialize h1 e
  specialize h2 e
  intro Z2
  specialize h1 Z2
  specialize h2 Z2
  intro e
  specialize h1 e
  specialize h2 e
  intro I3
  specialize h1 I3
  specialize h2 I3
  intro e
  specialize h1 e
  specialize h2 e
  intro L4
  specialize h1 L4
  specialize h2 L4
  intro e
  specialize h1 e
  specialize h2 e
  intro Z6
  specialize h1 Z6
  specialize h2 Z6
  intro e
  specialize h1 e
  specialize h2 e
  intro q8
  specialize h1 q8
  specialize h2 q8
  intro e
  specialize h1 e
  specialize h2 e
  intro Z9
  specialize h1 Z9
  specialize h2 Z9
  intro e
  specialize h1 e
  specialize h2 e
  intro I10
  specialize h1 I10
  specialize h2 I10
  intro e
  specialize h1 e
  specialize h2 e
  intro L11
  specialize h1 L11
  specialize h2 L11
  intro e
  specialize h1 e
  specialize h2 e
  intro Z13
  specialize h1 Z13
  specialize h2 Z13
  intro e
  specialize h1 e
  specialize h2 e
  intro q15
  specialize h1 q15
  specialize h2 q15
  intro e
  specialize h1 e
  specialize h2 e
  intro Z16
  specialize h1 Z16
  specialize h2 Z16
  intro e
  specialize h1 e
  specialize h2 e
  intro I17
  specialize h1 I17
  specialize h2 I17
  intro e
  specialize h1 e
  specialize h2 e
  intro L18
  specialize h1 L18
  specialize h2 L18
  intro e
  specialize h1 e
  specialize h2 e
  intro Z20
  specialize h1 Z20
  specialize h2 Z20
  intro e
  specialize h1 e
  specialize h2 e
  intro I22
  specialize h1 I22
  specialize h2 I22
  intro e
  specialize h1 e
  specialize h2 e
  intro q23
  specialize h1 q23
  specialize h2 q23
  intro e
  specialize h1 e
  specialize h2 e
  intro Z24
  specialize h1 Z24
  specialize h2 Z24
  intro e
  specialize h1 e
  specialize h2 e
  intro I25
  specialize h1 I25
  specialize h2 I25
  intro e
  specialize h1 e
  specialize h2 e
  intro L26
  specialize h1 L26
  specialize h2 L26
  intro e
  specialize h1 e
  specialize h2 e
  intro Z28
  specialize h1 Z28
  specialize h2 Z28
  intro e
  specialize h1 e
  specialize h2 e
  intro q30
  specialize h1 q30
  specialize h2 q30
  intro e
  specialize h1 e
  specialize h2 e
  intro Z31
  specialize h1 Z31
  specialize h2 Z31
  intro e
  specialize h1 e
  specialize h2 e
  intro I32
  specialize h1 I32
  specialize h2 I32
  intro e
  specialize h1 e
  specialize h2 e
  intro L33
  specialize h1 L33
  specialize h2 L33
  intro e
  specialize h1 e
  specialize h2 e
  intro Z35
  specialize h1 Z35
  specialize h2 Z35
  intro e
  specialize h1 e
  specialize h2 e
  intro q37
  specialize h1 q37
  specialize h2 q37
  intro e
  specialize h1 e
  specialize h2 e
  intro Z38
  specialize h1 Z38
  specialize h2 Z38
  intro e
  specialize h1 e
  specialize h2 e
  intro I39
  specialize h1 I39
  specialize h2 I39
  intro e
  specialize h1 e
  specialize h2 e
  intro L40
  specialize h1 L40
  specialize h2 L40
  intro e
  specialize h1 e
  specialize h2 e
  intro Z42
  specialize h1 Z42
  specialize h2 Z42
  intro e
  specialize h1 e
  specialize h2 e
  intro q44
  specialize h1 q44
  specialize h2 q44
  intro e
  specialize h1 e
  specialize h2 e
  intro Z45
  specialize h1 Z45
  specialize h2 Z45
  intro e
  specialize h1 e
  specialize h2 e
  intro I46
  specialize h1 I46
  specialize h2 I46
  intro e
  specialize h1 e
  specialize h2 e
  intro L47
  specialize h1 L47
  specialize h2 L47
  intro e
  specialize h1 e
  specialize h2 e
  intro Z49
  specialize h1 Z49
  specialize h2 Z49
  intro e
  specialize h1 e
  specialize h2 e
  intro I51
  specialize h1 I51
  specialize h2 I51
  intro e
  specialize h1 e
  specialize h2 e
  intro I52
  specialize h1 I52
  specialize h2 I52
  intro e
  specialize h1 e
  specialize h2 e
  exact hq _ _ _ h1 h2
set_option maxHeartbeats 4000000 in
set_option maxRecDepth 100000 in
theorem cj_X0_init {v0 : Nat} {Z : jZ} {I : jI} {L : jL} {Q1 Q2 Q3 : jZ → jI → jL → Prop} (h1 : f_X0_init v0 Z I L Q1) (h2 : f_X0_init v0 Z I L Q2) (hq : ∀ (Z : jZ) (I : jI) (L : jL), Q1 Z I L → Q2 Z I L → Q3 Z I L) : f_X0_init v0 Z I L Q3 := by
  unfold f_X0_init at h1 h2 ⊢
  intro q1
  specialize h1 q1
  specialize h2 q1
  intro e
  specialize h1 e
  specialize h2 e
  intro Z2
  specialize h1 Z2
  specialize h2 Z2
  intro e
  specialize h1 e
  specialize h2 e
  intro I3
  specialize h1 I3
  specialize h2 I3
  intro e
  specialize h1 e
  specialize h2 e
  intro L4
  specialize h1 L4
  specialize h2 L4
  intro e
  specialize h1 e
  specialize h2 e
  refine cj_X7_init h1 h2 (fun _ _ _ h1 h2 => ?_)
  intro Z14
  specialize h1 Z14
  specialize h2 Z14
  intro e
  specialize h1 e
  specialize h2 e
  intro q16
  specialize h1 q16
  specialize h2 q16
  intro e
  specialize h1 e
  specialize h2 e
  intro Z17
  specialize h1 Z17
  specialize h2 Z17
  intro e
  specialize h1 e
  specialize h2 e
  intro I18
  specialize h1 I18
  specialize h2 I18
  intro e
  specialize h1 e
  specialize h2 e
  intro L19
  specialize h1 L19
  specialize h2 L19
  intro e
  specialize h1 e
  specialize h2 e
  intro Z21
  specialize h1 Z21
  specialize h2 Z21
  intro e
  specialize h1 e
  specialize h2 e
  intro L23
  specialize h1 L23
  specialize h2 L23
  intro e
  specialize h1 e
  specialize h2 e
  exact hq _ _ _ h1 h2
set_option maxHeartbeats 4000000 in
set_option maxRecDepth 100000 in
theorem cj_X1_init {v0 : Nat} {Z : jZ} {I : jI} {L : jL} {Q1 Q2 Q3 : jZ → jI → jL → Prop} (h1 : f_X1_init v0 Z I L Q1) (h2 : f_X1_init v0 Z I L Q2) (hq : ∀ (Z : jZ) (I : jI) (L : jL), Q1 Z I L → Q2 Z I L → Q3 Z I L) : f_X1_init v0 Z I L Q3 := by
  unfold f_X1_init at h1 h2 ⊢
  intro q1
  specialize h1 q1
  specialize h2 q1
  intro e
  specialize h1 e
  specialize h2 e
  intro Z2
  specialize h1 Z2
  specialize h2 Z2
  intro e
  specialize h1 e
  specialize h2 e
  intro I3
  specialize h1 I3
  specialize h2 I3
  intro e
  specialize h1 e
  specialize h2 e
  intro L4
  specialize h1 L4
  specialize h2 L4
  intro e
  specialize h1 e
  specialize h2 e
  intro Z6
  specialize h1 Z6
  specialize h2 Z6
  intro e
  specialize h1 e
  specialize h2 e
  intro q8
  specialize h1 q8
  specialize h2 q8
  intro e
  specialize h1 e
  specialize h2 e
  intro Z9
  specialize h1 Z9
  specialize h2 Z9
  intro e
  specialize h1 e
  specialize h2 e
  intro I10
  specialize h1 I10
  specialize h2 I10
  intro e
  specialize h1 e
  specialize h2 e
  intro L11
  specialize h1 L11
  specialize h2 L11
  intro e
  specialize h1 e
  specialize h2 e
  intro Z13
  specialize h1 Z13
  specialize h2 Z13
  intro e
  specialize h1 e
  specialize h2 e
  intro q15
  specialize h1 q15
  specialize h2 q15
  intro e
  specialize h1 e
  specialize h2 e
  intro Z16
  specialize h1 Z16
  specialize h2 Z16
  intro e
  specialize h1 e
  specialize h2 e
  intro I17
  specialize h1 I17
  specialize h2 I17
  intro e
  specialize h1 e
  specialize h2 e
  intro L18
  specialize h1 L18
  specialize h2 L18
  intro e
  specialize h1 e
  specialize h2 e
  intro Z20
  specialize h1 Z20
  specialize h2 Z20
  intro e
  specialize h1 e
  specialize h2 e
  intro q22
  specialize h1 q22
  specialize h2 q22
  intro e
  specialize h1 e
  specialize h2 e
  intro Z23
  specialize h1 Z23
  specialize h2 Z23
  intro e
  specialize h1 e
  specialize h2 e
  intro I24
  specialize h1 I24
  specialize h2 I24
  intro e
  specialize h1 e
  specialize h2 e
  intro L25
  specialize h1 L25
  specialize h2 L25
  intro e
  specialize h1 e
  specialize h2 e
  intro Z27
  specialize h1 Z27
  specialize h2 Z27
  intro e
  specialize h1 e
  specialize h2 e
  intro q29
  specialize h1 q29
  specialize h2 q29
  intro e
  specialize h1 e
  specialize h2 e
  intro Z30
  specialize h1 Z30
  specialize h2 Z30
  intro e
  specialize h1 e
  specialize h2 e
  intro I31
  specialize h1 I31
  specialize h2 I31
  intro e
  specialize h1 e
  specialize h2 e
  intro L32
  specialize h1 L32
  specialize h2 L32
  intro e
  specialize h1 e
  specialize h2 e
  intro Z34
  specialize h1 Z34
  specialize h2 Z34
  intro e
  specialize h1 e
  specialize h2 e
  intro q36
  specialize h1 q36
  specialize h2 q36
  intro e
  specialize h1 e
  specialize h2 e
  intro Z37
  specialize h1 Z37
  specialize h2 Z37
  intro e
  specialize h1 e
  specialize h2 e
  intro I38
  specialize h1 I38
  specialize h2 I38
  intro e
  specialize h1 e
  specialize h2 e
  intro L39
  specialize h1 L39
  specialize h2 L39
  intro e
  specialize h1 e
  specialize h2 e
  intro Z41
  specialize h1 Z41
  specialize h2 Z41
  intro e
  specialize h1 e
  specialize h2 e
  intro I43
  specialize h1 I43
  specialize h2 I43
  intro e
  specialize h1 e
  specialize h2 e
  intro I44
  specialize h1 I44
  specialize h2 I44
  intro e
  specialize h1 e
  specialize h2 e
  intro I45
  specialize h1 I45
  specialize h2 I45
  intro e
  specialize h1 e
  specialize h2 e
  intro I46
  specialize h1 I46
  specialize h2 I46
  intro e
  specialize h1 e
  specialize h2 e
  exact hq _ _ _ h1 h2
set_option maxHeartbeats 4000000 in
set_option maxRecDepth 100000 in
theorem cj_X2_init {v0 : Nat} {Z : jZ} {I : jI} {L : jL} {Q1 Q2 Q3 : jZ → jI → jL → Prop} (h1 : f_X2_init v0 Z I L Q1) (h2 : f_X2_init v0 Z I L Q2) (hq : ∀ (Z : jZ) (I : jI) (L : jL), Q1 Z I L → Q2 Z I L → Q3 Z I L) : f_X2_init v0 Z I L Q3 := by
  unfold f_X2_init at h1 h2 ⊢
  intro q1
  specialize h1 q1
  specialize h2 q1
  intro e
  specialize h1 e
  specialize h2 e
  intro Z2
  specialize h1 Z2
  specialize h2 Z2
  intro e
  specialize h1 e
  specialize h2 e
  intro I3
  specialize h1 I3
  specialize h2 I3
  intro e
  specialize h1 e
  specialize h2 e
  intro L4
  specialize h1 L4
  specialize h2 L4
  intro e
  specialize h1 e
  specialize h2 e
  intro Z6
  specialize h1 Z6
  specialize h2 Z6
  intro e
  specialize h1 e
  specialize h2 e
  intro q8
  specialize h1 q8
  specialize h2 q8
  intro e
  specialize h1 e
  specialize h2 e
  intro Z9
  specialize h1 Z9
  specialize h2 Z9
  intro e
  specialize h1 e
  specialize h2 e
  intro I10
  specialize h1 I10
  specialize h2 I10
  intro e
  specialize h1 e
  specialize h2 e
  intro L11
  specialize h1 L11
  specialize h2 L11
  intro e
  specialize h1 e
  specialize h2 e
  intro Z13
  specialize h1 Z13
  specialize h2 Z13
  intro e
  specialize h1 e
  specialize h2 e
  intro q15
  specialize h1 q15
  specialize h2 q15
  intro e
  specialize h1 e
  specialize h2 e
  intro Z16
  specialize h1 Z16
  specialize h2 Z16
  intro e
  specialize h1 e
  specialize h2 e
  intro I17
  specialize h1 I17
  specialize h2 I17
  intro e
  specialize h1 e
  specialize h2 e
  intro L18
  specialize h1 L18
  specialize h2 L18
  intro e
  specialize h1 e
  specialize h2 e
  intro Z20
  specialize h1 Z20
  specialize h2 Z20
  intro e
  specialize h1 e
  specialize h2 e
  intro q22
  specialize h1 q22
  specialize h2 q22
  intro e
  specialize h1 e
  specialize h2 e
  intro Z23
  specialize h1 Z23
  specialize h2 Z23
  intro e
  specialize h1 e
  specialize h2 e
  intro I24
  specialize h1 I24
  specialize h2 I24
  intro e
  specialize h1 e
  specialize h2 e
  intro L25
  specialize h1 L25
  specialize h2 L25
  intro e
  specialize h1 e
  specialize h2 e
  intro Z27
  specialize h1 Z27
  specialize h2 Z27
  intro e
  specialize h1 e
  specialize h2 e
  intro q29
  specialize h1 q29
  specialize h2 q29
  intro e
  specialize h1 e
  specialize h2 e
  intro Z30
  specialize h1 Z30
  specialize h2 Z30
  intro e
  specialize h1 e
  specialize h2 e
  intro I31
  specialize h1 I31
  specialize h2 I31
  intro e
  specialize h1 e
  specialize h2 e
  intro L32
  specialize h1 L32
  specialize h2 L32
  intro e
  specialize h1 e
  specialize h2 e
  intro Z34
  specialize h1 Z34
  specialize h2 Z34
  intro e
  specialize h1 e
  specialize h2 e
  intro q36
  specialize h1 q36
  specialize h2 q36
  intro e
  specialize h1 e
  specialize h2 e
  intro Z37
  specialize h1 Z37
  specialize h2 Z37
  intro e
  specialize h1 e
  specialize h2 e
  intro I38
  specialize h1 I38
  specialize h2 I38
  intro e
  specialize h1 e
  specialize h2 e
  intro L39
  specialize h1 L39
  specialize h2 L39
  intro e
  specialize h1 e
  specialize h2 e
  intro Z41
  specialize h1 Z41
  specialize h2 Z41
  intro e
  specialize h1 e
  specialize h2 e
  intro q43
  specialize h1 q43
  specialize h2 q43
  intro e
  specialize h1 e
  specialize h2 e
  intro Z44
  specialize h1 Z44
  specialize h2 Z44
  intro e
  specialize h1 e
  specialize h2 e
  intro I45
  specialize h1 I45
  specialize h2 I45
  intro e
  specialize h1 e
  specialize h2 e
  intro L46
  specialize h1 L46
  specialize h2 L46
  intro e
  specialize h1 e
  specialize h2 e
  intro Z48
  specialize h1 Z48
  specialize h2 Z48
  intro e
  specialize h1 e
  specialize h2 e
  intro I50
  specialize h1 I50
  specialize h2 I50
  intro e
  specialize h1 e
  specialize h2 e
  intro I51
  specialize h1 I51
  specialize h2 I51
  intro e
  specialize h1 e
  specialize h2 e
  exact hq _ _ _ h1 h2
set_option maxHeartbeats 4000000 in
set_option maxRecDepth 100000 in
theorem cj_X11_init {v0 : Nat} {Z : jZ} {I : jI} {L : jL} {Q1 Q2 Q3 : jZ → jI → jL → Prop} (h1 : f_X11_init v0 Z I L Q1) (h2 : f_X11_init v0 Z I L Q2) (hq : ∀ (Z : jZ) (I : jI) (L : jL), Q1 Z I L → Q2 Z I L → Q3 Z I L) : f_X11_init v0 Z I L Q3 := by
  unfold f_X11_init at h1 h2 ⊢
  intro q1
  specialize h1 q1
  specialize h2 q1
  intro e
  specialize h1 e
  specialize h2 e
  intro Z2
  specialize h1 Z2
  specialize h2 Z2
  intro e
  specialize h1 e
  specialize h2 e
  intro I3
  specialize h1 I3
  specialize h2 I3
  intro e
  specialize h1 e
  specialize h2 e
  intro L4
  specialize h1 L4
  specialize h2 L4
  intro e
  specialize h1 e
  specialize h2 e
  refine cj_X10_init h1 h2 (fun _ _ _ h1 h2 => ?_)
  intro Z14
  specialize h1 Z14
  specialize h2 Z14
  intro e
  specialize h1 e
  specialize h2 e
  intro q16
  specialize h1 q16
  specialize h2 q16
  intro e
  specialize h1 e
  specialize h2 e
  intro Z17
  specialize h1 Z17
  specialize h2 Z17
  intro e
  specialize h1 e
  specialize h2 e
  intro I18
  specialize h1 I18
  specialize h2 I18
  intro e
  specialize h1 e
  specialize h2 e
  intro L19
  specialize h1 L19
  specialize h2 L19
  intro e
  specialize h1 e
  specialize h2 e
  refine cj_X9_init h1 h2 (fun _ _ _ h1 h2 => ?_)
  intro Z29
  specialize h1 Z29
  specialize h2 Z29
  intro e
  specialize h1 e
  specialize h2 e
  intro q31
  specialize h1 q31
  specialize h2 q31
  intro e
  specialize h1 e
  specialize h2 e
  intro Z32
  specialize h1 Z32
  specialize h2 Z32
  intro e
  specialize h1 e
  specialize h2 e
  intro I33
  specialize h1 I33
  specialize h2 I33
  intro e
  specialize h1 e
  specialize h2 e
  intro L34
  specialize h1 L34
  specialize h2 L34
  intro e
  specialize h1 e
  specialize h2 e
  refine cj_X8_init h1 h2 (fun _ _ _ h1 h2 => ?_)
  intro Z44
  specialize h1 Z44
  specialize h2 Z44
  intro e
  specialize h1 e
  specialize h2 e
  intro q46
  specialize h1 q46
  specialize h2 q46
  intro e
  specialize h1 e
  specialize h2 e
  intro Z47
  specialize h1 Z47
  specialize h2 Z47
  intro e
  specialize h1 e
  specialize h2 e
  intro I48
  specialize h1 I48
  specialize h2 I48
  intro e
  specialize h1 e
  specialize h2 e
  intro L49
  specialize h1 L49
  specialize h2 L49
  intro e
  specialize h1 e
  specialize h2 e
  intro Z51
  specialize h1 Z51
  specialize h2 Z51
  intro e
  specialize h1 e
  specialize h2 e
  intro I53
  specialize h1 I53
  specialize h2 I53
  intro e
  specialize h1 e
  specialize h2 e
  intro q54
  specialize h1 q54
  specialize h2 q54
  intro e
  specialize h1 e
  specialize h2 e
  intro Z55
  specialize h1 Z55
  specialize h2 Z55
  intro e
  specialize h1 e
  specialize h2 e
  intro I56
  specialize h1 I56
  specialize h2 I56
  intro e
  specialize h1 e
  specialize h2 e
  intro L57
  specialize h1 L57
  specialize h2 L57
  intro e
  specialize h1 e
  specialize h2 e
  intro Z59
  specialize h1 Z59
  specialize h2 Z59
  intro e
  specialize h1 e
  specialize h2 e
  intro q61
  specialize h1 q61
  specialize h2 q61
  intro e
  specialize h1 e
  specialize h2 e
  intro Z62
  specialize h1 Z62
  specialize h2 Z62
  intro e
  specialize h1 e
  specialize h2 e
  intro I63
  specialize h1 I63
  specialize h2 I63
  intro e
  specialize h1 e
  specialize h2 e
  intro L64
  specialize h1 L64
  specialize h2 L64
  intro e
  specialize h1 e
  specialize h2 e
  intro Z66
  specialize h1 Z66
  specialize h2 Z66
  intro e
  specialize h1 e
  specialize h2 e
  intro q68
  specialize h1 q68
  specialize h2 q68
  intro e
  specialize h1 e
  specialize h2 e
  intro Z69
  specialize h1 Z69
  specialize h2 Z69
  intro e
  specialize h1 e
  specialize h2 e
  intro I70
  specialize h1 I70
  specialize h2 I70
  intro e
  specialize h1 e
  specialize h2 e
  intro L71
  specialize h1 L71
  specialize h2 L71
  intro e
  specialize h1 e
  specialize h2 e
  intro Z73
  specialize h1 Z73
  specialize h2 Z73
  intro e
  specialize h1 e
  specialize h2 e
  intro q75
  specialize h1 q75
  specialize h2 q75
  intro e
  specialize h1 e
  specialize h2 e
  intro Z76
  specialize h1 Z76
  specialize h2 Z76
  intro e
  specialize h1 e
  specialize h2 e
  intro I77
  specialize h1 I77
  specialize h2 I77
  intro e
  specialize h1 e
  specialize h2 e
  intro L78
  specialize h1 L78
  specialize h2 L78
  intro e
  specialize h1 e
  specialize h2 e
  intro q80
  specialize h1 q80
  specialize h2 q80
  intro e
  specialize h1 e
  specialize h2 e
  intro Z81
  specialize h1 Z81
  specialize h2 Z81
  intro e
  specialize h1 e
  specialize h2 e
  intro I82
  specialize h1 I82
  specialize h2 I82
  intro e
  specialize h1 e
  specialize h2 e
  intro L83
  specialize h1 L83
  specialize h2 L83
  intro e
  specialize h1 e
  specialize h2 e
  refine cj_X2_init h1 h2 (fun _ _ _ h1 h2 => ?_)
  intro Z97
  specialize h1 Z97
  specialize h2 Z97
  intro e
  specialize h1 e
  specialize h2 e
  intro q101
  specialize h1 q101
  specialize h2 q101
  intro e
  specialize h1 e
  specialize h2 e
  intro Z102
  specialize h1 Z102
  specialize h2 Z102
  intro e
  specialize h1 e
  specialize h2 e
  intro I103
  specialize h1 I103
  specialize h2 I103
  intro e
  specialize h1 e
  specialize h2 e
  intro L104
  specialize h1 L104
  specialize h2 L104
  intro e
  specialize h1 e
  specialize h2 e
  refine cj_X2_init h1 h2 (fun _ _ _ h1 h2 => ?_)
  intro Z118
  specialize h1 Z118
  specialize h2 Z118
  intro e
  specialize h1 e
  specialize h2 e
  intro Z122
  specialize h1 Z122
  specialize h2 Z122
  intro e
  specialize h1 e
  specialize h2 e
  intro q124
  specialize h1 q124
  specialize h2 q124
  intro e
  specialize h1 e
  specialize h2 e
  intro Z125
  specialize h1 Z125
  specialize h2 Z125
  intro e
  specialize h1 e
  specialize h2 e
  intro I126
  specialize h1 I126
  specialize h2 I126
  intro e
  specialize h1 e
  specialize h2 e
  intro L127
  specialize h1 L127
  specialize h2 L127
  intro e
  specialize h1 e
  specialize h2 e
  refine cj_X0_init h1 h2 (fun _ _ _ h1 h2 => ?_)
  intro Z137
  specialize h1 Z137
  specialize h2 Z137
  intro e
  specialize h1 e
  specialize h2 e
  intro q139
  specialize h1 q139
  specialize h2 q139
  intro e
  specialize h1 e
  specialize h2 e
  intro Z140
  specialize h1 Z140
  specialize h2 Z140
  intro e
  specialize h1 e
  specialize h2 e
  intro I141
  specialize h1 I141
  specialize h2 I141
  intro e
  specialize h1 e
  specialize h2 e
  intro L142
  specialize h1 L142
  specialize h2 L142
  intro e
  specialize h1 e
  specialize h2 e
  refine cj_X1_init h1 h2 (fun _ _ _ h1 h2 => ?_)
  intro Z152
  specialize h1 Z152
  specialize h2 Z152
  intro e
  specialize h1 e
  specialize h2 e
  intro q154
  specialize h1 q154
  specialize h2 q154
  intro e
  specialize h1 e
  specialize h2 e
  intro Z155
  specialize h1 Z155
  specialize h2 Z155
  intro e
  specialize h1 e
  specialize h2 e
  intro I156
  specialize h1 I156
  specialize h2 I156
  intro e
  specialize h1 e
  specialize h2 e
  intro L157
  specialize h1 L157
  specialize h2 L157
  intro e
  specialize h1 e
  specialize h2 e
  intro Z159
  specialize h1 Z159
  specialize h2 Z159
  intro e
  specialize h1 e
  specialize h2 e
  intro q161
  specialize h1 q161
  specialize h2 q161
  intro e
  specialize h1 e
  specialize h2 e
  intro Z162
  specialize h1 Z162
  specialize h2 Z162
  intro e
  specialize h1 e
  specialize h2 e
  intro I163
  specialize h1 I163
  specialize h2 I163
  intro e
  specialize h1 e
  specialize h2 e
  intro L164
  specialize h1 L164
  specialize h2 L164
  intro e
  specialize h1 e
  specialize h2 e
  intro Z166
  specialize h1 Z166
  specialize h2 Z166
  intro e
  specialize h1 e
  specialize h2 e
  intro q168
  specialize h1 q168
  specialize h2 q168
  intro e
  specialize h1 e
  specialize h2 e
  intro Z169
  specialize h1 Z169
  specialize h2 Z169
  intro e
  specialize h1 e
  specialize h2 e
  intro I170
  specialize h1 I170
  specialize h2 I170
  intro e
  specialize h1 e
  specialize h2 e
  intro L171
  specialize h1 L171
  specialize h2 L171
  intro e
  specialize h1 e
  specialize h2 e
  intro Z173
  specialize h1 Z173
  specialize h2 Z173
  intro e
  specialize h1 e
  specialize h2 e
  intro q175
  specialize h1 q175
  specialize h2 q175
  intro e
  specialize h1 e
  specialize h2 e
  intro Z176
  specialize h1 Z176
  specialize h2 Z176
  intro e
  specialize h1 e
  specialize h2 e
  intro I177
  specialize h1 I177
  specialize h2 I177
  intro e
  specialize h1 e
  specialize h2 e
  intro L178
  specialize h1 L178
  specialize h2 L178
  intro e
  specialize h1 e
  specialize h2 e
  intro Z180
  specialize h1 Z180
  specialize h2 Z180
  intro e
  specialize h1 e
  specialize h2 e
  intro q182
  specialize h1 q182
  specialize h2 q182
  intro e
  specialize h1 e
  specialize h2 e
  intro Z183
  specialize h1 Z183
  specialize h2 Z183
  intro e
  specialize h1 e
  specialize h2 e
  intro I184
  specialize h1 I184
  specialize h2 I184
  intro e
  specialize h1 e
  specialize h2 e
  intro L185
  specialize h1 L185
  specialize h2 L185
  intro e
  specialize h1 e
  specialize h2 e
  intro Z187
  specialize h1 Z187
  specialize h2 Z187
  intro e
  specialize h1 e
  specialize h2 e
  intro I189
  specialize h1 I189
  specialize h2 I189
  intro e
  specialize h1 e
  specialize h2 e
  exact hq _ _ _ h1 h2
set_option maxHeartbeats 4000000 in
set_option maxRecDepth 100000 in
theorem cj_X6_init {v0 : Nat} {v1 : Nat} {v2 : Int32} {v3 : Int32} {v4 : Int32} {Z : jZ} {I : jI} {L : jL} {Q1 Q2 Q3 : jZ → jI → jL → Prop} (h1 : f_X6_init v0 v1 v2 v3 v4 Z I L Q1) (h2 : f_X6_init v0 v1 v2 v3 v4 Z I L Q2) (hq : ∀ (Z : jZ) (I : jI) (L : jL), Q1 Z I L → Q2 Z I L → Q3 Z I L) : f_X6_init v0 v1 v2 v3 v4 Z I L Q3 := by
  unfold f_X6_init at h1 h2 ⊢
  intro q1
  specialize h1 q1
  specialize h2 q1
  intro e
  specialize h1 e
  specialize h2 e
  intro Z2
  specialize h1 Z2
  specialize h2 Z2
  intro e
  specialize h1 e
  specialize h2 e
  intro I3
  specialize h1 I3
  specialize h2 I3
  intro e
  specialize h1 e
  specialize h2 e
  intro L4
  specialize h1 L4
  specialize h2 L4
  intro e
  specialize h1 e
  specialize h2 e
  intro Z7
  specialize h1 Z7
  specialize h2 Z7
  intro e
  specialize h1 e
  specialize h2 e
  intro q10
  specialize h1 q10
  specialize h2 q10
  intro e
  specialize h1 e
  specialize h2 e
  intro Z11
  specialize h1 Z11
  specialize h2 Z11
  intro e
  specialize h1 e
  specialize h2 e
  intro I12
  specialize h1 I12
  specialize h2 I12
  intro e
  specialize h1 e
  specialize h2 e
  intro L13
  specialize h1 L13
  specialize h2 L13
  intro e
  specialize h1 e
  specialize h2 e
  intro Z16
  specialize h1 Z16
  specialize h2 Z16
  intro e
  specialize h1 e
  specialize h2 e
  intro q19
  specialize h1 q19
  specialize h2 q19
  intro e
  specialize h1 e
  specialize h2 e
  intro Z20
  specialize h1 Z20
  specialize h2 Z20
  intro e
  specialize h1 e
  specialize h2 e
  intro I21
  specialize h1 I21
  specialize h2 I21
  intro e
  specialize h1 e
  specialize h2 e
  intro L22
  specialize h1 L22
  specialize h2 L22
  intro e
  specialize h1 e
  specialize h2 e
  intro Z25
  specialize h1 Z25
  specialize h2 Z25
  intro e
  specialize h1 e
  specialize h2 e
  intro q28
  specialize h1 q28
  specialize h2 q28
  intro e
  specialize h1 e
  specialize h2 e
  intro Z29
  specialize h1 Z29
  specialize h2 Z29
  intro e
  specialize h1 e
  specialize h2 e
  intro I30
  specialize h1 I30
  specialize h2 I30
  intro e
  specialize h1 e
  specialize h2 e
  intro L31
  specialize h1 L31
  specialize h2 L31
  intro e
  specialize h1 e
  specialize h2 e
  intro Z34
  specialize h1 Z34
  specialize h2 Z34
  intro e
  specialize h1 e
  specialize h2 e
  intro q37
  specialize h1 q37
  specialize h2 q37
  intro e
  specialize h1 e
  specialize h2 e
  intro Z38
  specialize h1 Z38
  specialize h2 Z38
  intro e
  specialize h1 e
  specialize h2 e
  intro I39
  specialize h1 I39
  specialize h2 I39
  intro e
  specialize h1 e
  specialize h2 e
  intro L40
  specialize h1 L40
  specialize h2 L40
  intro e
  specialize h1 e
  specialize h2 e
  intro Z43
  specialize h1 Z43
  specialize h2 Z43
  intro e
  specialize h1 e
  specialize h2 e
  intro q46
  specialize h1 q46
  specialize h2 q46
  intro e
  specialize h1 e
  specialize h2 e
  intro Z47
  specialize h1 Z47
  specialize h2 Z47
  intro e
  specialize h1 e
  specialize h2 e
  intro I48
  specialize h1 I48
  specialize h2 I48
  intro e
  specialize h1 e
  specialize h2 e
  intro L49
  specialize h1 L49
  specialize h2 L49
  intro e
  specialize h1 e
  specialize h2 e
  refine cj_X7_init h1 h2 (fun _ _ _ h1 h2 => ?_)
  intro Z61
  specialize h1 Z61
  specialize h2 Z61
  intro e
  specialize h1 e
  specialize h2 e
  intro q64
  specialize h1 q64
  specialize h2 q64
  intro e
  specialize h1 e
  specialize h2 e
  intro Z65
  specialize h1 Z65
  specialize h2 Z65
  intro e
  specialize h1 e
  specialize h2 e
  intro I66
  specialize h1 I66
  specialize h2 I66
  intro e
  specialize h1 e
  specialize h2 e
  intro L67
  specialize h1 L67
  specialize h2 L67
  intro e
  specialize h1 e
  specialize h2 e
  refine cj_X7_init h1 h2 (fun _ _ _ h1 h2 => ?_)
  intro Z79
  specialize h1 Z79
  specialize h2 Z79
  intro e
  specialize h1 e
  specialize h2 e
  intro q82
  specialize h1 q82
  specialize h2 q82
  intro e
  specialize h1 e
  specialize h2 e
  intro Z83
  specialize h1 Z83
  specialize h2 Z83
  intro e
  specialize h1 e
  specialize h2 e
  intro I84
  specialize h1 I84
  specialize h2 I84
  intro e
  specialize h1 e
  specialize h2 e
  intro L85
  specialize h1 L85
  specialize h2 L85
  intro e
  specialize h1 e
  specialize h2 e
  intro Z88
  specialize h1 Z88
  specialize h2 Z88
  intro e
  specialize h1 e
  specialize h2 e
  intro q91
  specialize h1 q91
  specialize h2 q91
  intro e
  specialize h1 e
  specialize h2 e
  intro Z92
  specialize h1 Z92
  specialize h2 Z92
  intro e
  specialize h1 e
  specialize h2 e
  intro I93
  specialize h1 I93
  specialize h2 I93
  intro e
  specialize h1 e
  specialize h2 e
  intro L94
  specialize h1 L94
  specialize h2 L94
  intro e
  specialize h1 e
  specialize h2 e
  intro Z97
  specialize h1 Z97
  specialize h2 Z97
  intro e
  specialize h1 e
  specialize h2 e
  intro q100
  specialize h1 q100
  specialize h2 q100
  intro e
  specialize h1 e
  specialize h2 e
  intro Z101
  specialize h1 Z101
  specialize h2 Z101
  intro e
  specialize h1 e
  specialize h2 e
  intro I102
  specialize h1 I102
  specialize h2 I102
  intro e
  specialize h1 e
  specialize h2 e
  intro L103
  specialize h1 L103
  specialize h2 L103
  intro e
  specialize h1 e
  specialize h2 e
  intro Z106
  specialize h1 Z106
  specialize h2 Z106
  intro e
  specialize h1 e
  specialize h2 e
  intro I109
  specialize h1 I109
  specialize h2 I109
  intro e
  specialize h1 e
  specialize h2 e
  intro I110
  specialize h1 I110
  specialize h2 I110
  intro e
  specialize h1 e
  specialize h2 e
  intro Z111
  specialize h1 Z111
  specialize h2 Z111
  intro e
  specialize h1 e
  specialize h2 e
  intro I114
  specialize h1 I114
  specialize h2 I114
  intro e
  specialize h1 e
  specialize h2 e
  intro I115
  specialize h1 I115
  specialize h2 I115
  intro e
  specialize h1 e
  specialize h2 e
  intro I116
  specialize h1 I116
  specialize h2 I116
  intro e
  specialize h1 e
  specialize h2 e
  exact hq _ _ _ h1 h2
set_option maxHeartbeats 4000000 in
set_option maxRecDepth 100000 in
theorem cj_X5_init {v0 : Nat} {v1 : Nat} {v2 : Int32} {v3 : Int32} {v4 : Int32} {v5 : Int32} {Z : jZ} {I : jI} {L : jL} {Q1 Q2 Q3 : jZ → jI → jL → Prop} (h1 : f_X5_init v0 v1 v2 v3 v4 v5 Z I L Q1) (h2 : f_X5_init v0 v1 v2 v3 v4 v5 Z I L Q2) (hq : ∀ (Z : jZ) (I : jI) (L : jL), Q1 Z I L → Q2 Z I L → Q3 Z I L) : f_X5_init v0 v1 v2 v3 v4 v5 Z I L Q3 := by
  unfold f_X5_init at h1 h2 ⊢
  intro I1
  specialize h1 I1
  specialize h2 I1
  intro e
  specialize h1 e
  specialize h2 e
  intro I2
  specialize h1 I2
  specialize h2 I2
  intro e
  specialize h1 e
  specialize h2 e
  intro I3
  specialize h1 I3
  specialize h2 I3
  intro e
  specialize h1 e
  specialize h2 e
  intro I4
  specialize h1 I4
  specialize h2 I4
  intro e
  specialize h1 e
  specialize h2 e
  intro I5
  specialize h1 I5
  specialize h2 I5
  intro e
  specialize h1 e
  specialize h2 e
  intro I6
  specialize h1 I6
  specialize h2 I6
  intro e
  specialize h1 e
  specialize h2 e
  intro I7
  specialize h1 I7
  specialize h2 I7
  intro e
  specialize h1 e
  specialize h2 e
  intro I8
  specialize h1 I8
  specialize h2 I8
  intro e
  specialize h1 e
  specialize h2 e
  intro q9
  specialize h1 q9
  specialize h2 q9
  intro e
  specialize h1 e
  specialize h2 e
  intro Z10
  specialize h1 Z10
  specialize h2 Z10
  intro e
  specialize h1 e
  specialize h2 e
  intro I11
  specialize h1 I11
  specialize h2 I11
  intro e
  specialize h1 e
  specialize h2 e
  intro L12
  specialize h1 L12
  specialize h2 L12
  intro e
  specialize h1 e
  specialize h2 e
  refine cj_X6_init h1 h2 (fun _ _ _ h1 h2 => ?_)
  intro Z24
  specialize h1 Z24
  specialize h2 Z24
  intro e
  specialize h1 e
  specialize h2 e
  exact hq _ _ _ h1 h2
set_option maxHeartbeats 4000000 in
set_option maxRecDepth 100000 in
theorem cj_X12_init {v0 : Nat} {Z : jZ} {I : jI} {L : jL} {Q1 Q2 Q3 : jZ → jI → jL → Prop} (h1 : f_X12_init v0 Z I L Q1) (h2 : f_X12_init v0 Z I L Q2) (hq : ∀ (Z : jZ) (I : jI) (L : jL), Q1 Z I L → Q2 Z I L → Q3 Z I L) : f_X12_init v0 Z I L Q3 := by
  unfold f_X12_init at h1 h2 ⊢
  intro q1
  specialize h1 q1
  specialize h2 q1
  intro e
  specialize h1 e
  specialize h2 e
  intro Z2
  specialize h1 Z2
  specialize h2 Z2
  intro e
  specialize h1 e
  specialize h2 e
  intro I3
  specialize h1 I3
  specialize h2 I3
  intro e
  specialize h1 e
  specialize h2 e
  intro L4
  specialize h1 L4
  specialize h2 L4
  intro e
  specialize h1 e
  specialize h2 e
  intro Z6
  specialize h1 Z6
  specialize h2 Z6
  intro e
  specialize h1 e
  specialize h2 e
  intro q8
  specialize h1 q8
  specialize h2 q8
  intro e
  specialize h1 e
  specialize h2 e
  intro Z9
  specialize h1 Z9
  specialize h2 Z9
  intro e
  specialize h1 e
  specialize h2 e
  intro I10
  specialize h1 I10
  specialize h2 I10
  intro e
  specialize h1 e
  specialize h2 e
  intro L11
  specialize h1 L11
  specialize h2 L11
  intro e
  specialize h1 e
  specialize h2 e
  intro Z13
  specialize h1 Z13
  specialize h2 Z13
  intro e
  specialize h1 e
  specialize h2 e
  intro q15
  specialize h1 q15
  specialize h2 q15
  intro e
  specialize h1 e
  specialize h2 e
  intro Z16
  specialize h1 Z16
  specialize h2 Z16
  intro e
  specialize h1 e
  specialize h2 e
  intro I17
  specialize h1 I17
  specialize h2 I17
  intro e
  specialize h1 e
  specialize h2 e
  intro L18
  specialize h1 L18
  specialize h2 L18
  intro e
  specialize h1 e
  specialize h2 e
  intro Z20
  specialize h1 Z20
  specialize h2 Z20
  intro e
  specialize h1 e
  specialize h2 e
  intro q22
  specialize h1 q22
  specialize h2 q22
  intro e
  specialize h1 e
  specialize h2 e
  intro Z23
  specialize h1 Z23
  specialize h2 Z23
  intro e
  specialize h1 e
  specialize h2 e
  intro I24
  specialize h1 I24
  specialize h2 I24
  intro e
  specialize h1 e
  specialize h2 e
  intro L25
  specialize h1 L25
  specialize h2 L25
  intro e
  specialize h1 e
  specialize h2 e
  intro Z27
  specialize h1 Z27
  specialize h2 Z27
  intro e
  specialize h1 e
  specialize h2 e
  intro q29
  specialize h1 q29
  specialize h2 q29
  intro e
  specialize h1 e
  specialize h2 e
  intro Z30
  specialize h1 Z30
  specialize h2 Z30
  intro e
  specialize h1 e
  specialize h2 e
  intro I31
  specialize h1 I31
  specialize h2 I31
  intro e
  specialize h1 e
  specialize h2 e
  intro L32
  specialize h1 L32
  specialize h2 L32
  intro e
  specialize h1 e
  specialize h2 e
  intro Z34
  specialize h1 Z34
  specialize h2 Z34
  intro e
  specialize h1 e
  specialize h2 e
  intro q36
  specialize h1 q36
  specialize h2 q36
  intro e
  specialize h1 e
  specialize h2 e
  intro Z37
  specialize h1 Z37
  specialize h2 Z37
  intro e
  specialize h1 e
  specialize h2 e
  intro I38
  specialize h1 I38
  specialize h2 I38
  intro e
  specialize h1 e
  specialize h2 e
  intro L39
  specialize h1 L39
  specialize h2 L39
  intro e
  specialize h1 e
  specialize h2 e
  intro Z41
  specialize h1 Z41
  specialize h2 Z41
  intro e
  specialize h1 e
  specialize h2 e
  intro q43
  specialize h1 q43
  specialize h2 q43
  intro e
  specialize h1 e
  specialize h2 e
  intro Z44
  specialize h1 Z44
  specialize h2 Z44
  intro e
  specialize h1 e
  specialize h2 e
  intro I45
  specialize h1 I45
  specialize h2 I45
  intro e
  specialize h1 e
  specialize h2 e
  intro L46
  specialize h1 L46
  specialize h2 L46
  intro e
  specialize h1 e
  specialize h2 e
  intro Z48
  specialize h1 Z48
  specialize h2 Z48
  intro e
  specialize h1 e
  specialize h2 e
  intro q50
  specialize h1 q50
  specialize h2 q50
  intro e
  specialize h1 e
  specialize h2 e
  intro Z51
  specialize h1 Z51
  specialize h2 Z51
  intro e
  specialize h1 e
  specialize h2 e
  intro I52
  specialize h1 I52
  specialize h2 I52
  intro e
  specialize h1 e
  specialize h2 e
  intro L53
  specialize h1 L53
  specialize h2 L53
  intro e
  specialize h1 e
  specialize h2 e
  intro Z55
  specialize h1 Z55
  specialize h2 Z55
  intro e
  specialize h1 e
  specialize h2 e
  intro q57
  specialize h1 q57
  specialize h2 q57
  intro e
  specialize h1 e
  specialize h2 e
  intro Z58
  specialize h1 Z58
  specialize h2 Z58
  intro e
  specialize h1 e
  specialize h2 e
  intro I59
  specialize h1 I59
  specialize h2 I59
  intro e
  specialize h1 e
  specialize h2 e
  intro L60
  specialize h1 L60
  specialize h2 L60
  intro e
  specialize h1 e
  specialize h2 e
  intro Z62
  specialize h1 Z62
  specialize h2 Z62
  intro e
  specialize h1 e
  specialize h2 e
  intro q64
  specialize h1 q64
  specialize h2 q64
  intro e
  specialize h1 e
  specialize h2 e
  intro Z65
  specialize h1 Z65
  specialize h2 Z65
  intro e
  specialize h1 e
  specialize h2 e
  intro I66
  specialize h1 I66
  specialize h2 I66
  intro e
  specialize h1 e
  specialize h2 e
  intro L67
  specialize h1 L67
  specialize h2 L67
  intro e
  specialize h1 e
  specialize h2 e
  intro Z69
  specialize h1 Z69
  specialize h2 Z69
  intro e
  specialize h1 e
  specialize h2 e
  intro q71
  specialize h1 q71
  specialize h2 q71
  intro e
  specialize h1 e
  specialize h2 e
  intro Z72
  specialize h1 Z72
  specialize h2 Z72
  intro e
  specialize h1 e
  specialize h2 e
  intro I73
  specialize h1 I73
  specialize h2 I73
  intro e
  specialize h1 e
  specialize h2 e
  intro L74
  specialize h1 L74
  specialize h2 L74
  intro e
  specialize h1 e
  specialize h2 e
  intro Z76
  specialize h1 Z76
  specialize h2 Z76
  intro e
  specialize h1 e
  specialize h2 e
  intro q78
  specialize h1 q78
  specialize h2 q78
  intro e
  specialize h1 e
  specialize h2 e
  intro Z79
  specialize h1 Z79
  specialize h2 Z79
  intro e
  specialize h1 e
  specialize h2 e
  intro I80
  specialize h1 I80
  specialize h2 I80
  intro e
  specialize h1 e
  specialize h2 e
  intro L81
  specialize h1 L81
  specialize h2 L81
  intro e
  specialize h1 e
  specialize h2 e
  intro Z83
  specialize h1 Z83
  specialize h2 Z83
  intro e
  specialize h1 e
  specialize h2 e
  intro q85
  specialize h1 q85
  specialize h2 q85
  intro e
  specialize h1 e
  specialize h2 e
  intro Z86
  specialize h1 Z86
  specialize h2 Z86
  intro e
  specialize h1 e
  specialize h2 e
  intro I87
  specialize h1 I87
  specialize h2 I87
  intro e
  specialize h1 e
  specialize h2 e
  intro L88
  specialize h1 L88
  specialize h2 L88
  intro e
  specialize h1 e
  specialize h2 e
  intro Z90
  specialize h1 Z90
  specialize h2 Z90
  intro e
  specialize h1 e
  specialize h2 e
  intro q92
  specialize h1 q92
  specialize h2 q92
  intro e
  specialize h1 e
  specialize h2 e
  intro Z93
  specialize h1 Z93
  specialize h2 Z93
  intro e
  specialize h1 e
  specialize h2 e
  intro I94
  specialize h1 I94
  specialize h2 I94
  intro e
  specialize h1 e
  specialize h2 e
  intro L95
  specialize h1 L95
  specialize h2 L95
  intro e
  specialize h1 e
  specialize h2 e
  intro Z97
  specialize h1 Z97
  specialize h2 Z97
  intro e
  specialize h1 e
  specialize h2 e
  intro q99
  specialize h1 q99
  specialize h2 q99
  intro e
  specialize h1 e
  specialize h2 e
  intro Z100
  specialize h1 Z100
  specialize h2 Z100
  intro e
  specialize h1 e
  specialize h2 e
  intro I101
  specialize h1 I101
  specialize h2 I101
  intro e
  specialize h1 e
  specialize h2 e
  intro L102
  specialize h1 L102
  specialize h2 L102
  intro e
  specialize h1 e
  specialize h2 e
  intro Z104
  specialize h1 Z104
  specialize h2 Z104
  intro e
  specialize h1 e
  specialize h2 e
  intro q106
  specialize h1 q106
  specialize h2 q106
  intro e
  specialize h1 e
  specialize h2 e
  intro Z107
  specialize h1 Z107
  specialize h2 Z107
  intro e
  specialize h1 e
  specialize h2 e
  intro I108
  specialize h1 I108
  specialize h2 I108
  intro e
  specialize h1 e
  specialize h2 e
  intro L109
  specialize h1 L109
  specialize h2 L109
  intro e
  specialize h1 e
  specialize h2 e
  intro Z111
  specialize h1 Z111
  specialize h2 Z111
  intro e
  specialize h1 e
  specialize h2 e
  intro q113
  specialize h1 q113
  specialize h2 q113
  intro e
  specialize h1 e
  specialize h2 e
  intro Z114
  specialize h1 Z114
  specialize h2 Z114
  intro e
  specialize h1 e
  specialize h2 e
  intro I115
  specialize h1 I115
  specialize h2 I115
  intro e
  specialize h1 e
  specialize h2 e
  intro L116
  specialize h1 L116
  specialize h2 L116
  intro e
  specialize h1 e
  specialize h2 e
  intro Z118
  specialize h1 Z118
  specialize h2 Z118
  intro e
  specialize h1 e
  specialize h2 e
  intro q120
  specialize h1 q120
  specialize h2 q120
  intro e
  specialize h1 e
  specialize h2 e
  intro Z121
  specialize h1 Z121
  specialize h2 Z121
  intro e
  specialize h1 e
  specialize h2 e
  intro I122
  specialize h1 I122
  specialize h2 I122
  intro e
  specialize h1 e
  specialize h2 e
  intro L123
  specialize h1 L123
  specialize h2 L123
  intro e
  specialize h1 e
  specialize h2 e
  intro Z125
  specialize h1 Z125
  specialize h2 Z125
  intro e
  specialize h1 e
  specialize h2 e
  intro q128 q129 q127
  specialize h1 q128 q129 q127
  specialize h2 q128 q129 q127
  intro e
  specialize h1 e
  specialize h2 e
  intro e
  specialize h1 e
  specialize h2 e
  intro e
  specialize h1 e
  specialize h2 e
  intro Z130
  specialize h1 Z130
  specialize h2 Z130
  intro e
  specialize h1 e
  specialize h2 e
  intro I131
  specialize h1 I131
  specialize h2 I131
  intro e
  specialize h1 e
  specialize h2 e
  intro L132
  specialize h1 L132
  specialize h2 L132
  intro e
  specialize h1 e
  specialize h2 e
  intro Z134
  specialize h1 Z134
  specialize h2 Z134
  intro e
  specialize h1 e
  specialize h2 e
  intro q136
  specialize h1 q136
  specialize h2 q136
  intro e
  specialize h1 e
  specialize h2 e
  intro Z137
  specialize h1 Z137
  specialize h2 Z137
  intro e
  specialize h1 e
  specialize h2 e
  intro I138
  specialize h1 I138
  specialize h2 I138
  intro e
  specialize h1 e
  specialize h2 e
  intro L139
  specialize h1 L139
  specialize h2 L139
  intro e
  specialize h1 e
  specialize h2 e
  intro Z141
  specialize h1 Z141
  specialize h2 Z141
  intro e
  specialize h1 e
  specialize h2 e
  intro I143
  specialize h1 I143
  specialize h2 I143
  intro e
  specialize h1 e
  specialize h2 e
  intro q144
  specialize h1 q144
  specialize h2 q144
  intro e
  specialize h1 e
  specialize h2 e
  intro Z145
  specialize h1 Z145
  specialize h2 Z145
  intro e
  specialize h1 e
  specialize h2 e
  intro I146
  specialize h1 I146
  specialize h2 I146
  intro e
  specialize h1 e
  specialize h2 e
  intro L147
  specialize h1 L147
  specialize h2 L147
  intro e
  specialize h1 e
  specialize h2 e
  intro Z149
  specialize h1 Z149
  specialize h2 Z149
  intro e
  specialize h1 e
  specialize h2 e
  intro q151
  specialize h1 q151
  specialize h2 q151
  intro e
  specialize h1 e
  specialize h2 e
  intro Z152
  specialize h1 Z152
  specialize h2 Z152
  intro e
  specialize h1 e
  specialize h2 e
  intro I153
  specialize h1 I153
  specialize h2 I153
  intro e
  specialize h1 e
  specialize h2 e
  intro L154
  specialize h1 L154
  specialize h2 L154
  intro e
  specialize h1 e
  specialize h2 e
  intro Z156
  specialize h1 Z156
  specialize h2 Z156
  intro e
  specialize h1 e
  specialize h2 e
  intro q158
  specialize h1 q158
  specialize h2 q158
  intro e
  specialize h1 e
  specialize h2 e
  intro Z159
  specialize h1 Z159
  specialize h2 Z159
  intro e
  specialize h1 e
  specialize h2 e
  intro I160
  specialize h1 I160
  specialize h2 I160
  intro e
  specialize h1 e
  specialize h2 e
  intro L161
  specialize h1 L161
  specialize h2 L161
  intro e
  specialize h1 e
  specialize h2 e
  intro Z163
  specialize h1 Z163
  specialize h2 Z163
  intro e
  specialize h1 e
  specialize h2 e
  intro q165
  specialize h1 q165
  specialize h2 q165
  intro e
  specialize h1 e
  specialize h2 e
  intro Z166
  specialize h1 Z166
  specialize h2 Z166
  intro e
  specialize h1 e
  specialize h2 e
  intro I167
  specialize h1 I167
  specialize h2 I167
  intro e
  specialize h1 e
  specialize h2 e
  intro L168
  specialize h1 L168
  specialize h2 L168
  intro e
  specialize h1 e
  specialize h2 e
  intro Z170
  specialize h1 Z170
  specialize h2 Z170
  intro e
  specialize h1 e
  specialize h2 e
  intro I172
  specialize h1 I172
  specialize h2 I172
  intro e
  specialize h1 e
  specialize h2 e
  intro q173
  specialize h1 q173
  specialize h2 q173
  intro e
  specialize h1 e
  specialize h2 e
  intro Z174
  specialize h1 Z174
  specialize h2 Z174
  intro e
  specialize h1 e
  specialize h2 e
  intro I175
  specialize h1 I175
  specialize h2 I175
  intro e
  specialize h1 e
  specialize h2 e
  intro L176
  specialize h1 L176
  specialize h2 L176
  intro e
  specialize h1 e
  specialize h2 e
  intro Z178
  specialize h1 Z178
  specialize h2 Z178
  intro e
  specialize h1 e
  specialize h2 e
  intro q180
  specialize h1 q180
  specialize h2 q180
  intro e
  specialize h1 e
  specialize h2 e
  intro Z181
  specialize h1 Z181
  specialize h2 Z181
  intro e
  specialize h1 e
  specialize h2 e
  intro I182
  specialize h1 I182
  specialize h2 I182
  intro e
  specialize h1 e
  specialize h2 e
  intro L183
  specialize h1 L183
  specialize h2 L183
  intro e
  specialize h1 e
  specialize h2 e
  intro Z185
  specialize h1 Z185
  specialize h2 Z185
  intro e
  specialize h1 e
  specialize h2 e
  intro q187
  specialize h1 q187
  specialize h2 q187
  intro e
  specialize h1 e
  specialize h2 e
  intro Z188
  specialize h1 Z188
  specialize h2 Z188
  intro e
  specialize h1 e
  specialize h2 e
  intro I189
  specialize h1 I189
  specialize h2 I189
  intro e
  specialize h1 e
  specialize h2 e
  intro L190
  specialize h1 L190
  specialize h2 L190
  intro e
  specialize h1 e
  specialize h2 e
  intro Z192
  specialize h1 Z192
  specialize h2 Z192
  intro e
  specialize h1 e
  specialize h2 e
  intro q194
  specialize h1 q194
  specialize h2 q194
  intro e
  specialize h1 e
  specialize h2 e
  intro Z195
  specialize h1 Z195
  specialize h2 Z195
  intro e
  specialize h1 e
  specialize h2 e
  intro I196
  specialize h1 I196
  specialize h2 I196
  intro e
  specialize h1 e
  specialize h2 e
  intro L197
  specialize h1 L197
  specialize h2 L197
  intro e
  specialize h1 e
  specialize h2 e
  intro Z199
  specialize h1 Z199
  specialize h2 Z199
  intro e
  specialize h1 e
  specialize h2 e
  intro q201
  specialize h1 q201
  specialize h2 q201
  intro e
  specialize h1 e
  specialize h2 e
  intro Z202
  specialize h1 Z202
  specialize h2 Z202
  intro e
  specialize h1 e
  specialize h2 e
  intro I203
  specialize h1 I203
  specialize h2 I203
  intro e
  specialize h1 e
  specialize h2 e
  intro L204
  specialize h1 L204
  specialize h2 L204
  intro e
  specialize h1 e
  specialize h2 e
  intro Z206
  specialize h1 Z206
  specialize h2 Z206
  intro e
  specialize h1 e
  specialize h2 e
  intro q208
  specialize h1 q208
  specialize h2 q208
  intro e
  specialize h1 e
  specialize h2 e
  intro Z209
  specialize h1 Z209
  specialize h2 Z209
  intro e
  specialize h1 e
  specialize h2 e
  intro I210
  specialize h1 I210
  specialize h2 I210
  intro e
  specialize h1 e
  specialize h2 e
  intro L211
  specialize h1 L211
  specialize h2 L211
  intro e
  specialize h1 e
  specialize h2 e
  intro Z213
  specialize h1 Z213
  specialize h2 Z213
  intro e
  specialize h1 e
  specialize h2 e
  intro q215
  specialize h1 q215
  specialize h2 q215
  intro e
  specialize h1 e
  specialize h2 e
  intro Z216
  specialize h1 Z216
  specialize h2 Z216
  intro e
  specialize h1 e
  specialize h2 e
  intro I217
  specialize h1 I217
  specialize h2 I217
  intro e
  specialize h1 e
  specialize h2 e
  intro L218
  specialize h1 L218
  specialize h2 L218
  intro e
  specialize h1 e
  specialize h2 e
  intro Z220
  specialize h1 Z220
  specialize h2 Z220
  intro e
  specialize h1 e
  specialize h2 e
  intro q222
  specialize h1 q222
  specialize h2 q222
  intro e
  specialize h1 e
  specialize h2 e
  intro Z223
  specialize h1 Z223
  specialize h2 Z223
  intro e
  specialize h1 e
  specialize h2 e
  intro I224
  specialize h1 I224
  specialize h2 I224
  intro e
  specialize h1 e
  specialize h2 e
  intro L225
  specialize h1 L225
  specialize h2 L225
  intro e
  specialize h1 e
  specialize h2 e
  intro Z227
  specialize h1 Z227
  specialize h2 Z227
  intro e
  specialize h1 e
  specialize h2 e
  intro q229
  specialize h1 q229
  specialize h2 q229
  intro e
  specialize h1 e
  specialize h2 e
  intro Z230
  specialize h1 Z230
  specialize h2 Z230
  intro e
  specialize h1 e
  specialize h2 e
  intro I231
  specialize h1 I231
  specialize h2 I231
  intro e
  specialize h1 e
  specialize h2 e
  intro L232
  specialize h1 L232
  specialize h2 L232
  intro e
  specialize h1 e
  specialize h2 e
  intro Z234
  specialize h1 Z234
  specialize h2 Z234
  intro e
  specialize h1 e
  specialize h2 e
  intro q236
  specialize h1 q236
  specialize h2 q236
  intro e
  specialize h1 e
  specialize h2 e
  intro Z237
  specialize h1 Z237
  specialize h2 Z237
  intro e
  specialize h1 e
  specialize h2 e
  intro I238
  specialize h1 I238
  specialize h2 I238
  intro e
  specialize h1 e
  specialize h2 e
  intro L239
  specialize h1 L239
  specialize h2 L239
  intro e
  specialize h1 e
  specialize h2 e
  intro Z241
  specialize h1 Z241
  specialize h2 Z241
  intro e
  specialize h1 e
  specialize h2 e
  intro q243
  specialize h1 q243
  specialize h2 q243
  intro e
  specialize h1 e
  specialize h2 e
  intro Z244
  specialize h1 Z244
  specialize h2 Z244
  intro e
  specialize h1 e
  specialize h2 e
  intro I245
  specialize h1 I245
  specialize h2 I245
  intro e
  specialize h1 e
  specialize h2 e
  intro L246
  specialize h1 L246
  specialize h2 L246
  intro e
  specialize h1 e
  specialize h2 e
  intro Z248
  specialize h1 Z248
  specialize h2 Z248
  intro e
  specialize h1 e
  specialize h2 e
  intro q250
  specialize h1 q250
  specialize h2 q250
  intro e
  specialize h1 e
  specialize h2 e
  intro Z251
  specialize h1 Z251
  specialize h2 Z251
  intro e
  specialize h1 e
  specialize h2 e
  intro I252
  specialize h1 I252
  specialize h2 I252
  intro e
  specialize h1 e
  specialize h2 e
  intro L253
  specialize h1 L253
  specialize h2 L253
  intro e
  specialize h1 e
  specialize h2 e
  intro Z255
  specialize h1 Z255
  specialize h2 Z255
  intro e
  specialize h1 e
  specialize h2 e
  intro q257
  specialize h1 q257
  specialize h2 q257
  intro e
  specialize h1 e
  specialize h2 e
  intro Z258
  specialize h1 Z258
  specialize h2 Z258
  intro e
  specialize h1 e
  specialize h2 e
  intro I259
  specialize h1 I259
  specialize h2 I259
  intro e
  specialize h1 e
  specialize h2 e
  intro L260
  specialize h1 L260
  specialize h2 L260
  intro e
  specialize h1 e
  specialize h2 e
  intro Z262
  specialize h1 Z262
  specialize h2 Z262
  intro e
  specialize h1 e
  specialize h2 e
  intro q264
  specialize h1 q264
  specialize h2 q264
  intro e
  specialize h1 e
  specialize h2 e
  intro Z265
  specialize h1 Z265
  specialize h2 Z265
  intro e
  specialize h1 e
  specialize h2 e
  intro I266
  specialize h1 I266
  specialize h2 I266
  intro e
  specialize h1 e
  specialize h2 e
  intro L267
  specialize h1 L267
  specialize h2 L267
  intro e
  specialize h1 e
  specialize h2 e
  intro Z269
  specialize h1 Z269
  specialize h2 Z269
  intro e
  specialize h1 e
  specialize h2 e
  intro q271
  specialize h1 q271
  specialize h2 q271
  intro e
  specialize h1 e
  specialize h2 e
  intro Z272
  specialize h1 Z272
  specialize h2 Z272
  intro e
  specialize h1 e
  specialize h2 e
  intro I273
  specialize h1 I273
  specialize h2 I273
  intro e
  specialize h1 e
  specialize h2 e
  intro L274
  specialize h1 L274
  specialize h2 L274
  intro e
  specialize h1 e
  specialize h2 e
  intro Z276
  specialize h1 Z276
  specialize h2 Z276
  intro e
  specialize h1 e
  specialize h2 e
  exact hq _ _ _ h1 h2
end
section
theorem TBr_frp {Z Z' : jZ} {I I' : jI} {uT uB v2 uM : Nat} (f : FRp Z I Z' I') (kT : jk Z uT 10) (kB : jk Z uB 13) (k2 : jk Z v2 12) (kM : jk Z uM 13) (h : TBr I uT uB v2 uM) : TBr I' uT uB v2 uM := by
  have e1 : I' uB = I uB := funext fun i => f.2 uB 13 i kB (by omega)
  have e2 : I' uM = I uM := funext fun i => f.2 uM 13 i kM (by omega)
  unfold TBr
  rw [f.2 uT 10 1 kT (by omega), f.2 v2 12 19 k2 (by omega), e1, e2]
  exact h
end
section
/-! ===== sheet ===== -/
/-- an entry of the sheet -/
def shE (k v : Int32) : Int := max 0 (min 20 (if k = 0 then (v.toInt8.toInt32).toInt else if k = 1 then (v.toInt16.toInt32).toInt else v.toInt))
theorem shE_rg (k v : Int32) : 0 ≤ shE k v ∧ shE k v ≤ 20 := by
  unfold shE
  generalize (if k = 0 then (v.toInt8.toInt32).toInt else if k = 1 then (v.toInt16.toInt32).toInt else v.toInt) = z
  omega
/-- what a step asks by the sheet -/
def shG (k n f b : Int32) (i : Nat) : Int := if (i : Int) < n.toInt then shE k (f + Int32.ofNat i * b) else 0
theorem shG_rg (k n f b : Int32) (i : Nat) : 0 ≤ shG k n f b i ∧ shG k n f b i ≤ 20 := by
  unfold shG
  by_cases h : (i : Int) < n.toInt
  · rw [if_pos h]; exact shE_rg _ _
  · rw [if_neg h]; omega
def shS (g : Nat → Int) : Nat → Int
  | 0 => 0
  | i + 1 => shS g i + g i
theorem shS_rg {g : Nat → Int} (h : ∀ i, 0 ≤ g i ∧ g i ≤ 20) : ∀ i : Nat, 0 ≤ shS g i ∧ shS g i ≤ 20 * (i : Int) := by
  intro i
  induction i with
  | zero => exact ⟨by show (0 : Int) ≤ 0; omega, by show (0 : Int) ≤ 20 * ((0 : Nat) : Int); omega⟩
  | succ i ih =>
    have := h i
    constructor
    · show 0 ≤ shS g i + g i; omega
    · show shS g i + g i ≤ 20 * ((i + 1 : Nat) : Int); omega
/-- what sheet answers -/
def shetA (s : Int) (k n f b : Int32) : Int := if ¬ (0 ≤ k.toInt ∧ k.toInt ≤ 3 ∧ n.toInt ≤ 24) then -1 else if k.toInt = 3 then -3 else if n.toInt < 0 then -2 else shS (shG k n f b) s.toNat
theorem i32_st (f b : Int32) (i : Nat) : f + Int32.ofNat i * b + b = f + Int32.ofNat (i + 1) * b := by
  rw [Int32.ofNat_add, Int32.add_mul, show Int32.ofNat 1 * b = b from Int32.one_mul b, Int32.add_assoc]
theorem a_entryOf {Z : jZ} {I : jI} {L : jL} (v0 v1 : Int32) {Q : Int32 → jI → jL → Prop} (hQ : ∀ r : Int32, r.toInt = shE v0 v1 → Q r I L) : f_X11_entryOf v0 v1 Z I L Q := by
  have key : ∀ s0 : Int32, (s0.toInt = if v0 = 0 then (v1.toInt8.toInt32).toInt else if v0 = 1 then (v1.toInt16.toInt32).toInt else v1.toInt) → f_X11_entryOf_b20 Z Q s0 I L := fun s0 e => by
    unfold f_X11_entryOf_b20
    refine hQ _ ?_
    unfold shE
    rw [← e]
    exact i_max (show (0 : Int32).toInt = 0 from rfl) (i_min (show (20 : Int32).toInt = 20 from rfl) rfl)
  unfold f_X11_entryOf
  refine ⟨fun c => ⟨fun c1 => key _ ?_, fun c1 => key _ ?_⟩, fun c => key _ ?_⟩
  · rw [if_neg c, if_neg c1]
  · rw [if_neg c, if_pos c1]
  · rw [if_pos c]
theorem a_sumOfAsks {Z : jZ} {I : jI} {L : jL} {v0 uA : Nat} {g : Nat → Int} {s : Nat} (hA : jr Z v0 2 = some uA) (es : (I v0 9).toInt = (s : Int)) (hs : s ≤ 24) (hg : ∀ i, 0 ≤ g i ∧ g i ≤ 20) (ha : ∀ q, q < s → (I uA q).toInt = g q) {Q : Int32 → jI → jL → Prop} (hQ : ∀ r : Int32, r.toInt = shS g s → Q r I L) : f_X8_sumOfAsks v0 Z I L Q := by
  have key : ∀ (m i : Nat) (v1 v2 : Int32), v1.toInt = shS g i → v2.toInt = (i : Int) → i ≤ s → 25 ≤ m + i → f_X8_sumOfAsks_L4 Z Q m v0 v1 v2 I L := by
    intro m
    induction m with
    | zero => intro i v1 v2 e1 e2 h1 h2; exfalso; omega
    | succ m ih =>
      intro i v1 v2 e1 e2 h1 h2
      unfold f_X8_sumOfAsks_L4
      refine ⟨fun c => ?_, fun c => ?_⟩
      · have c := (i_le es e2).mp c
        have ei : i = s := by omega
        rw [ei] at e1
        exact hQ v1 e1
      have c := (not_congr (i_le es e2)).mp c
      intro b2 eb2
      cases hA.symm.trans eb2
      have n2 := i_nat e2 (by omega)
      have r1 := shS_rg hg i
      have r2 := hg i
      have a1 : (I uA v2.toNatClampNeg).toInt = g i := by rw [show v2.toNatClampNeg = i by omega]; exact ha i (by omega)
      refine ⟨vi_of e2 (by omega) (by omega), ?_⟩
      intro x4 e4 x5 e5
      exact ih (i + 1) x4 x5 (by rw [e4]; exact (i_add e1 a1 (by omega) (by omega)).trans (by show shS g i + g i = _; rfl)) (by rw [e5]; exact (i_add e2 (show (1 : Int32).toInt = 1 from rfl) (by omega) (by omega)).trans (by omega)) (by omega) (by omega)
  unfold f_X8_sumOfAsks
  exact ⟨25, key 25 0 0 0 rfl rfl (by omega) (by omega)⟩
theorem a_sheet {Z : jZ} {I0 : jI} {v0 uF uA : Nat} {v1 v3 v4 v5 v6 : Int32} {s : Nat} {Q : Int32 → jI → jL → Prop} (w0 : WD Z I0) (hF : jr Z v0 2 = some uF) (kF : jk Z uF 8) (hA : jr Z uF 2 = some uA) (kA : jk Z uA 14) (lA : jlen Z uA = 24) (hs : s ≤ 24)
    (hQ : ∀ (r : Int32) (I' : jI) (L' : jL), WD Z I' → FR Ws_X11_sheet Z I0 Z I' → ((v5 = 0 ∧ r.toInt = shS (shG v1 v6 v3 v4) s) ∨ (¬ v5 = 0 ∧ r.toInt = -3)) → Q r I' L') :
    ∀ (m i : Nat) (v7 : Int32) (I : jI) (L : jL), WD Z I → FR Ws_X11_sheet Z I0 Z I → (I uF 9).toInt = (s : Int) → v7.toInt = (i : Int) → i ≤ s → (∀ q, q < i → (I uA q).toInt = shG v1 v6 v3 v4 q) → 25 ≤ m + i → f_X11_sheet_L56 Z Q m v0 v1 v3 v4 v5 v6 v7 I L := by
  intro m
  induction m with
  | zero => intro i v7 I L w f e1 e2 h1 h2 h3; exfalso; omega
  | succ m ih =>
    intro i v7 I L w f e1 e2 h1 h2 h3
    unfold f_X11_sheet_L56
    intro b4 eb4
    cases hF.symm.trans eb4
    refine ⟨fun c => ?_, fun c => ?_⟩
    · have c := (i_le e1 e2).mp c
      have ei : i = s := by omega
      rw [ei] at h2
      refine ⟨fun c5 => ?_, fun c5 => hQ _ I L w f (Or.inr ⟨c5, rfl⟩)⟩
      intro b7 eb7
      cases hF.symm.trans eb7
      exact a_sumOfAsks hA e1 hs (shG_rg v1 v6 v3 v4) h2 (fun r er => hQ r I L w f (Or.inl ⟨c5, er⟩))
    have c := (not_congr (i_le e1 e2)).mp c
    have n7 := i_nat e2 (by omega)
    intro b15 eb15
    cases hF.symm.trans eb15
    intro b16 eb16
    cases hA.symm.trans eb16
    have key : ∀ s2 : Int32, s2.toInt = shG v1 v6 v3 v4 i → f_X11_sheet_b99 (f_X11_sheet_L56 Z Q m) Z Q v0 v1 v3 v4 v5 v6 v7 uA v7 s2 I L := by
      intro s2 es
      have rg2 := shG_rg v1 v6 v3 v4 i
      unfold f_X11_sheet_b99
      refine ⟨vi_of e2 (by omega) (by rw [lA]; omega), ?_⟩
      intro I2 eI2 x3 e3
      have w2 : WD Z I2 := by rw [eI2]; exact WD_putA w 8 2 kF hA kA rfl rfl (by decide) (by constructor <;> omega)
      have f2 : FR Ws_X11_sheet Z I Z I2 := by rw [eI2]; exact FR_upA w.2.1 kF hA kA rfl rfl (by decide)
      refine ih (i + 1) x3 I2 L w2 (f.trans w0.1 w0.2.1 f2) ?_ ?_ (by omega) (fun q hq => ?_) (by omega)
      · rw [f2.2.2.1 uF 8 9 kF (by decide) (by decide)]; exact e1
      · rw [e3]; exact (i_add e2 (show (1 : Int32).toInt = 1 from rfl) (by omega) (by omega)).trans (by omega)
      · rw [eI2]
        by_cases h : q = i
        · rw [h, show v7.toNatClampNeg = i by omega, jpI_at]; exact es
        · rw [jpI_off (by omega)]; exact h2 q (by omega)
    refine ⟨fun c6 => key 0 ?_, fun c6 => ?_⟩
    · have c6 := (i_le rfl e2).mp c6
      unfold shG; rw [if_neg (by omega)]; rfl
    have c6 := (not_congr (i_le rfl e2)).mp c6
    have ev7 : v7 = Int32.ofNat i := (i_eq e2 (i_nI (n := i) (by omega))).mpr rfl
    refine a_entryOf _ _ (fun r er => key r ?_)
    unfold shG; rw [if_pos (by omega), ← ev7]; exact er
theorem s9_X11_sheet {Z : jZ} {I : jI} {L : jL} (w : WD Z I) (v0 : Nat) (v1 v2 v3 v4 : Int32) (kv0 : jk Z v0 11) (uF : Nat) (huF : jr Z v0 2 = some uF) {Q : Int32 → jI → jL → Prop} (hQ : ∀ (r : Int32) (I' : jI) (L' : jL), WD Z I' → FR Ws_X11_sheet Z I Z I' → r.toInt = shetA (I uF 9).toInt v1 v2 v3 v4 → Q r I' L') : f_X11_sheet v0 v1 v2 v3 v4 Z I L Q := by
  have kF : jk Z uF 8 := by obtain ⟨b9, e9, k9⟩ := sh_o w.1 kv0 (j := 2) (k := 8) rfl; cases huF.symm.trans e9; exact k9
  have sz : 0 ≤ (I uF 9).toInt ∧ (I uF 9).toInt ≤ 24 := w.fld 8 9 kF (by decide)
  obtain ⟨uA, hA, kA, lA⟩ := sh_f w.1 kF (j := 2) (k := 14) (m := 24) rfl
  have go : ∀ v5 v6 : Int32, ((v5 = 0 ∧ v6 = v2 ∧ 0 ≤ v2.toInt ∧ ¬ v1.toInt = 3) ∨ (¬ v5 = 0 ∧ v1.toInt = 3)) → (0 ≤ v1.toInt ∧ v1.toInt ≤ 3 ∧ v2.toInt ≤ 24) → f_X11_sheet_b51 Z Q v0 v1 v3 v4 v5 v6 I L := by
    intro v5 v6 hh hr
    unfold f_X11_sheet_b51
    refine ⟨25, a_sheet (s := (I uF 9).toInt.toNat) w huF kF hA kA lA (by omega) (fun r I' L' w' f' p => hQ r I' L' w' f' ?_) 25 0 0 I L w FR.rf (by omega) rfl (by omega) (fun q hq => absurd hq (Nat.not_lt_zero q)) (by omega)⟩
    unfold shetA
    rw [if_neg (fun h => h hr)]
    rcases p with ⟨p1, p2⟩ | ⟨p1, p2⟩
    · rcases hh with ⟨h1, h2, h3, h4⟩ | ⟨h1, -⟩
      · rw [if_neg h4, if_neg (by omega), p2, h2]
      · exact absurd p1 h1
    · rcases hh with ⟨h1, -⟩ | ⟨h1, h2⟩
      · exact absurd h1 p1
      · rw [if_pos h2]; exact p2
  have bad : ¬ (0 ≤ v1.toInt ∧ v1.toInt ≤ 3 ∧ v2.toInt ≤ 24) → Q (-1 : Int32) I L := fun h => hQ _ I L w FR.rf (by unfold shetA; rw [if_pos h]; rfl)
  unfold f_X11_sheet
  refine ⟨fun c => bad (by have c := (i_lt (x := v1) (y := 0) rfl (show (0 : Int32).toInt = 0 from rfl)).mp c; omega), fun c => ⟨fun c1 => bad (by have c1 := (i_lt (x := 3) (y := v1) (show (3 : Int32).toInt = 3 from rfl) rfl).mp c1; omega), fun c1 => ⟨fun c2 => ?_, fun c2 => bad (by have c2 := (not_congr (i_le (x := v2) (y := 24) rfl (show (24 : Int32).toInt = 24 from rfl))).mp c2; omega)⟩⟩⟩
  have c := (not_congr (i_lt (x := v1) (y := 0) rfl (show (0 : Int32).toInt = 0 from rfl))).mp c
  have c1 := (not_congr (i_lt (x := 3) (y := v1) (show (3 : Int32).toInt = 3 from rfl) rfl)).mp c1
  have c2 := (i_le (x := v2) (y := 24) rfl (show (24 : Int32).toInt = 24 from rfl)).mp c2
  have hr : 0 ≤ v1.toInt ∧ v1.toInt ≤ 3 ∧ v2.toInt ≤ 24 := by omega
  refine ⟨fun c3 => ?_, fun c3 => ?_⟩
  · have c3 : ¬ v1.toInt = 3 := (not_congr (i_eq rfl (show (3 : Int32).toInt = 3 from rfl))).mp c3
    unfold f_X11_sheet_b27
    refine ⟨fun h => absurd rfl h, fun _ => ⟨fun c4 => ?_, fun c4 => ?_⟩⟩
    · have c4 := (i_le (x := 0) (y := v2) (show (0 : Int32).toInt = 0 from rfl) rfl).mp c4
      unfold f_X11_sheet_b41
      exact ⟨fun _ => go 0 v2 (Or.inl ⟨rfl, rfl, c4, c3⟩) hr, fun h => absurd rfl h⟩
    · have c4 := (not_congr (i_le (x := 0) (y := v2) (show (0 : Int32).toInt = 0 from rfl) rfl)).mp c4
      exact hQ _ I L w FR.rf (by unfold shetA; rw [if_neg (fun h => h hr), if_neg c3, if_pos (by omega)]; rfl)
  · have c3 : v1.toInt = 3 := (i_eq rfl (show (3 : Int32).toInt = 3 from rfl)).mp c3
    have n1 : ¬ (1 : Int32) = 0 := by decide
    unfold f_X11_sheet_b27
    refine ⟨fun _ => ?_, fun h => absurd h n1⟩
    unfold f_X11_sheet_b41
    exact ⟨fun h => absurd h n1, fun _ => go 1 0 (Or.inr ⟨n1, c3⟩) hr⟩
theorem m_sheet {Z : jZ} {I0 : jI} {v0 uA : Nat} {v1 v2 v3 v4 : Int32} {s : Nat} {Q : Int32 → jI → jL → Prop} (w0 : WD Z I0) (k0 : jk Z v0 12) (hA : jr Z v0 3 = some uA) (kA : jk Z uA 14) (lA : jlen Z uA = 24) (hs : s ≤ 24)
    (hQ : ∀ (r : Int32) (I' : jI) (L' : jL), WD Z I' → FR Ws_X12_sheet Z I0 Z I' → ((v1.toInt = 3 ∧ r.toInt = -3) ∨ (¬ v1.toInt = 3 ∧ r.toInt = shS (shG v1 v2 v3 v4) s)) → Q r I' L') :
    ∀ (m i : Nat) (v5 v6 v7 : Int32) (I : jI) (L : jL), WD Z I → FR Ws_X12_sheet Z I0 Z I → (I v0 0).toInt = (s : Int) → (v1.toInt = 3 ∨ v5.toInt = shS (shG v1 v2 v3 v4) i) → v6 = v3 + Int32.ofNat i * v4 → v7.toInt = (i : Int) → i ≤ s → 25 ≤ m + i → f_X12_sheet_L43 Z Q m v0 v1 v2 v4 v5 v6 v7 I L := by
  intro m
  induction m with
  | zero => intro i v5 v6 v7 I L w f e1 h5 h6 e2 h1 h3; exfalso; omega
  | succ m ih =>
    intro i v5 v6 v7 I L w f e1 h5 h6 e2 h1 h3
    unfold f_X12_sheet_L43
    refine ⟨fun c => ?_, fun c => ?_⟩
    · have c := (i_le e1 e2).mp c
      have ei : i = s := by omega
      rw [ei] at h5
      refine ⟨fun c3 => ?_, fun c3 => ?_⟩
      · have c3 := (not_congr (i_eq rfl (show (3 : Int32).toInt = 3 from rfl))).mp c3
        exact hQ _ I L w f (Or.inr ⟨c3, h5.resolve_left c3⟩)
      · have c3 := (i_eq rfl (show (3 : Int32).toInt = 3 from rfl)).mp c3
        exact hQ _ I L w f (Or.inl ⟨c3, rfl⟩)
    have c := (not_congr (i_le e1 e2)).mp c
    have n7 := i_nat e2 (by omega)
    have fin : ∀ s2 : Int32, (0 ≤ s2.toInt ∧ s2.toInt ≤ 20) → (v1.toInt = 3 ∨ s2.toInt = shG v1 v2 v3 v4 i) → f_X12_sheet_b109 (f_X12_sheet_L43 Z Q m) Z Q v0 v1 v2 v4 v5 v6 v7 uA v7 s2 I L := by
      intro s2 rg2 hg
      unfold f_X12_sheet_b109
      refine ⟨vi_of e2 (by omega) (by rw [lA]; omega), ?_⟩
      intro I2 eI2 b3 eb3
      cases hA.symm.trans eb3
      refine ⟨vi_of e2 (by omega) (by omega), ?_⟩
      intro x5 e5 x6 e6 x7 e7
      have w2 : WD Z I2 := by rw [eI2]; exact WD_putA w 12 3 k0 hA kA rfl rfl (by decide) (by constructor <;> omega)
      have f2 : FR Ws_X12_sheet Z I Z I2 := by rw [eI2]; exact FR_upA w.2.1 k0 hA kA rfl rfl (by decide)
      have a1 : I2 uA v7.toNatClampNeg = s2 := by rw [eI2]; exact jpI_at
      refine ih (i + 1) x5 x6 x7 I2 L w2 (f.trans w0.1 w0.2.1 f2) ?_ ?_ ?_ ?_ (by omega) (by omega)
      · rw [f2.2.2.1 v0 12 0 k0 (by decide) (by decide)]; exact e1
      · rcases hg with h | h
        · exact Or.inl h
        · rcases h5 with g | g
          · exact Or.inl g
          · have r1 := shS_rg (shG_rg v1 v2 v3 v4) i
            right
            rw [e5, a1]
            exact (i_add g h (by omega) (by omega)).trans (by show shS (shG v1 v2 v3 v4) i + shG v1 v2 v3 v4 i = _; rfl)
      · rw [e6, h6]; exact i32_st v3 v4 i
      · rw [e7]; exact (i_add e2 (show (1 : Int32).toInt = 1 from rfl) (by omega) (by omega)).trans (by omega)
    have z20 : 0 ≤ (0 : Int32).toInt ∧ (0 : Int32).toInt ≤ 20 := by decide
    have key : ∀ s0 : Int32, (s0.toInt = if v1 = 0 then (v6.toInt8.toInt32).toInt else if v1 = 1 then (v6.toInt16.toInt32).toInt else v6.toInt) → f_X12_sheet_b75 (f_X12_sheet_L43 Z Q m) Z Q v0 v1 v2 v4 v5 v6 v7 s0 I L := by
      intro s0 es
      unfold f_X12_sheet_b75
      intro b8 eb8
      cases hA.symm.trans eb8
      refine ⟨fun c3 => ?_, fun c3 => ⟨fun c4 => ?_, fun c4 => ?_⟩⟩
      · have c3 := (i_eq rfl (show (3 : Int32).toInt = 3 from rfl)).mp c3
        unfold f_X12_sheet_b94
        exact fin 0 z20 (Or.inl c3)
      · have c4 := (i_lt e2 rfl).mp c4
        have ee : (if (0 : Int32) < (if s0 < (20 : Int32) then s0 else (20 : Int32)) then (if s0 < (20 : Int32) then s0 else (20 : Int32)) else (0 : Int32)).toInt = shE v1 v6 := by
          unfold shE
          rw [← es]
          exact i_max (show (0 : Int32).toInt = 0 from rfl) (i_min (show (20 : Int32).toInt = 20 from rfl) rfl)
        refine fin _ (by rw [ee]; exact shE_rg v1 v6) (Or.inr ?_)
        unfold shG
        rw [if_pos c4, ← h6]; exact ee
      · have c4 := (not_congr (i_lt e2 rfl)).mp c4
        unfold f_X12_sheet_b94
        exact fin 0 z20 (Or.inr (by unfold shG; rw [if_neg c4]; rfl))
    refine ⟨fun c3 => ⟨fun c4 => key _ ?_, fun c4 => key _ ?_⟩, fun c3 => key _ ?_⟩
    · rw [if_neg c3, if_neg c4]
    · rw [if_neg c3, if_pos c4]
    · rw [if_pos c3]
theorem s9_X12_sheet {Z : jZ} {I : jI} {L : jL} (w : WD Z I) (v0 : Nat) (v1 v2 v3 v4 : Int32) (kv0 : jk Z v0 12) {Q : Int32 → jI → jL → Prop} (hQ : ∀ (r : Int32) (I' : jI) (L' : jL), WD Z I' → FR Ws_X12_sheet Z I Z I' → r.toInt = shetA (I v0 0).toInt v1 v2 v3 v4 → Q r I' L') : f_X12_sheet v0 v1 v2 v3 v4 Z I L Q := by
  have sz : 0 ≤ (I v0 0).toInt ∧ (I v0 0).toInt ≤ 24 := w.fld 12 0 kv0 (by decide)
  obtain ⟨uA, hA, kA, lA⟩ := sh_f w.1 kv0 (j := 3) (k := 14) (m := 24) rfl
  unfold f_X12_sheet
  intro I16 e16
  have w16 : WD Z I16 := by rw [e16]; exact WD_putF w 12 22 kv0 (by decide) (by decide) trivial
  have f16 : FR Ws_X12_sheet Z I Z I16 := by rw [e16]; exact FR_putF kv0 (by decide) (by decide)
  have es16 : (I16 v0 0).toInt = (I v0 0).toInt := by rw [f16.2.2.1 v0 12 0 kv0 (by decide) (by decide)]
  have go : (0 ≤ v1.toInt ∧ v1.toInt ≤ 3 ∧ v2.toInt ≤ 24) → (v1.toInt = 3 ∨ 0 ≤ v2.toInt) → f_X12_sheet_b34 Z Q v0 v1 v2 v3 v4 I16 L := by
    intro hr hh
    unfold f_X12_sheet_b34
    refine ⟨25, m_sheet (v3 := v3) (s := (I v0 0).toInt.toNat) w kv0 hA kA lA (by omega) (fun r I' L' w' f' p => hQ r I' L' w' f' ?_) 25 0 0 v3 0 I16 L w16 f16 (by omega) (Or.inr rfl) ?_ rfl (by omega) (by omega)⟩
    · unfold shetA
      rw [if_neg (fun h => h hr)]
      rcases p with ⟨p1, p2⟩ | ⟨p1, p2⟩
      · rw [if_pos p1]; exact p2
      · rw [if_neg p1, if_neg (by omega)]; exact p2
    · rw [show Int32.ofNat 0 * v4 = 0 from Int32.zero_mul, Int32.add_zero]
  refine s_X12_in w16 _ _ _ (fun r23 p => ?_)
  have z3 : (3 : Int32).toInt = 3 := rfl
  have z0 : (0 : Int32).toInt = 0 := rfl
  refine ⟨fun c => ?_, fun c => ⟨fun c2 => ⟨fun c3 => ?_, fun c3 => ⟨fun c4 => ?_, fun c4 => ?_⟩⟩, fun c2 => ?_⟩⟩
  · have c := (i_eq rfl z0).mp c
    exact hQ _ I16 L w16 f16 (by unfold shetA; rw [if_pos (by omega)]; rfl)
  · have c := (not_congr (i_eq rfl z0)).mp c
    have c2 := (i_le (x := v2) (y := 24) rfl (show (24 : Int32).toInt = 24 from rfl)).mp c2
    have c3 := (i_le (x := 3) (y := v1) z3 rfl).mp c3
    exact go (by omega) (Or.inl (by omega))
  · have c := (not_congr (i_eq rfl z0)).mp c
    have c2 := (i_le (x := v2) (y := 24) rfl (show (24 : Int32).toInt = 24 from rfl)).mp c2
    have c4 := (i_le (x := 0) (y := v2) z0 rfl).mp c4
    exact go (by omega) (Or.inr c4)
  · have c := (not_congr (i_eq rfl z0)).mp c
    have c2 := (i_le (x := v2) (y := 24) rfl (show (24 : Int32).toInt = 24 from rfl)).mp c2
    have c3 := (not_congr (i_le (x := 3) (y := v1) z3 rfl)).mp c3
    have c4 := (not_congr (i_le (x := 0) (y := v2) z0 rfl)).mp c4
    exact hQ _ I16 L w16 f16 (by unfold shetA; rw [if_neg (fun h => h (by omega)), if_neg (by omega), if_pos (by omega)]; rfl)
  · have c2 := (not_congr (i_le (x := v2) (y := 24) rfl (show (24 : Int32).toInt = 24 from rfl))).mp c2
    exact hQ _ I16 L w16 f16 (by unfold shetA; rw [if_pos (by omega)]; rfl)
theorem shetA_c {s s' r r' : Int} {k n f b : Int32} (h : r = shetA s k n f b) (h' : r' = shetA s' k n f b) (e : s = s') : r = r' := by rw [h, h', e]
end
section
/-! ===== keep and again: the loops ===== -/
set_option maxHeartbeats 4000000 in
set_option maxRecDepth 100000 in
theorem l11_X12_keep_L157 {Z : jZ} {I0 : jI} {Q : Int32 → jI → jL → Prop} (w0 : WD Z I0) (v0 : Nat) (v1 : Int32) (kv0 : jk Z v0 12) (hQ : ∀ (r : Int32) (I' : jI) (L' : jL), WD Z I' → FR Ws_X12_put Z I0 Z I' → ((r.toInt = 1 ∧ 0 ≤ v1.toInt ∧ v1.toInt ≤ 1) ∨ (r.toInt = 0 ∧ ¬ (0 ≤ v1.toInt ∧ v1.toInt ≤ 1))) → Q r I' L') : ∀ (n : Nat) (v2 : Int32) (I : jI) (L : jL), WD Z I → FR Ws_X12_put Z I0 Z I →   (0 ≤ v2.toInt ∧ v2.toInt ≤ 8 ∧ (I v0 66).toInt = 266 * v1.toInt + 258 + 1 * v2.toInt ∧ 0 ≤ v1.toInt ∧ v1.toInt ≤ 1) → 8 - v2.toInt < (n : Int) → f_X12_keep_L157  Z Q n v0 v2 I L := by
  intro n
  induction n with
  | zero =>
    intro v2 I L w_I q_I   li  me
    exfalso
    omega
  | succ n ih =>
    intro v2 I L w_I q_I   li  me
    unfold f_X12_keep_L157
    have rv2 := i_rng v2
    have rv1 := i_rng v1
    refine ⟨fun c1 => ?_, fun c1 => ?_⟩
    · skip
      first | (have t2 : (8) ≤ v2.toInt := (i_le (show (8 : Int32).toInt = 8 from rfl) rfl).mp c1) | (have t2 : (8 : Int32).toInt ≤ v2.toInt := (i_le rfl rfl).mp c1) | skip
      have t3 : (1 : Int32).toInt = 1 := rfl
      exact hQ (1 : Int32) I L w_I q_I (by omega)
    · skip
      first | (have t4 : ¬ ((8) ≤ v2.toInt) := (not_congr (i_le (show (8 : Int32).toInt = 8 from rfl) rfl)).mp c1) | (have t4 : ¬ ((8 : Int32).toInt ≤ v2.toInt) := (not_congr (i_le rfl rfl)).mp c1) | skip
      intro b5 eb5
      obtain ⟨x6, ex6, kb5, lb5⟩ := sh_f w_I.1 kv0 (j := 17) (k := 14) (m := 8) rfl
      cases eb5.symm.trans ex6
      have o7 : vp_in v2 8 := vi_of rfl (by omega) (by omega)
      refine ⟨o7, ?_⟩
      refine s_X12_put w_I v0 (I b5 v2.toNatClampNeg) kv0  (by omega) (by exact ptF (k := v1.toInt) (m := (I v0 66).toInt - 266 * v1.toInt) (by omega) (by omega) (by omega) (by refine ⟨?_, ?_, ?_⟩ <;> intros <;> (constructor <;> omega))) (fun  I9 L10 w_I9 f_I9 p8 => ?_)
      have q_I9 : FR Ws_X12_put Z I0 Z I9 := q_I.trans w0.1 w0.2.1 (f_I9.mono (by decide))
      intro x11 ex11
      have rx11 := i_rng x11
      first | (have tx11 : x11.toInt = v2.toInt + (1) := by (rw [ex11]; exact (i_add rfl (show (1 : Int32).toInt = 1 from rfl) (by omega) (by omega)))) | skip
      exact ih x11 I9 L10 w_I9 q_I9   (by omega)  (by omega)
set_option maxHeartbeats 4000000 in
set_option maxRecDepth 100000 in
theorem l11_X12_keep_L113 {Z : jZ} {I0 : jI} {Q : Int32 → jI → jL → Prop} (w0 : WD Z I0) (v0 : Nat) (v1 : Int32) (kv0 : jk Z v0 12) (hQ : ∀ (r : Int32) (I' : jI) (L' : jL), WD Z I' → FR Ws_X12_put Z I0 Z I' → ((r.toInt = 1 ∧ 0 ≤ v1.toInt ∧ v1.toInt ≤ 1) ∨ (r.toInt = 0 ∧ ¬ (0 ≤ v1.toInt ∧ v1.toInt ≤ 1))) → Q r I' L') : ∀ (n : Nat) (v2 : Int32) (I : jI) (L : jL), WD Z I → FR Ws_X12_put Z I0 Z I →   (0 ≤ v2.toInt ∧ v2.toInt ≤ 6 ∧ (I v0 66).toInt = 266 * v1.toInt + 240 + 3 * v2.toInt ∧ 0 ≤ v1.toInt ∧ v1.toInt ≤ 1) → 6 - v2.toInt < (n : Int) → f_X12_keep_L113  Z Q n v0 v2 I L := by
  intro n
  induction n with
  | zero =>
    intro v2 I L w_I q_I   li  me
    exfalso
    omega
  | succ n ih =>
    intro v2 I L w_I q_I   li  me
    unfold f_X12_keep_L113
    have rv2 := i_rng v2
    have rv1 := i_rng v1
    refine ⟨fun c12 => ?_, fun c12 => ?_⟩
    · skip
      first | (have t13 : (6) ≤ v2.toInt := (i_le (show (6 : Int32).toInt = 6 from rfl) rfl).mp c12) | (have t13 : (6 : Int32).toInt ≤ v2.toInt := (i_le rfl rfl).mp c12) | skip
      have t14 : (0 : Int32).toInt = 0 := rfl
      exact ⟨(8 - (0 : Int32).toInt).toNat + 1, l11_X12_keep_L157 w0 v0 v1 kv0   hQ   _ (0 : Int32) I L w_I q_I   (by omega)  (by omega)⟩
    · skip
      first | (have t15 : ¬ ((6) ≤ v2.toInt) := (not_congr (i_le (show (6 : Int32).toInt = 6 from rfl) rfl)).mp c12) | (have t15 : ¬ ((6 : Int32).toInt ≤ v2.toInt) := (not_congr (i_le rfl rfl)).mp c12) | skip
      intro b16 eb16
      obtain ⟨x17, ex17, kb16, lb16⟩ := sh_f w_I.1 kv0 (j := 14) (k := 14) (m := 6) rfl
      cases eb16.symm.trans ex17
      have o18 : vp_in v2 6 := vi_of rfl (by omega) (by omega)
      refine ⟨o18, ?_⟩
      have t19 : -1 ≤ (I b16 v2.toNatClampNeg).toInt ∧ (I b16 v2.toNatClampNeg).toInt ≤ 23 := w_I.arr 12 14 kv0 eb16 kb16 rfl rfl _
      refine s_X12_put w_I v0 (I b16 v2.toNatClampNeg) kv0  (by omega) (by exact ptF (k := v1.toInt) (m := (I v0 66).toInt - 266 * v1.toInt) (by omega) (by omega) (by omega) (by refine ⟨?_, ?_, ?_⟩ <;> intros <;> (constructor <;> omega))) (fun  I21 L22 w_I21 f_I21 p20 => ?_)
      have q_I21 : FR Ws_X12_put Z I0 Z I21 := q_I.trans w0.1 w0.2.1 (f_I21.mono (by decide))
      intro b23 eb23
      obtain ⟨x24, ex24, kb23, lb23⟩ := sh_f w_I21.1 kv0 (j := 15) (k := 14) (m := 6) rfl
      cases eb23.symm.trans ex24
      have o25 : vp_in v2 6 := vi_of rfl (by omega) (by omega)
      refine ⟨o25, ?_⟩
      refine s_X12_put w_I21 v0 (I21 b23 v2.toNatClampNeg) kv0  (by omega) (by exact ptF (k := v1.toInt) (m := (I21 v0 66).toInt - 266 * v1.toInt) (by omega) (by omega) (by omega) (by refine ⟨?_, ?_, ?_⟩ <;> intros <;> (constructor <;> omega))) (fun  I27 L28 w_I27 f_I27 p26 => ?_)
      have q_I27 : FR Ws_X12_put Z I0 Z I27 := q_I21.trans w0.1 w0.2.1 (f_I27.mono (by decide))
      intro b29 eb29
      obtain ⟨x30, ex30, kb29, lb29⟩ := sh_f w_I27.1 kv0 (j := 16) (k := 14) (m := 6) rfl
      cases eb29.symm.trans ex30
      have o31 : vp_in v2 6 := vi_of rfl (by omega) (by omega)
      refine ⟨o31, ?_⟩
      refine s_X12_put w_I27 v0 (I27 b29 v2.toNatClampNeg) kv0  (by omega) (by exact ptF (k := v1.toInt) (m := (I27 v0 66).toInt - 266 * v1.toInt) (by omega) (by omega) (by omega) (by refine ⟨?_, ?_, ?_⟩ <;> intros <;> (constructor <;> omega))) (fun  I33 L34 w_I33 f_I33 p32 => ?_)
      have q_I33 : FR Ws_X12_put Z I0 Z I33 := q_I27.trans w0.1 w0.2.1 (f_I33.mono (by decide))
      intro x35 ex35
      have rx35 := i_rng x35
      first | (have tx35 : x35.toInt = v2.toInt + (1) := by (rw [ex35]; exact (i_add rfl (show (1 : Int32).toInt = 1 from rfl) (by omega) (by omega)))) | skip
      exact ih x35 I33 L34 w_I33 q_I33   (by omega)  (by omega)
set_option maxHeartbeats 4000000 in
set_option maxRecDepth 100000 in
theorem l11_X12_keep_L88 {Z : jZ} {I0 : jI} {Q : Int32 → jI → jL → Prop} (w0 : WD Z I0) (v0 : Nat) (v1 : Int32) (kv0 : jk Z v0 12) (hQ : ∀ (r : Int32) (I' : jI) (L' : jL), WD Z I' → FR Ws_X12_put Z I0 Z I' → ((r.toInt = 1 ∧ 0 ≤ v1.toInt ∧ v1.toInt ≤ 1) ∨ (r.toInt = 0 ∧ ¬ (0 ≤ v1.toInt ∧ v1.toInt ≤ 1))) → Q r I' L') : ∀ (n : Nat) (v2 : Int32) (I : jI) (L : jL), WD Z I → FR Ws_X12_put Z I0 Z I →   (0 ≤ v2.toInt ∧ v2.toInt ≤ 192 ∧ (I v0 66).toInt = 266 * v1.toInt + 48 + 1 * v2.toInt ∧ 0 ≤ v1.toInt ∧ v1.toInt ≤ 1) → 192 - v2.toInt < (n : Int) → f_X12_keep_L88  Z Q n v0 v2 I L := by
  intro n
  induction n with
  | zero =>
    intro v2 I L w_I q_I   li  me
    exfalso
    omega
  | succ n ih =>
    intro v2 I L w_I q_I   li  me
    unfold f_X12_keep_L88
    have rv2 := i_rng v2
    have rv1 := i_rng v1
    refine ⟨fun c36 => ?_, fun c36 => ?_⟩
    · skip
      first | (have t37 : (192) ≤ v2.toInt := (i_le (show (192 : Int32).toInt = 192 from rfl) rfl).mp c36) | (have t37 : (192 : Int32).toInt ≤ v2.toInt := (i_le rfl rfl).mp c36) | skip
      have t38 : (0 : Int32).toInt = 0 := rfl
      exact ⟨(6 - (0 : Int32).toInt).toNat + 1, l11_X12_keep_L113 w0 v0 v1 kv0   hQ   _ (0 : Int32) I L w_I q_I   (by omega)  (by omega)⟩
    · skip
      first | (have t39 : ¬ ((192) ≤ v2.toInt) := (not_congr (i_le (show (192 : Int32).toInt = 192 from rfl) rfl)).mp c36) | (have t39 : ¬ ((192 : Int32).toInt ≤ v2.toInt) := (not_congr (i_le rfl rfl)).mp c36) | skip
      intro b40 eb40
      obtain ⟨x41, ex41, kb40, lb40⟩ := sh_f w_I.1 kv0 (j := 5) (k := 14) (m := 192) rfl
      cases eb40.symm.trans ex41
      have o42 : vp_in v2 192 := vi_of rfl (by omega) (by omega)
      refine ⟨o42, ?_⟩
      refine s_X12_put w_I v0 (I b40 v2.toNatClampNeg) kv0  (by omega) (by exact ptF (k := v1.toInt) (m := (I v0 66).toInt - 266 * v1.toInt) (by omega) (by omega) (by omega) (by refine ⟨?_, ?_, ?_⟩ <;> intros <;> (constructor <;> omega))) (fun  I44 L45 w_I44 f_I44 p43 => ?_)
      have q_I44 : FR Ws_X12_put Z I0 Z I44 := q_I.trans w0.1 w0.2.1 (f_I44.mono (by decide))
      intro x46 ex46
      have rx46 := i_rng x46
      first | (have tx46 : x46.toInt = v2.toInt + (1) := by (rw [ex46]; exact (i_add rfl (show (1 : Int32).toInt = 1 from rfl) (by omega) (by omega)))) | skip
      exact ih x46 I44 L45 w_I44 q_I44   (by omega)  (by omega)
set_option maxHeartbeats 4000000 in
set_option maxRecDepth 100000 in
theorem l11_X12_keep_L54 {Z : jZ} {I0 : jI} {Q : Int32 → jI → jL → Prop} (w0 : WD Z I0) (v0 : Nat) (v1 : Int32) (kv0 : jk Z v0 12) (hQ : ∀ (r : Int32) (I' : jI) (L' : jL), WD Z I' → FR Ws_X12_put Z I0 Z I' → ((r.toInt = 1 ∧ 0 ≤ v1.toInt ∧ v1.toInt ≤ 1) ∨ (r.toInt = 0 ∧ ¬ (0 ≤ v1.toInt ∧ v1.toInt ≤ 1))) → Q r I' L') : ∀ (n : Nat) (v2 : Int32) (I : jI) (L : jL), WD Z I → FR Ws_X12_put Z I0 Z I →   (0 ≤ v2.toInt ∧ v2.toInt ≤ 24 ∧ (I v0 66).toInt = 266 * v1.toInt + 0 + 2 * v2.toInt ∧ 0 ≤ v1.toInt ∧ v1.toInt ≤ 1) → 24 - v2.toInt < (n : Int) → f_X12_keep_L54  Z Q n v0 v2 I L := by
  intro n
  induction n with
  | zero =>
    intro v2 I L w_I q_I   li  me
    exfalso
    omega
  | succ n ih =>
    intro v2 I L w_I q_I   li  me
    unfold f_X12_keep_L54
    have rv2 := i_rng v2
    have rv1 := i_rng v1
    refine ⟨fun c47 => ?_, fun c47 => ?_⟩
    · skip
      first | (have t48 : (24) ≤ v2.toInt := (i_le (show (24 : Int32).toInt = 24 from rfl) rfl).mp c47) | (have t48 : (24 : Int32).toInt ≤ v2.toInt := (i_le rfl rfl).mp c47) | skip
      have t49 : (0 : Int32).toInt = 0 := rfl
      exact ⟨(192 - (0 : Int32).toInt).toNat + 1, l11_X12_keep_L88 w0 v0 v1 kv0   hQ   _ (0 : Int32) I L w_I q_I   (by omega)  (by omega)⟩
    · skip
      first | (have t50 : ¬ ((24) ≤ v2.toInt) := (not_congr (i_le (show (24 : Int32).toInt = 24 from rfl) rfl)).mp c47) | (have t50 : ¬ ((24 : Int32).toInt ≤ v2.toInt) := (not_congr (i_le rfl rfl)).mp c47) | skip
      intro b51 eb51
      obtain ⟨x52, ex52, kb51, lb51⟩ := sh_f w_I.1 kv0 (j := 2) (k := 14) (m := 24) rfl
      cases eb51.symm.trans ex52
      have o53 : vp_in v2 24 := vi_of rfl (by omega) (by omega)
      refine ⟨o53, ?_⟩
      have t54 : 0 ≤ (I b51 v2.toNatClampNeg).toInt ∧ (I b51 v2.toNatClampNeg).toInt ≤ 9 := w_I.arr 12 2 kv0 eb51 kb51 rfl rfl _
      refine s_X12_put w_I v0 (I b51 v2.toNatClampNeg) kv0  (by omega) (by exact ptF (k := v1.toInt) (m := (I v0 66).toInt - 266 * v1.toInt) (by omega) (by omega) (by omega) (by refine ⟨?_, ?_, ?_⟩ <;> intros <;> (constructor <;> omega))) (fun  I56 L57 w_I56 f_I56 p55 => ?_)
      have q_I56 : FR Ws_X12_put Z I0 Z I56 := q_I.trans w0.1 w0.2.1 (f_I56.mono (by decide))
      intro b58 eb58
      obtain ⟨x59, ex59, kb58, lb58⟩ := sh_f w_I56.1 kv0 (j := 3) (k := 14) (m := 24) rfl
      cases eb58.symm.trans ex59
      have o60 : vp_in v2 24 := vi_of rfl (by omega) (by omega)
      refine ⟨o60, ?_⟩
      have t61 : 0 ≤ (I56 b58 v2.toNatClampNeg).toInt ∧ (I56 b58 v2.toNatClampNeg).toInt ≤ 20 := w_I56.arr 12 3 kv0 eb58 kb58 rfl rfl _
      refine s_X12_put w_I56 v0 (I56 b58 v2.toNatClampNeg) kv0  (by omega) (by exact ptF (k := v1.toInt) (m := (I56 v0 66).toInt - 266 * v1.toInt) (by omega) (by omega) (by omega) (by refine ⟨?_, ?_, ?_⟩ <;> intros <;> (constructor <;> omega))) (fun  I63 L64 w_I63 f_I63 p62 => ?_)
      have q_I63 : FR Ws_X12_put Z I0 Z I63 := q_I56.trans w0.1 w0.2.1 (f_I63.mono (by decide))
      intro x65 ex65
      have rx65 := i_rng x65
      first | (have tx65 : x65.toInt = v2.toInt + (1) := by (rw [ex65]; exact (i_add rfl (show (1 : Int32).toInt = 1 from rfl) (by omega) (by omega)))) | skip
      exact ih x65 I63 L64 w_I63 q_I63   (by omega)  (by omega)
set_option maxHeartbeats 4000000 in
set_option maxRecDepth 100000 in
theorem l11_X12_again_L175 {Z : jZ} {I0 : jI} {Q : Int32 → jI → jL → Prop} (w0 : WD Z I0) (v0 : Nat) (v1 : Int32) (kv0 : jk Z v0 12) (hQ : ∀ (I' : jI) (L' : jL), WD Z I' → FR Ws_X12_again Z I0 Z I' → Q (1 : Int32) I' L') : ∀ (n : Nat) (v2 : Int32) (I : jI) (L : jL), WD Z I → FR Ws_X12_again Z I0 Z I →   (0 ≤ v2.toInt ∧ v2.toInt ≤ 8 ∧ (I v0 66).toInt = 266 * v1.toInt + 258 + 1 * v2.toInt ∧ 0 ≤ v1.toInt ∧ v1.toInt ≤ 1) → 8 - v2.toInt < (n : Int) → f_X12_again_L175  Z Q n v0 v2 I L := by
  intro n
  induction n with
  | zero =>
    intro v2 I L w_I q_I   li  me
    exfalso
    omega
  | succ n ih =>
    intro v2 I L w_I q_I   li  me
    unfold f_X12_again_L175
    have rv2 := i_rng v2
    have rv1 := i_rng v1
    refine ⟨fun c1 => ?_, fun c1 => ?_⟩
    · skip
      first | (have t2 : (8) ≤ v2.toInt := (i_le (show (8 : Int32).toInt = 8 from rfl) rfl).mp c1) | (have t2 : (8 : Int32).toInt ≤ v2.toInt := (i_le rfl rfl).mp c1) | skip
      intro I3 eI3
      have t4 : (0 : Int32).toInt = 0 := rfl
      have w_I3 : WD Z I3 := by rw [eI3]; exact WD_putF w_I 12 52 kv0 (by decide) (by decide) (by constructor <;> omega)
      have f_I3 : FR [(12, 52)] Z I Z I3 := by rw [eI3]; exact FR_putF kv0 (by decide) List.mem_cons_self
      have q_I3 : FR Ws_X12_again Z I0 Z I3 := q_I.trans w0.1 w0.2.1 (f_I3.mono (by decide))
      have u5 : (I3 v0 66).toInt = (I v0 66).toInt := by rw [f_I3.2.2.1 v0 12 66 kv0 (by decide) (by decide)]
      first | (have u6 : (I3 v0 52).toInt = (0) := by (rw [eI3, show jpI I v0 52 (0 : Int32) v0 52 = (0 : Int32) from jpI_at] <;> exact (show (0 : Int32).toInt = 0 from rfl))) | skip
      have t7 : (1 : Int32).toInt = 1 := rfl
      exact hQ I3 L w_I3 q_I3 
    · skip
      first | (have t8 : ¬ ((8) ≤ v2.toInt) := (not_congr (i_le (show (8 : Int32).toInt = 8 from rfl) rfl)).mp c1) | (have t8 : ¬ ((8 : Int32).toInt ≤ v2.toInt) := (not_congr (i_le rfl rfl)).mp c1) | skip
      intro b9 eb9
      obtain ⟨x10, ex10, kb9, lb9⟩ := sh_f w_I.1 kv0 (j := 17) (k := 14) (m := 8) rfl
      cases eb9.symm.trans ex10
      refine s_X12_take w_I v0 kv0  (by omega) (fun r11 I13 L14 w_I13 f_I13 p12 => ?_)
      have q_I13 : FR Ws_X12_again Z I0 Z I13 := q_I.trans w0.1 w0.2.1 (f_I13.mono (by decide))
      have h15 := tkF (k := v1.toInt) (m := (I v0 66).toInt - 266 * v1.toInt) p12.2 (by omega) (by omega) (by omega)
      first | (have h151 := h15.1 (by omega) (by omega)) | (have h151 := h15.2.1 (by omega) (by omega)) | (have h151 := h15.2.2 (by omega) (by omega) (by omega)) | skip
      clear h15
      obtain ⟨p12_0, p12_1⟩ := p12
      have rr11 := i_rng r11
      have o16 : vp_in v2 8 := vi_of rfl (by omega) (by omega)
      refine ⟨o16, ?_⟩
      intro I17 eI17
      have w_I17 : WD Z I17 := by rw [eI17]; exact WD_putA w_I13 12 17 kv0 eb9 kb9 rfl rfl (by decide) trivial
      have f_I17 : FR [(12, 17)] Z I13 Z I17 := by rw [eI17]; exact FR_upA w_I13.2.1 kv0 eb9 kb9 rfl rfl List.mem_cons_self
      have q_I17 : FR Ws_X12_again Z I0 Z I17 := q_I13.trans w0.1 w0.2.1 (f_I17.mono (by decide))
      have u18 : (I17 v0 66).toInt = (I13 v0 66).toInt := by rw [f_I17.2.2.1 v0 12 66 kv0 (by decide) (by decide)]
      intro x19 ex19
      have rx19 := i_rng x19
      first | (have tx19 : x19.toInt = v2.toInt + (1) := by (rw [ex19]; exact (i_add rfl (show (1 : Int32).toInt = 1 from rfl) (by omega) (by omega)))) | skip
      exact ih x19 I17 L14 w_I17 q_I17   (by omega)  (by omega)
set_option maxHeartbeats 4000000 in
set_option maxRecDepth 100000 in
theorem l11_X12_again_L108 {Z : jZ} {I0 : jI} {Q : Int32 → jI → jL → Prop} (w0 : WD Z I0) (v0 : Nat) (v1 : Int32) (kv0 : jk Z v0 12) (hQ : ∀ (I' : jI) (L' : jL), WD Z I' → FR Ws_X12_again Z I0 Z I' → Q (1 : Int32) I' L') : ∀ (n : Nat) (v2 : Int32) (I : jI) (L : jL), WD Z I → FR Ws_X12_again Z I0 Z I →   (0 ≤ v2.toInt ∧ v2.toInt ≤ 6 ∧ (I v0 66).toInt = 266 * v1.toInt + 240 + 3 * v2.toInt ∧ 0 ≤ v1.toInt ∧ v1.toInt ≤ 1) → 6 - v2.toInt < (n : Int) → f_X12_again_L108  Z Q n v0 v1 v2 I L := by
  intro n
  induction n with
  | zero =>
    intro v2 I L w_I q_I   li  me
    exfalso
    omega
  | succ n ih =>
    intro v2 I L w_I q_I   li  me
    unfold f_X12_again_L108
    have rv2 := i_rng v2
    have rv1 := i_rng v1
    refine ⟨fun c20 => ?_, fun c20 => ?_⟩
    · skip
      first | (have t21 : (6) ≤ v2.toInt := (i_le (show (6 : Int32).toInt = 6 from rfl) rfl).mp c20) | (have t21 : (6 : Int32).toInt ≤ v2.toInt := (i_le rfl rfl).mp c20) | skip
      have t22 : (0 : Int32).toInt = 0 := rfl
      exact ⟨(8 - (0 : Int32).toInt).toNat + 1, l11_X12_again_L175 w0 v0 v1 kv0   hQ   _ (0 : Int32) I L w_I q_I   (by omega)  (by omega)⟩
    · skip
      first | (have t23 : ¬ ((6) ≤ v2.toInt) := (not_congr (i_le (show (6 : Int32).toInt = 6 from rfl) rfl)).mp c20) | (have t23 : ¬ ((6 : Int32).toInt ≤ v2.toInt) := (not_congr (i_le rfl rfl)).mp c20) | skip
      refine s_X12_take w_I v0 kv0  (by omega) (fun r24 I26 L27 w_I26 f_I26 p25 => ?_)
      have q_I26 : FR Ws_X12_again Z I0 Z I26 := q_I.trans w0.1 w0.2.1 (f_I26.mono (by decide))
      have h28 := tkF (k := v1.toInt) (m := (I v0 66).toInt - 266 * v1.toInt) p25.2 (by omega) (by omega) (by omega)
      first | (have h281 := h28.1 (by omega) (by omega)) | (have h281 := h28.2.1 (by omega) (by omega)) | (have h281 := h28.2.2 (by omega) (by omega) (by omega)) | skip
      clear h28
      obtain ⟨p25_0, p25_1⟩ := p25
      have rr24 := i_rng r24
      refine s_X12_take w_I26 v0 kv0  (by omega) (fun r29 I31 L32 w_I31 f_I31 p30 => ?_)
      have q_I31 : FR Ws_X12_again Z I0 Z I31 := q_I26.trans w0.1 w0.2.1 (f_I31.mono (by decide))
      have h33 := tkF (k := v1.toInt) (m := (I26 v0 66).toInt - 266 * v1.toInt) p30.2 (by omega) (by omega) (by omega)
      first | (have h331 := h33.1 (by omega) (by omega)) | (have h331 := h33.2.1 (by omega) (by omega)) | (have h331 := h33.2.2 (by omega) (by omega) (by omega)) | skip
      clear h33
      obtain ⟨p30_0, p30_1⟩ := p30
      have rr29 := i_rng r29
      refine s_X12_take w_I31 v0 kv0  (by omega) (fun r34 I36 L37 w_I36 f_I36 p35 => ?_)
      have q_I36 : FR Ws_X12_again Z I0 Z I36 := q_I31.trans w0.1 w0.2.1 (f_I36.mono (by decide))
      have h38 := tkF (k := v1.toInt) (m := (I31 v0 66).toInt - 266 * v1.toInt) p35.2 (by omega) (by omega) (by omega)
      first | (have h381 := h38.1 (by omega) (by omega)) | (have h381 := h38.2.1 (by omega) (by omega)) | (have h381 := h38.2.2 (by omega) (by omega) (by omega)) | skip
      clear h38
      obtain ⟨p35_0, p35_1⟩ := p35
      have rr34 := i_rng r34
      intro b39 eb39
      obtain ⟨x40, ex40, kb39, lb39⟩ := sh_f w_I36.1 kv0 (j := 65) (k := 14) (m := 2) rfl
      cases eb39.symm.trans ex40
      have o41 : vp_in v1 2 := vi_of rfl (by omega) (by omega)
      refine ⟨o41, ?_⟩
      refine ⟨fun c42 => ?_, fun c42 => ?_⟩
      · skip
        first | (have t43 : v2.toInt < (I36 b39 v1.toNatClampNeg).toInt := (i_lt rfl rfl).mp c42) | (have t43 : v2.toInt < (I36 b39 v1.toNatClampNeg).toInt := (i_lt rfl rfl).mp c42) | skip
        intro b44 eb44
        obtain ⟨x45, ex45, kb44, lb44⟩ := sh_f w_I36.1 kv0 (j := 14) (k := 14) (m := 6) rfl
        cases eb44.symm.trans ex45
        have o46 : vp_in v2 6 := vi_of rfl (by omega) (by omega)
        refine ⟨o46, ?_⟩
        intro I47 eI47
        have w_I47 : WD Z I47 := by rw [eI47]; exact WD_putA w_I36 12 14 kv0 eb44 kb44 rfl rfl (by decide) (by constructor <;> omega)
        have f_I47 : FR [(12, 14)] Z I36 Z I47 := by rw [eI47]; exact FR_upA w_I36.2.1 kv0 eb44 kb44 rfl rfl List.mem_cons_self
        have q_I47 : FR Ws_X12_again Z I0 Z I47 := q_I36.trans w0.1 w0.2.1 (f_I47.mono (by decide))
        have u48 : (I47 v0 66).toInt = (I36 v0 66).toInt := by rw [f_I47.2.2.1 v0 12 66 kv0 (by decide) (by decide)]
        intro b49 eb49
        obtain ⟨x50, ex50, kb49, lb49⟩ := sh_f w_I47.1 kv0 (j := 15) (k := 14) (m := 6) rfl
        cases eb49.symm.trans ex50
        have o51 : vp_in v2 6 := vi_of rfl (by omega) (by omega)
        refine ⟨o51, ?_⟩
        intro I52 eI52
        have w_I52 : WD Z I52 := by rw [eI52]; exact WD_putA w_I47 12 15 kv0 eb49 kb49 rfl rfl (by decide) trivial
        have f_I52 : FR [(12, 15)] Z I47 Z I52 := by rw [eI52]; exact FR_upA w_I47.2.1 kv0 eb49 kb49 rfl rfl List.mem_cons_self
        have q_I52 : FR Ws_X12_again Z I0 Z I52 := q_I47.trans w0.1 w0.2.1 (f_I52.mono (by decide))
        have u53 : (I52 v0 66).toInt = (I47 v0 66).toInt := by rw [f_I52.2.2.1 v0 12 66 kv0 (by decide) (by decide)]
        intro b54 eb54
        obtain ⟨x55, ex55, kb54, lb54⟩ := sh_f w_I52.1 kv0 (j := 16) (k := 14) (m := 6) rfl
        cases eb54.symm.trans ex55
        have o56 : vp_in v2 6 := vi_of rfl (by omega) (by omega)
        refine ⟨o56, ?_⟩
        intro I57 eI57
        have w_I57 : WD Z I57 := by rw [eI57]; exact WD_putA w_I52 12 16 kv0 eb54 kb54 rfl rfl (by decide) trivial
        have f_I57 : FR [(12, 16)] Z I52 Z I57 := by rw [eI57]; exact FR_upA w_I52.2.1 kv0 eb54 kb54 rfl rfl List.mem_cons_self
        have q_I57 : FR Ws_X12_again Z I0 Z I57 := q_I52.trans w0.1 w0.2.1 (f_I57.mono (by decide))
        have u58 : (I57 v0 66).toInt = (I52 v0 66).toInt := by rw [f_I57.2.2.1 v0 12 66 kv0 (by decide) (by decide)]
        unfold f_X12_again_b167
        intro x59 ex59
        have rx59 := i_rng x59
        first | (have tx59 : x59.toInt = v2.toInt + (1) := by (rw [ex59]; exact (i_add rfl (show (1 : Int32).toInt = 1 from rfl) (by omega) (by omega)))) | skip
        exact ih x59 I57 L37 w_I57 q_I57   (by omega)  (by omega)
      · skip
        first | (have t60 : ¬ (v2.toInt < (I36 b39 v1.toNatClampNeg).toInt) := (not_congr (i_lt rfl rfl)).mp c42) | (have t60 : ¬ (v2.toInt < (I36 b39 v1.toNatClampNeg).toInt) := (not_congr (i_lt rfl rfl)).mp c42) | skip
        unfold f_X12_again_b167
        intro x61 ex61
        have rx61 := i_rng x61
        first | (have tx61 : x61.toInt = v2.toInt + (1) := by (rw [ex61]; exact (i_add rfl (show (1 : Int32).toInt = 1 from rfl) (by omega) (by omega)))) | skip
        exact ih x61 I36 L37 w_I36 q_I36   (by omega)  (by omega)
set_option maxHeartbeats 4000000 in
set_option maxRecDepth 100000 in
theorem l11_X12_again_L83 {Z : jZ} {I0 : jI} {Q : Int32 → jI → jL → Prop} (w0 : WD Z I0) (v0 : Nat) (v1 : Int32) (kv0 : jk Z v0 12) (hQ : ∀ (I' : jI) (L' : jL), WD Z I' → FR Ws_X12_again Z I0 Z I' → Q (1 : Int32) I' L') : ∀ (n : Nat) (v2 : Int32) (I : jI) (L : jL), WD Z I → FR Ws_X12_again Z I0 Z I →   (0 ≤ v2.toInt ∧ v2.toInt ≤ 192 ∧ (I v0 66).toInt = 266 * v1.toInt + 48 + 1 * v2.toInt ∧ 0 ≤ v1.toInt ∧ v1.toInt ≤ 1) → 192 - v2.toInt < (n : Int) → f_X12_again_L83  Z Q n v0 v1 v2 I L := by
  intro n
  induction n with
  | zero =>
    intro v2 I L w_I q_I   li  me
    exfalso
    omega
  | succ n ih =>
    intro v2 I L w_I q_I   li  me
    unfold f_X12_again_L83
    have rv2 := i_rng v2
    have rv1 := i_rng v1
    refine ⟨fun c62 => ?_, fun c62 => ?_⟩
    · skip
      first | (have t63 : (192) ≤ v2.toInt := (i_le (show (192 : Int32).toInt = 192 from rfl) rfl).mp c62) | (have t63 : (192 : Int32).toInt ≤ v2.toInt := (i_le rfl rfl).mp c62) | skip
      have t64 : (0 : Int32).toInt = 0 := rfl
      exact ⟨(6 - (0 : Int32).toInt).toNat + 1, l11_X12_again_L108 w0 v0 v1 kv0   hQ   _ (0 : Int32) I L w_I q_I   (by omega)  (by omega)⟩
    · skip
      first | (have t65 : ¬ ((192) ≤ v2.toInt) := (not_congr (i_le (show (192 : Int32).toInt = 192 from rfl) rfl)).mp c62) | (have t65 : ¬ ((192 : Int32).toInt ≤ v2.toInt) := (not_congr (i_le rfl rfl)).mp c62) | skip
      intro b66 eb66
      obtain ⟨x67, ex67, kb66, lb66⟩ := sh_f w_I.1 kv0 (j := 5) (k := 14) (m := 192) rfl
      cases eb66.symm.trans ex67
      refine s_X12_take w_I v0 kv0  (by omega) (fun r68 I70 L71 w_I70 f_I70 p69 => ?_)
      have q_I70 : FR Ws_X12_again Z I0 Z I70 := q_I.trans w0.1 w0.2.1 (f_I70.mono (by decide))
      have h72 := tkF (k := v1.toInt) (m := (I v0 66).toInt - 266 * v1.toInt) p69.2 (by omega) (by omega) (by omega)
      first | (have h721 := h72.1 (by omega) (by omega)) | (have h721 := h72.2.1 (by omega) (by omega)) | (have h721 := h72.2.2 (by omega) (by omega) (by omega)) | skip
      clear h72
      obtain ⟨p69_0, p69_1⟩ := p69
      have rr68 := i_rng r68
      have o73 : vp_in v2 192 := vi_of rfl (by omega) (by omega)
      refine ⟨o73, ?_⟩
      intro I74 eI74
      have w_I74 : WD Z I74 := by rw [eI74]; exact WD_putA w_I70 12 5 kv0 eb66 kb66 rfl rfl (by decide) trivial
      have f_I74 : FR [(12, 5)] Z I70 Z I74 := by rw [eI74]; exact FR_upA w_I70.2.1 kv0 eb66 kb66 rfl rfl List.mem_cons_self
      have q_I74 : FR Ws_X12_again Z I0 Z I74 := q_I70.trans w0.1 w0.2.1 (f_I74.mono (by decide))
      have u75 : (I74 v0 66).toInt = (I70 v0 66).toInt := by rw [f_I74.2.2.1 v0 12 66 kv0 (by decide) (by decide)]
      intro x76 ex76
      have rx76 := i_rng x76
      first | (have tx76 : x76.toInt = v2.toInt + (1) := by (rw [ex76]; exact (i_add rfl (show (1 : Int32).toInt = 1 from rfl) (by omega) (by omega)))) | skip
      exact ih x76 I74 L71 w_I74 q_I74   (by omega)  (by omega)
set_option maxHeartbeats 4000000 in
set_option maxRecDepth 100000 in
theorem l11_X12_again_L49 {Z : jZ} {I0 : jI} {Q : Int32 → jI → jL → Prop} (w0 : WD Z I0) (v0 : Nat) (v1 : Int32) (kv0 : jk Z v0 12) (hQ : ∀ (I' : jI) (L' : jL), WD Z I' → FR Ws_X12_again Z I0 Z I' → Q (1 : Int32) I' L') : ∀ (n : Nat) (v2 : Int32) (I : jI) (L : jL), WD Z I → FR Ws_X12_again Z I0 Z I →   (0 ≤ v2.toInt ∧ v2.toInt ≤ 24 ∧ (I v0 66).toInt = 266 * v1.toInt + 0 + 2 * v2.toInt ∧ 0 ≤ v1.toInt ∧ v1.toInt ≤ 1) → 24 - v2.toInt < (n : Int) → f_X12_again_L49  Z Q n v0 v1 v2 I L := by
  intro n
  induction n with
  | zero =>
    intro v2 I L w_I q_I   li  me
    exfalso
    omega
  | succ n ih =>
    intro v2 I L w_I q_I   li  me
    unfold f_X12_again_L49
    have rv2 := i_rng v2
    have rv1 := i_rng v1
    refine ⟨fun c77 => ?_, fun c77 => ?_⟩
    · skip
      first | (have t78 : (24) ≤ v2.toInt := (i_le (show (24 : Int32).toInt = 24 from rfl) rfl).mp c77) | (have t78 : (24 : Int32).toInt ≤ v2.toInt := (i_le rfl rfl).mp c77) | skip
      have t79 : (0 : Int32).toInt = 0 := rfl
      exact ⟨(192 - (0 : Int32).toInt).toNat + 1, l11_X12_again_L83 w0 v0 v1 kv0   hQ   _ (0 : Int32) I L w_I q_I   (by omega)  (by omega)⟩
    · skip
      first | (have t80 : ¬ ((24) ≤ v2.toInt) := (not_congr (i_le (show (24 : Int32).toInt = 24 from rfl) rfl)).mp c77) | (have t80 : ¬ ((24 : Int32).toInt ≤ v2.toInt) := (not_congr (i_le rfl rfl)).mp c77) | skip
      intro b81 eb81
      obtain ⟨x82, ex82, kb81, lb81⟩ := sh_f w_I.1 kv0 (j := 2) (k := 14) (m := 24) rfl
      cases eb81.symm.trans ex82
      refine s_X12_take w_I v0 kv0  (by omega) (fun r83 I85 L86 w_I85 f_I85 p84 => ?_)
      have q_I85 : FR Ws_X12_again Z I0 Z I85 := q_I.trans w0.1 w0.2.1 (f_I85.mono (by decide))
      have h87 := tkF (k := v1.toInt) (m := (I v0 66).toInt - 266 * v1.toInt) p84.2 (by omega) (by omega) (by omega)
      first | (have h871 := h87.1 (by omega) (by omega)) | (have h871 := h87.2.1 (by omega) (by omega)) | (have h871 := h87.2.2 (by omega) (by omega) (by omega)) | skip
      clear h87
      obtain ⟨p84_0, p84_1⟩ := p84
      have rr83 := i_rng r83
      have o88 : vp_in v2 24 := vi_of rfl (by omega) (by omega)
      refine ⟨o88, ?_⟩
      intro I89 eI89
      have w_I89 : WD Z I89 := by rw [eI89]; exact WD_putA w_I85 12 2 kv0 eb81 kb81 rfl rfl (by decide) (by constructor <;> omega)
      have f_I89 : FR [(12, 2)] Z I85 Z I89 := by rw [eI89]; exact FR_upA w_I85.2.1 kv0 eb81 kb81 rfl rfl List.mem_cons_self
      have q_I89 : FR Ws_X12_again Z I0 Z I89 := q_I85.trans w0.1 w0.2.1 (f_I89.mono (by decide))
      have u90 : (I89 v0 66).toInt = (I85 v0 66).toInt := by rw [f_I89.2.2.1 v0 12 66 kv0 (by decide) (by decide)]
      intro b91 eb91
      obtain ⟨x92, ex92, kb91, lb91⟩ := sh_f w_I89.1 kv0 (j := 3) (k := 14) (m := 24) rfl
      cases eb91.symm.trans ex92
      refine s_X12_take w_I89 v0 kv0  (by omega) (fun r93 I95 L96 w_I95 f_I95 p94 => ?_)
      have q_I95 : FR Ws_X12_again Z I0 Z I95 := q_I89.trans w0.1 w0.2.1 (f_I95.mono (by decide))
      have h97 := tkF (k := v1.toInt) (m := (I89 v0 66).toInt - 266 * v1.toInt) p94.2 (by omega) (by omega) (by omega)
      first | (have h971 := h97.1 (by omega) (by omega)) | (have h971 := h97.2.1 (by omega) (by omega)) | (have h971 := h97.2.2 (by omega) (by omega) (by omega)) | skip
      clear h97
      obtain ⟨p94_0, p94_1⟩ := p94
      have rr93 := i_rng r93
      have o98 : vp_in v2 24 := vi_of rfl (by omega) (by omega)
      refine ⟨o98, ?_⟩
      intro I99 eI99
      have w_I99 : WD Z I99 := by rw [eI99]; exact WD_putA w_I95 12 3 kv0 eb91 kb91 rfl rfl (by decide) (by constructor <;> omega)
      have f_I99 : FR [(12, 3)] Z I95 Z I99 := by rw [eI99]; exact FR_upA w_I95.2.1 kv0 eb91 kb91 rfl rfl List.mem_cons_self
      have q_I99 : FR Ws_X12_again Z I0 Z I99 := q_I95.trans w0.1 w0.2.1 (f_I99.mono (by decide))
      have u100 : (I99 v0 66).toInt = (I95 v0 66).toInt := by rw [f_I99.2.2.1 v0 12 66 kv0 (by decide) (by decide)]
      intro x101 ex101
      have rx101 := i_rng x101
      first | (have tx101 : x101.toInt = v2.toInt + (1) := by (rw [ex101]; exact (i_add rfl (show (1 : Int32).toInt = 1 from rfl) (by omega) (by omega)))) | skip
      exact ih x101 I99 L96 w_I99 q_I99   (by omega)  (by omega)
set_option maxHeartbeats 4000000 in
set_option maxRecDepth 100000 in
theorem l11_X11_again_L59 {Z : jZ} {I0 : jI} {Q : Int32 → jI → jL → Prop} (w0 : WD Z I0) (v0 : Nat) (v1 : Int32) (kv0 : jk Z v0 11) (v2 : Nat) (kv2 : jk Z v2 2) (hQ : ∀ (I' : jI) (L' : jL), WD Z I' → FR Ws_X11_again Z I0 Z I' → Q (1 : Int32) I' L') : ∀ (n : Nat) (v3 : Int32) (I : jI) (L : jL), WD Z I → FR Ws_X11_again Z I0 Z I →   (0 ≤ v3.toInt ∧ v3.toInt ≤ 6) → 6 - v3.toInt < (n : Int) → f_X11_again_L59  Z Q n v0 v2 v3 I L := by
  intro n
  induction n with
  | zero =>
    intro v3 I L w_I q_I   li  me
    exfalso
    omega
  | succ n ih =>
    intro v3 I L w_I q_I   li  me
    unfold f_X11_again_L59
    have rv3 := i_rng v3
    have rv1 := i_rng v1
    refine ⟨fun c1 => ?_, fun c1 => ?_⟩
    · skip
      first | (have t2 : (I v2 7).toInt ≤ v3.toInt := (i_le rfl rfl).mp c1) | (have t2 : (I v2 7).toInt ≤ v3.toInt := (i_le rfl rfl).mp c1) | skip
      have t3 : (1 : Int32).toInt = 1 := rfl
      exact hQ I L w_I q_I 
    · skip
      first | (have t4 : ¬ ((I v2 7).toInt ≤ v3.toInt) := (not_congr (i_le rfl rfl)).mp c1) | (have t4 : ¬ ((I v2 7).toInt ≤ v3.toInt) := (not_congr (i_le rfl rfl)).mp c1) | skip
      have t6 : 0 ≤ (I v0 4).toInt ∧ (I v0 4).toInt ≤ 6 := w_I.fld 11 4 kv0 (by decide)
      refine ⟨fun c7 => ?_, fun c7 => ?_⟩
      · skip
        first | (have t8 : (I v0 4).toInt ≤ v3.toInt := (i_le rfl rfl).mp c7) | (have t8 : (I v0 4).toInt ≤ v3.toInt := (i_le rfl rfl).mp c7) | skip
        have t9 : (1 : Int32).toInt = 1 := rfl
        exact hQ I L w_I q_I 
      · skip
        first | (have t10 : ¬ ((I v0 4).toInt ≤ v3.toInt) := (not_congr (i_le rfl rfl)).mp c7) | (have t10 : ¬ ((I v0 4).toInt ≤ v3.toInt) := (not_congr (i_le rfl rfl)).mp c7) | skip
        refine s_X11_find w_I v0 v3 kv0   (fun r11 p12 => ?_)
        refine ⟨fun c14 => ?_, fun b13 c14 => ?_⟩
        · skip
          unfold f_X11_again_b94
          intro x15 ex15
          have rx15 := i_rng x15
          first | (have tx15 : x15.toInt = v3.toInt + (1) := by (rw [ex15]; exact (i_add rfl (show (1 : Int32).toInt = 1 from rfl) (by omega) (by omega)))) | skip
          exact ih x15 I L w_I q_I   (by omega)  (by omega)
        · skip
          have kb13 : jk Z b13 5 := by first | exact p12 b13 c14 | exact (p12 b13 c14).1 | exact (p12.1 b13 c14).1
          refine s_X2_getPilgrim w_I v2 v3 b13 kv2 kb13   (fun  I16 L17 w_I16 f_I16  => ?_)
          have q_I16 : FR Ws_X11_again Z I0 Z I16 := q_I.trans w0.1 w0.2.1 (f_I16.mono (by decide))
          have u18 : (I16 v2 7).toInt = (I v2 7).toInt := by rw [f_I16.2.2.1 v2 2 7 kv2 (by decide) (by decide)]
          have u19 : (I16 v0 4).toInt = (I v0 4).toInt := by rw [f_I16.2.2.1 v0 11 4 kv0 (by decide) (by decide)]
          unfold f_X11_again_b94
          intro x20 ex20
          have rx20 := i_rng x20
          first | (have tx20 : x20.toInt = v3.toInt + (1) := by (rw [ex20]; exact (i_add rfl (show (1 : Int32).toInt = 1 from rfl) (by omega) (by omega)))) | skip
          exact ih x20 I16 L17 w_I16 q_I16   (by omega)  (by omega)


set_option maxHeartbeats 4000000 in
set_option maxRecDepth 100000 in
theorem l11_X12_stairs_L301 {B : Nat × Nat} {T : Nat} {Z0 : jZ} {I0 : jI} {Q : Int32 → jZ → jI → jL → Prop} (w0 : WD Z0 I0) (v0 : Nat) (kv0 : jk Z0 v0 12) (uM : Nat) (huM : jr Z0 v0 18 = some uM) (p0 : 0 ≤ (I0 v0 7).toInt ∧ (I0 v0 7).toInt ≤ 100000) (v1 : Int32) (hQ : ∀ (r : Int32) (Z' : jZ) (I' : jI) (L' : jL), WD Z' I' → BUD B Z' T → FR Ws_X12_stairs Z0 I0 Z' I' → CP Z0 Z' → ((I' v0 19).toInt = 0 ∧ r.toInt = stA (I0 uM) (I0 v0 19).toInt ∧ (0 ≤ r.toInt → (I' v0 0).toInt = r.toInt) ∧ (r.toInt < 0 → (I' v0 0).toInt = (I0 v0 0).toInt) ∧ (0 ≤ r.toInt → (I' v0 7).toInt = (I0 v0 7).toInt + 1) ∧ (r.toInt < 0 → (I' v0 7).toInt = (I0 v0 7).toInt)) → Q r Z' I' L') : ∀ (n : Nat) (v3 : Int32) (Z : jZ) (I : jI) (L : jL), WD Z I → BUD B Z T → FR Ws_X12_stairs Z0 I0 Z I → CP Z0 Z →   (0 ≤ v3.toInt ∧ v3.toInt ≤ 6 ∧ (I v0 19).toInt = 0 ∧ v1.toInt = stA (I0 uM) (I0 v0 19).toInt ∧ 2 ≤ v1.toInt ∧ (I v0 0).toInt = v1.toInt ∧ (I v0 7).toInt = (I0 v0 7).toInt + 1) → 6 - v3.toInt < (n : Int) → f_X12_stairs_L301 B  Q n v0 v1 v3 Z I L := by
  intro n
  induction n with
  | zero =>
    intro v3 Z I L w_I bd_Z q_I cp_Z   li  me
    exfalso
    omega
  | succ n ih =>
    intro v3 Z I L w_I bd_Z q_I cp_Z   li  me
    unfold f_X12_stairs_L301
    have rv3 := i_rng v3
    have rv1 := i_rng v1
    have kv0_0 := kv0
    have kv0 := (q_I.1 _ _ kv0).1
    have huM_1 : jr Z v0 18 = some uM := (q_I.2.1 v0 12 18 kv0_0 (by decide) (by decide)).trans huM
    have luM : jlen Z uM = 80 := by obtain ⟨b9, e9, -, l9⟩ := sh_f w_I.1 kv0 (j := 18) (k := 13) (m := 80) rfl; cases huM_1.symm.trans e9; exact l9
    have kuM : jk Z uM 13 := by obtain ⟨b9, e9, k9, -⟩ := sh_f w_I.1 kv0 (j := 18) (k := 13) (m := 80) rfl; cases huM_1.symm.trans e9; exact k9
    have t1 : 0 ≤ (I v0 19).toInt ∧ (I v0 19).toInt ≤ 80 := w_I.fld 12 19 kv0 (by decide)
    have t2 : 0 ≤ (I v0 0).toInt ∧ (I v0 0).toInt ≤ 24 := w_I.fld 12 0 kv0 (by decide)
    have xq_I := q_I.1
    have t4 : 0 ≤ (I v0 8).toInt ∧ (I v0 8).toInt ≤ 6 := w_I.fld 12 8 kv0 (by decide)
    refine ⟨fun c5 => ?_, fun c5 => ?_⟩
    · skip
      first | (have t6 : (I v0 8).toInt ≤ v3.toInt := (i_le rfl rfl).mp c5) | (have t6 : (I v0 8).toInt ≤ v3.toInt := (i_le rfl rfl).mp c5) | skip
      exact hQ v1 Z I L w_I bd_Z q_I cp_Z (by omega)
    · skip
      first | (have t7 : ¬ ((I v0 8).toInt ≤ v3.toInt) := (not_congr (i_le rfl rfl)).mp c5) | (have t7 : ¬ ((I v0 8).toInt ≤ v3.toInt) := (not_congr (i_le rfl rfl)).mp c5) | skip
      intro b8 eb8
      obtain ⟨x9, ex9, kb8, lb8⟩ := sh_f w_I.1 kv0 (j := 14) (k := 14) (m := 6) rfl
      cases eb8.symm.trans ex9
      have o10 : vp_in v3 6 := vi_of rfl (by omega) (by omega)
      refine ⟨o10, ?_⟩
      intro I11 eI11
      have t12 : (-1 : Int32).toInt = -1 := rfl
      have w_I11 : WD Z I11 := by rw [eI11]; exact WD_putA w_I 12 14 kv0 eb8 kb8 rfl rfl (by decide) (by constructor <;> omega)
      have f_I11 : FR [(12, 14)] Z I Z I11 := by rw [eI11]; exact FR_upA w_I.2.1 kv0 eb8 kb8 rfl rfl List.mem_cons_self
      have q_I11 : FR Ws_X12_stairs Z0 I0 Z I11 := q_I.trans w0.1 w0.2.1 (f_I11.mono (by decide))
      have u13 : (I11 v0 19).toInt = (I v0 19).toInt := by rw [f_I11.2.2.1 v0 12 19 kv0 (by decide) (by decide)]
      have u14 : (I11 v0 0).toInt = (I v0 0).toInt := by rw [f_I11.2.2.1 v0 12 0 kv0 (by decide) (by decide)]
      have u15 : (I11 v0 7).toInt = (I v0 7).toInt := by rw [f_I11.2.2.1 v0 12 7 kv0 (by decide) (by decide)]
      have u16 : (I11 v0 8).toInt = (I v0 8).toInt := by rw [f_I11.2.2.1 v0 12 8 kv0 (by decide) (by decide)]
      intro b17 eb17
      obtain ⟨x18, ex18, kb17, lb17⟩ := sh_f w_I11.1 kv0 (j := 15) (k := 14) (m := 6) rfl
      cases eb17.symm.trans ex18
      intro b19 eb19
      obtain ⟨x20, ex20, kb19, lb19⟩ := sh_f w_I11.1 kv0 (j := 9) (k := 14) (m := 6) rfl
      cases eb19.symm.trans ex20
      have o21 : vp_in v3 6 := vi_of rfl (by omega) (by omega)
      refine ⟨o21, ?_⟩
      have t22 : 0 ≤ (I11 b19 v3.toNatClampNeg).toInt ∧ (I11 b19 v3.toNatClampNeg).toInt ≤ 120 := w_I11.arr 12 9 kv0 eb19 kb19 rfl rfl _
      have o23 : vp_in v3 6 := vi_of rfl (by omega) (by omega)
      refine ⟨o23, ?_⟩
      intro I24 eI24
      have w_I24 : WD Z I24 := by rw [eI24]; exact WD_putA w_I11 12 15 kv0 eb17 kb17 rfl rfl (by decide) trivial
      have f_I24 : FR [(12, 15)] Z I11 Z I24 := by rw [eI24]; exact FR_upA w_I11.2.1 kv0 eb17 kb17 rfl rfl List.mem_cons_self
      have q_I24 : FR Ws_X12_stairs Z0 I0 Z I24 := q_I11.trans w0.1 w0.2.1 (f_I24.mono (by decide))
      have u25 : (I24 v0 19).toInt = (I11 v0 19).toInt := by rw [f_I24.2.2.1 v0 12 19 kv0 (by decide) (by decide)]
      have u26 : (I24 v0 0).toInt = (I11 v0 0).toInt := by rw [f_I24.2.2.1 v0 12 0 kv0 (by decide) (by decide)]
      have u27 : (I24 v0 7).toInt = (I11 v0 7).toInt := by rw [f_I24.2.2.1 v0 12 7 kv0 (by decide) (by decide)]
      have u28 : (I24 v0 8).toInt = (I11 v0 8).toInt := by rw [f_I24.2.2.1 v0 12 8 kv0 (by decide) (by decide)]
      intro b29 eb29
      obtain ⟨x30, ex30, kb29, lb29⟩ := sh_f w_I24.1 kv0 (j := 16) (k := 14) (m := 6) rfl
      cases eb29.symm.trans ex30
      intro b31 eb31
      obtain ⟨x32, ex32, kb31, lb31⟩ := sh_f w_I24.1 kv0 (j := 10) (k := 14) (m := 6) rfl
      cases eb31.symm.trans ex32
      have o33 : vp_in v3 6 := vi_of rfl (by omega) (by omega)
      refine ⟨o33, ?_⟩
      have t34 : 0 ≤ (I24 b31 v3.toNatClampNeg).toInt ∧ (I24 b31 v3.toNatClampNeg).toInt ≤ 999 := w_I24.arr 12 10 kv0 eb31 kb31 rfl rfl _
      have o35 : vp_in v3 6 := vi_of rfl (by omega) (by omega)
      refine ⟨o35, ?_⟩
      intro I36 eI36
      have w_I36 : WD Z I36 := by rw [eI36]; exact WD_putA w_I24 12 16 kv0 eb29 kb29 rfl rfl (by decide) trivial
      have f_I36 : FR [(12, 16)] Z I24 Z I36 := by rw [eI36]; exact FR_upA w_I24.2.1 kv0 eb29 kb29 rfl rfl List.mem_cons_self
      have q_I36 : FR Ws_X12_stairs Z0 I0 Z I36 := q_I24.trans w0.1 w0.2.1 (f_I36.mono (by decide))
      have u37 : (I36 v0 19).toInt = (I24 v0 19).toInt := by rw [f_I36.2.2.1 v0 12 19 kv0 (by decide) (by decide)]
      have u38 : (I36 v0 0).toInt = (I24 v0 0).toInt := by rw [f_I36.2.2.1 v0 12 0 kv0 (by decide) (by decide)]
      have u39 : (I36 v0 7).toInt = (I24 v0 7).toInt := by rw [f_I36.2.2.1 v0 12 7 kv0 (by decide) (by decide)]
      have u40 : (I36 v0 8).toInt = (I24 v0 8).toInt := by rw [f_I36.2.2.1 v0 12 8 kv0 (by decide) (by decide)]
      intro x41 ex41
      have rx41 := i_rng x41
      first | (have tx41 : x41.toInt = v3.toInt + (1) := by (rw [ex41]; exact (i_add rfl (show (1 : Int32).toInt = 1 from rfl) (by omega) (by omega)))) | skip
      exact ih x41 Z I36 L w_I36 bd_Z q_I36 cp_Z   (by omega)  (by omega)
set_option maxHeartbeats 4000000 in
set_option maxRecDepth 100000 in
theorem l11_X12_stairs_L280 {B : Nat × Nat} {T : Nat} {Z0 : jZ} {I0 : jI} {Q : Int32 → jZ → jI → jL → Prop} (w0 : WD Z0 I0) (v0 : Nat) (kv0 : jk Z0 v0 12) (uM : Nat) (huM : jr Z0 v0 18 = some uM) (p0 : 0 ≤ (I0 v0 7).toInt ∧ (I0 v0 7).toInt ≤ 100000) (v1 : Int32) (hQ : ∀ (r : Int32) (Z' : jZ) (I' : jI) (L' : jL), WD Z' I' → BUD B Z' T → FR Ws_X12_stairs Z0 I0 Z' I' → CP Z0 Z' → ((I' v0 19).toInt = 0 ∧ r.toInt = stA (I0 uM) (I0 v0 19).toInt ∧ (0 ≤ r.toInt → (I' v0 0).toInt = r.toInt) ∧ (r.toInt < 0 → (I' v0 0).toInt = (I0 v0 0).toInt) ∧ (0 ≤ r.toInt → (I' v0 7).toInt = (I0 v0 7).toInt + 1) ∧ (r.toInt < 0 → (I' v0 7).toInt = (I0 v0 7).toInt)) → Q r Z' I' L') : ∀ (n : Nat) (v3 : Int32) (Z : jZ) (I : jI) (L : jL), WD Z I → BUD B Z T → FR Ws_X12_stairs Z0 I0 Z I → CP Z0 Z →   (0 ≤ v3.toInt ∧ v3.toInt ≤ 8 ∧ (I v0 19).toInt = 0 ∧ v1.toInt = stA (I0 uM) (I0 v0 19).toInt ∧ 2 ≤ v1.toInt ∧ (I v0 0).toInt = v1.toInt ∧ (I v0 7).toInt = (I0 v0 7).toInt + 1) → 8 - v3.toInt < (n : Int) → f_X12_stairs_L280 B  Q n v0 v1 v3 Z I L := by
  intro n
  induction n with
  | zero =>
    intro v3 Z I L w_I bd_Z q_I cp_Z   li  me
    exfalso
    omega
  | succ n ih =>
    intro v3 Z I L w_I bd_Z q_I cp_Z   li  me
    unfold f_X12_stairs_L280
    have rv3 := i_rng v3
    have rv1 := i_rng v1
    have kv0_0 := kv0
    have kv0 := (q_I.1 _ _ kv0).1
    have huM_1 : jr Z v0 18 = some uM := (q_I.2.1 v0 12 18 kv0_0 (by decide) (by decide)).trans huM
    have luM : jlen Z uM = 80 := by obtain ⟨b9, e9, -, l9⟩ := sh_f w_I.1 kv0 (j := 18) (k := 13) (m := 80) rfl; cases huM_1.symm.trans e9; exact l9
    have kuM : jk Z uM 13 := by obtain ⟨b9, e9, k9, -⟩ := sh_f w_I.1 kv0 (j := 18) (k := 13) (m := 80) rfl; cases huM_1.symm.trans e9; exact k9
    have t42 : 0 ≤ (I v0 19).toInt ∧ (I v0 19).toInt ≤ 80 := w_I.fld 12 19 kv0 (by decide)
    have t43 : 0 ≤ (I v0 0).toInt ∧ (I v0 0).toInt ≤ 24 := w_I.fld 12 0 kv0 (by decide)
    have xq_I := q_I.1
    refine ⟨fun c44 => ?_, fun c44 => ?_⟩
    · skip
      first | (have t45 : (8) ≤ v3.toInt := (i_le (show (8 : Int32).toInt = 8 from rfl) rfl).mp c44) | (have t45 : (8 : Int32).toInt ≤ v3.toInt := (i_le rfl rfl).mp c44) | skip
      have t46 : (0 : Int32).toInt = 0 := rfl
      exact ⟨(6 - (0 : Int32).toInt).toNat + 1, l11_X12_stairs_L301 w0 v0 kv0_0 uM huM p0 v1  hQ   _ (0 : Int32) Z I L w_I bd_Z q_I cp_Z   (by omega)  (by omega)⟩
    · skip
      first | (have t47 : ¬ ((8) ≤ v3.toInt) := (not_congr (i_le (show (8 : Int32).toInt = 8 from rfl) rfl)).mp c44) | (have t47 : ¬ ((8 : Int32).toInt ≤ v3.toInt) := (not_congr (i_le rfl rfl)).mp c44) | skip
      intro b48 eb48
      obtain ⟨x49, ex49, kb48, lb48⟩ := sh_f w_I.1 kv0 (j := 17) (k := 14) (m := 8) rfl
      cases eb48.symm.trans ex49
      have o50 : vp_in v3 8 := vi_of rfl (by omega) (by omega)
      refine ⟨o50, ?_⟩
      intro I51 eI51
      have t52 : (0 : Int32).toInt = 0 := rfl
      have w_I51 : WD Z I51 := by rw [eI51]; exact WD_putA w_I 12 17 kv0 eb48 kb48 rfl rfl (by decide) trivial
      have f_I51 : FR [(12, 17)] Z I Z I51 := by rw [eI51]; exact FR_upA w_I.2.1 kv0 eb48 kb48 rfl rfl List.mem_cons_self
      have q_I51 : FR Ws_X12_stairs Z0 I0 Z I51 := q_I.trans w0.1 w0.2.1 (f_I51.mono (by decide))
      have u53 : (I51 v0 19).toInt = (I v0 19).toInt := by rw [f_I51.2.2.1 v0 12 19 kv0 (by decide) (by decide)]
      have u54 : (I51 v0 0).toInt = (I v0 0).toInt := by rw [f_I51.2.2.1 v0 12 0 kv0 (by decide) (by decide)]
      have u55 : (I51 v0 7).toInt = (I v0 7).toInt := by rw [f_I51.2.2.1 v0 12 7 kv0 (by decide) (by decide)]
      intro x56 ex56
      have rx56 := i_rng x56
      first | (have tx56 : x56.toInt = v3.toInt + (1) := by (rw [ex56]; exact (i_add rfl (show (1 : Int32).toInt = 1 from rfl) (by omega) (by omega)))) | skip
      exact ih x56 Z I51 L w_I51 bd_Z q_I51 cp_Z   (by omega)  (by omega)
set_option maxHeartbeats 4000000 in
set_option maxRecDepth 100000 in
theorem l11_X12_stairs_L185 {B : Nat × Nat} {T : Nat} {Z0 : jZ} {I0 : jI} {Q : Int32 → jZ → jI → jL → Prop} (w0 : WD Z0 I0) (v0 : Nat) (kv0 : jk Z0 v0 12) (uM : Nat) (huM : jr Z0 v0 18 = some uM) (p0 : 0 ≤ (I0 v0 7).toInt ∧ (I0 v0 7).toInt ≤ 100000) (v1 : Int32) (v3 : Int32) (hQ : ∀ (r : Int32) (Z' : jZ) (I' : jI) (L' : jL), WD Z' I' → BUD B Z' T → FR Ws_X12_stairs Z0 I0 Z' I' → CP Z0 Z' → ((I' v0 19).toInt = 0 ∧ r.toInt = stA (I0 uM) (I0 v0 19).toInt ∧ (0 ≤ r.toInt → (I' v0 0).toInt = r.toInt) ∧ (r.toInt < 0 → (I' v0 0).toInt = (I0 v0 0).toInt) ∧ (0 ≤ r.toInt → (I' v0 7).toInt = (I0 v0 7).toInt + 1) ∧ (r.toInt < 0 → (I' v0 7).toInt = (I0 v0 7).toInt)) → Q r Z' I' L') {K131 : Nat → Int32 → Int32 → jZ → jI → jL → Prop} {N131 : Int} (hK131 : ∀ (v3 : Int32) (Z : jZ) (I : jI) (L : jL), WD Z I → BUD B Z T → FR Ws_X12_stairs Z0 I0 Z I → CP Z0 Z →   (0 ≤ v3.toInt ∧ v3.toInt ≤ 24 ∧ v1.toInt ≤ 24 ∧ (I v0 19).toInt = 0 ∧ v1.toInt = stA (I0 uM) (I0 v0 19).toInt ∧ 2 ≤ v1.toInt ∧ (I v0 0).toInt = v1.toInt ∧ (I v0 7).toInt = (I0 v0 7).toInt) → 24 - v3.toInt < N131 → K131 v0 v1 v3 Z I L) : ∀ (n : Nat) (v4 : Int32) (Z : jZ) (I : jI) (L : jL), WD Z I → BUD B Z T → FR Ws_X12_stairs Z0 I0 Z I → CP Z0 Z →   (0 ≤ v3.toInt ∧ v3.toInt ≤ 23 ∧ v1.toInt ≤ 24 ∧ 0 ≤ v4.toInt ∧ v4.toInt ≤ 8 ∧ (I v0 19).toInt = 0 ∧ v1.toInt = stA (I0 uM) (I0 v0 19).toInt ∧ 2 ≤ v1.toInt ∧ (I v0 0).toInt = v1.toInt ∧ (I v0 7).toInt = (I0 v0 7).toInt) → 24 - v3.toInt ≤ N131 → 8 - v4.toInt < (n : Int) → f_X12_stairs_L185 B K131 Q n v0 v1 v3 v4 Z I L := by
  intro n
  induction n with
  | zero =>
    intro v4 Z I L w_I bd_Z q_I cp_Z   li hm131 me
    exfalso
    omega
  | succ n ih =>
    intro v4 Z I L w_I bd_Z q_I cp_Z   li hm131 me
    unfold f_X12_stairs_L185
    have rv4 := i_rng v4
    have rv1 := i_rng v1
    have rv3 := i_rng v3
    have kv0_0 := kv0
    have kv0 := (q_I.1 _ _ kv0).1
    have huM_1 : jr Z v0 18 = some uM := (q_I.2.1 v0 12 18 kv0_0 (by decide) (by decide)).trans huM
    have luM : jlen Z uM = 80 := by obtain ⟨b9, e9, -, l9⟩ := sh_f w_I.1 kv0 (j := 18) (k := 13) (m := 80) rfl; cases huM_1.symm.trans e9; exact l9
    have kuM : jk Z uM 13 := by obtain ⟨b9, e9, k9, -⟩ := sh_f w_I.1 kv0 (j := 18) (k := 13) (m := 80) rfl; cases huM_1.symm.trans e9; exact k9
    have t57 : 0 ≤ (I v0 19).toInt ∧ (I v0 19).toInt ≤ 80 := w_I.fld 12 19 kv0 (by decide)
    have t58 : 0 ≤ (I v0 0).toInt ∧ (I v0 0).toInt ≤ 24 := w_I.fld 12 0 kv0 (by decide)
    have xq_I := q_I.1
    refine ⟨fun c59 => ?_, fun c59 => ?_⟩
    · skip
      first | (have t60 : (8) ≤ v4.toInt := (i_le (show (8 : Int32).toInt = 8 from rfl) rfl).mp c59) | (have t60 : (8 : Int32).toInt ≤ v4.toInt := (i_le rfl rfl).mp c59) | skip
      intro b61 eb61
      obtain ⟨x62, ex62, kb61, lb61⟩ := sh_f w_I.1 kv0 (j := 4) (k := 16) (m := 24) rfl
      cases eb61.symm.trans ex62
      intro b63 eb63
      obtain ⟨x64, ex64, kb63, lb63⟩ := sh_f w_I.1 kv0 (j := 28) (k := 14) (m := 120) rfl
      cases eb63.symm.trans ex64
      have o65 : vp_in (((5 : Int32) * v3) + (4 : Int32)) 120 := vi_of (i_add (i_mul (show (5 : Int32).toInt = 5 from rfl) rfl (by omega) (by omega)) (show (4 : Int32).toInt = 4 from rfl) (by omega) (by omega)) (by omega) (by omega)
      refine ⟨o65, ?_⟩
      have t67 := i_nat (x := (((5 : Int32) * v3) + (4 : Int32))) (i_add (i_mul (show (5 : Int32).toInt = 5 from rfl) rfl (by omega) (by omega)) (show (4 : Int32).toInt = 4 from rfl) (by omega) (by omega)) (by omega)
      have h66 : ((((5 : Int32) * v3) + (4 : Int32)).toNatClampNeg % 5 = 0 → 0 ≤ (I b63 (((5 : Int32) * v3) + (4 : Int32)).toNatClampNeg).toInt ∧ (I b63 (((5 : Int32) * v3) + (4 : Int32)).toNatClampNeg).toInt ≤ 30) ∧ ((((5 : Int32) * v3) + (4 : Int32)).toNatClampNeg % 5 = 1 → 0 ≤ (I b63 (((5 : Int32) * v3) + (4 : Int32)).toNatClampNeg).toInt ∧ (I b63 (((5 : Int32) * v3) + (4 : Int32)).toNatClampNeg).toInt ≤ 9) ∧ ((((5 : Int32) * v3) + (4 : Int32)).toNatClampNeg % 5 = 2 → 0 ≤ (I b63 (((5 : Int32) * v3) + (4 : Int32)).toNatClampNeg).toInt ∧ (I b63 (((5 : Int32) * v3) + (4 : Int32)).toNatClampNeg).toInt ≤ 20) := w_I.arr 12 28 kv0 eb63 kb63 rfl rfl _
      first | (have h661 := h66.1 (by omega)) | (have h661 := h66.2.1 (by omega)) | (have h661 := h66.2.2 (by omega)) | skip
      clear h66
      refine ⟨fun c68 => ?_, fun c68 => ?_⟩
      · skip
        first | (have t69 : ¬ ((I b63 (((5 : Int32) * v3) + (4 : Int32)).toNatClampNeg).toInt = (1)) := (not_congr (i_eq rfl (show (1 : Int32).toInt = 1 from rfl))).mp c68) | (have t69 : ¬ ((I b63 (((5 : Int32) * v3) + (4 : Int32)).toNatClampNeg).toInt = (1 : Int32).toInt) := (not_congr (i_eq rfl rfl)).mp c68) | skip
        unfold f_X12_stairs_b256
        have o70 : vp_in v3 (jlen Z b61) := vi_of rfl (by omega) (by omega)
        refine ⟨o70, ?_⟩
        intro I71 eI71
        have t72 : (0 : Int32).toInt = 0 := rfl
        have w_I71 : WD Z I71 := by rw [eI71]; exact WD_putA w_I 12 4 kv0 eb61 kb61 rfl rfl (by decide) trivial
        have f_I71 : FR [(12, 4)] Z I Z I71 := by rw [eI71]; exact FR_upA w_I.2.1 kv0 eb61 kb61 rfl rfl List.mem_cons_self
        have q_I71 : FR Ws_X12_stairs Z0 I0 Z I71 := q_I.trans w0.1 w0.2.1 (f_I71.mono (by decide))
        have u73 : (I71 v0 19).toInt = (I v0 19).toInt := by rw [f_I71.2.2.1 v0 12 19 kv0 (by decide) (by decide)]
        have u74 : (I71 v0 0).toInt = (I v0 0).toInt := by rw [f_I71.2.2.1 v0 12 0 kv0 (by decide) (by decide)]
        have u75 : (I71 v0 7).toInt = (I v0 7).toInt := by rw [f_I71.2.2.1 v0 12 7 kv0 (by decide) (by decide)]
        intro x76 ex76
        have rx76 := i_rng x76
        first | (have tx76 : x76.toInt = v3.toInt + (1) := by (rw [ex76]; exact (i_add rfl (show (1 : Int32).toInt = 1 from rfl) (by omega) (by omega)))) | skip
        exact hK131 x76 Z I71 L w_I71 bd_Z q_I71 cp_Z   (by omega)  (by omega)
      · skip
        first | (have t77 : (I b63 (((5 : Int32) * v3) + (4 : Int32)).toNatClampNeg).toInt = (1) := (i_eq rfl (show (1 : Int32).toInt = 1 from rfl)).mp c68) | (have t77 : (I b63 (((5 : Int32) * v3) + (4 : Int32)).toNatClampNeg).toInt = (1 : Int32).toInt := (i_eq rfl rfl).mp c68) | skip
        unfold f_X12_stairs_b256
        have o78 : vp_in v3 (jlen Z b61) := vi_of rfl (by omega) (by omega)
        refine ⟨o78, ?_⟩
        intro I79 eI79
        have t80 : (1 : Int32).toInt = 1 := rfl
        have w_I79 : WD Z I79 := by rw [eI79]; exact WD_putA w_I 12 4 kv0 eb61 kb61 rfl rfl (by decide) trivial
        have f_I79 : FR [(12, 4)] Z I Z I79 := by rw [eI79]; exact FR_upA w_I.2.1 kv0 eb61 kb61 rfl rfl List.mem_cons_self
        have q_I79 : FR Ws_X12_stairs Z0 I0 Z I79 := q_I.trans w0.1 w0.2.1 (f_I79.mono (by decide))
        have u81 : (I79 v0 19).toInt = (I v0 19).toInt := by rw [f_I79.2.2.1 v0 12 19 kv0 (by decide) (by decide)]
        have u82 : (I79 v0 0).toInt = (I v0 0).toInt := by rw [f_I79.2.2.1 v0 12 0 kv0 (by decide) (by decide)]
        have u83 : (I79 v0 7).toInt = (I v0 7).toInt := by rw [f_I79.2.2.1 v0 12 7 kv0 (by decide) (by decide)]
        intro x84 ex84
        have rx84 := i_rng x84
        first | (have tx84 : x84.toInt = v3.toInt + (1) := by (rw [ex84]; exact (i_add rfl (show (1 : Int32).toInt = 1 from rfl) (by omega) (by omega)))) | skip
        exact hK131 x84 Z I79 L w_I79 bd_Z q_I79 cp_Z   (by omega)  (by omega)
    · skip
      first | (have t85 : ¬ ((8) ≤ v4.toInt) := (not_congr (i_le (show (8 : Int32).toInt = 8 from rfl) rfl)).mp c59) | (have t85 : ¬ ((8 : Int32).toInt ≤ v4.toInt) := (not_congr (i_le rfl rfl)).mp c59) | skip
      intro b86 eb86
      obtain ⟨x87, ex87, kb86, lb86⟩ := sh_f w_I.1 kv0 (j := 5) (k := 14) (m := 192) rfl
      cases eb86.symm.trans ex87
      intro b88 eb88
      obtain ⟨x89, ex89, kb88, lb88⟩ := sh_f w_I.1 kv0 (j := 28) (k := 14) (m := 120) rfl
      cases eb88.symm.trans ex89
      have o90 : vp_in (((5 : Int32) * v3) + (3 : Int32)) 120 := vi_of (i_add (i_mul (show (5 : Int32).toInt = 5 from rfl) rfl (by omega) (by omega)) (show (3 : Int32).toInt = 3 from rfl) (by omega) (by omega)) (by omega) (by omega)
      refine ⟨o90, ?_⟩
      have t92 := i_nat (x := (((5 : Int32) * v3) + (3 : Int32))) (i_add (i_mul (show (5 : Int32).toInt = 5 from rfl) rfl (by omega) (by omega)) (show (3 : Int32).toInt = 3 from rfl) (by omega) (by omega)) (by omega)
      have h91 : ((((5 : Int32) * v3) + (3 : Int32)).toNatClampNeg % 5 = 0 → 0 ≤ (I b88 (((5 : Int32) * v3) + (3 : Int32)).toNatClampNeg).toInt ∧ (I b88 (((5 : Int32) * v3) + (3 : Int32)).toNatClampNeg).toInt ≤ 30) ∧ ((((5 : Int32) * v3) + (3 : Int32)).toNatClampNeg % 5 = 1 → 0 ≤ (I b88 (((5 : Int32) * v3) + (3 : Int32)).toNatClampNeg).toInt ∧ (I b88 (((5 : Int32) * v3) + (3 : Int32)).toNatClampNeg).toInt ≤ 9) ∧ ((((5 : Int32) * v3) + (3 : Int32)).toNatClampNeg % 5 = 2 → 0 ≤ (I b88 (((5 : Int32) * v3) + (3 : Int32)).toNatClampNeg).toInt ∧ (I b88 (((5 : Int32) * v3) + (3 : Int32)).toNatClampNeg).toInt ≤ 20) := w_I.arr 12 28 kv0 eb88 kb88 rfl rfl _
      first | (have h911 := h91.1 (by omega)) | (have h911 := h91.2.1 (by omega)) | (have h911 := h91.2.2 (by omega)) | skip
      clear h91
      refine ⟨fun c93 => ?_, fun c93 => ?_⟩
      · skip
        first | (have t94 : ¬ (v4.toInt = (I b88 (((5 : Int32) * v3) + (3 : Int32)).toNatClampNeg).toInt) := (not_congr (i_eq rfl rfl)).mp c93) | (have t94 : ¬ (v4.toInt = (I b88 (((5 : Int32) * v3) + (3 : Int32)).toNatClampNeg).toInt) := (not_congr (i_eq rfl rfl)).mp c93) | skip
        unfold f_X12_stairs_b225
        have o95 : vp_in (((8 : Int32) * v3) + v4) (jlen Z b86) := vi_of (i_add (i_mul (show (8 : Int32).toInt = 8 from rfl) rfl (by omega) (by omega)) rfl (by omega) (by omega)) (by omega) (by omega)
        refine ⟨o95, ?_⟩
        intro I96 eI96
        have t97 : (0 : Int32).toInt = 0 := rfl
        have w_I96 : WD Z I96 := by rw [eI96]; exact WD_putA w_I 12 5 kv0 eb86 kb86 rfl rfl (by decide) trivial
        have f_I96 : FR [(12, 5)] Z I Z I96 := by rw [eI96]; exact FR_upA w_I.2.1 kv0 eb86 kb86 rfl rfl List.mem_cons_self
        have q_I96 : FR Ws_X12_stairs Z0 I0 Z I96 := q_I.trans w0.1 w0.2.1 (f_I96.mono (by decide))
        have u98 : (I96 v0 19).toInt = (I v0 19).toInt := by rw [f_I96.2.2.1 v0 12 19 kv0 (by decide) (by decide)]
        have u99 : (I96 v0 0).toInt = (I v0 0).toInt := by rw [f_I96.2.2.1 v0 12 0 kv0 (by decide) (by decide)]
        have u100 : (I96 v0 7).toInt = (I v0 7).toInt := by rw [f_I96.2.2.1 v0 12 7 kv0 (by decide) (by decide)]
        intro x101 ex101
        have rx101 := i_rng x101
        first | (have tx101 : x101.toInt = v4.toInt + (1) := by (rw [ex101]; exact (i_add rfl (show (1 : Int32).toInt = 1 from rfl) (by omega) (by omega)))) | skip
        exact ih x101 Z I96 L w_I96 bd_Z q_I96 cp_Z   (by omega) (by omega) (by omega)
      · skip
        first | (have t102 : v4.toInt = (I b88 (((5 : Int32) * v3) + (3 : Int32)).toNatClampNeg).toInt := (i_eq rfl rfl).mp c93) | (have t102 : v4.toInt = (I b88 (((5 : Int32) * v3) + (3 : Int32)).toNatClampNeg).toInt := (i_eq rfl rfl).mp c93) | skip
        unfold f_X12_stairs_b225
        have o103 : vp_in (((8 : Int32) * v3) + v4) (jlen Z b86) := vi_of (i_add (i_mul (show (8 : Int32).toInt = 8 from rfl) rfl (by omega) (by omega)) rfl (by omega) (by omega)) (by omega) (by omega)
        refine ⟨o103, ?_⟩
        intro I104 eI104
        have t105 : (720 : Int32).toInt = 720 := rfl
        have w_I104 : WD Z I104 := by rw [eI104]; exact WD_putA w_I 12 5 kv0 eb86 kb86 rfl rfl (by decide) trivial
        have f_I104 : FR [(12, 5)] Z I Z I104 := by rw [eI104]; exact FR_upA w_I.2.1 kv0 eb86 kb86 rfl rfl List.mem_cons_self
        have q_I104 : FR Ws_X12_stairs Z0 I0 Z I104 := q_I.trans w0.1 w0.2.1 (f_I104.mono (by decide))
        have u106 : (I104 v0 19).toInt = (I v0 19).toInt := by rw [f_I104.2.2.1 v0 12 19 kv0 (by decide) (by decide)]
        have u107 : (I104 v0 0).toInt = (I v0 0).toInt := by rw [f_I104.2.2.1 v0 12 0 kv0 (by decide) (by decide)]
        have u108 : (I104 v0 7).toInt = (I v0 7).toInt := by rw [f_I104.2.2.1 v0 12 7 kv0 (by decide) (by decide)]
        intro x109 ex109
        have rx109 := i_rng x109
        first | (have tx109 : x109.toInt = v4.toInt + (1) := by (rw [ex109]; exact (i_add rfl (show (1 : Int32).toInt = 1 from rfl) (by omega) (by omega)))) | skip
        exact ih x109 Z I104 L w_I104 bd_Z q_I104 cp_Z   (by omega) (by omega) (by omega)
set_option maxHeartbeats 4000000 in
set_option maxRecDepth 100000 in
theorem l11_X12_stairs_L131 {B : Nat × Nat} {T : Nat} {Z0 : jZ} {I0 : jI} {Q : Int32 → jZ → jI → jL → Prop} (w0 : WD Z0 I0) (v0 : Nat) (kv0 : jk Z0 v0 12) (uM : Nat) (huM : jr Z0 v0 18 = some uM) (p0 : 0 ≤ (I0 v0 7).toInt ∧ (I0 v0 7).toInt ≤ 100000) (v1 : Int32) (hQ : ∀ (r : Int32) (Z' : jZ) (I' : jI) (L' : jL), WD Z' I' → BUD B Z' T → FR Ws_X12_stairs Z0 I0 Z' I' → CP Z0 Z' → ((I' v0 19).toInt = 0 ∧ r.toInt = stA (I0 uM) (I0 v0 19).toInt ∧ (0 ≤ r.toInt → (I' v0 0).toInt = r.toInt) ∧ (r.toInt < 0 → (I' v0 0).toInt = (I0 v0 0).toInt) ∧ (0 ≤ r.toInt → (I' v0 7).toInt = (I0 v0 7).toInt + 1) ∧ (r.toInt < 0 → (I' v0 7).toInt = (I0 v0 7).toInt)) → Q r Z' I' L') : ∀ (n : Nat) (v3 : Int32) (Z : jZ) (I : jI) (L : jL), WD Z I → BUD B Z T → FR Ws_X12_stairs Z0 I0 Z I → CP Z0 Z →   (0 ≤ v3.toInt ∧ v3.toInt ≤ 24 ∧ v1.toInt ≤ 24 ∧ (I v0 19).toInt = 0 ∧ v1.toInt = stA (I0 uM) (I0 v0 19).toInt ∧ 2 ≤ v1.toInt ∧ (I v0 0).toInt = v1.toInt ∧ (I v0 7).toInt = (I0 v0 7).toInt) → 24 - v3.toInt < (n : Int) → f_X12_stairs_L131 B  Q n v0 v1 v3 Z I L := by
  intro n
  induction n with
  | zero =>
    intro v3 Z I L w_I bd_Z q_I cp_Z   li  me
    exfalso
    omega
  | succ n ih =>
    intro v3 Z I L w_I bd_Z q_I cp_Z   li  me
    unfold f_X12_stairs_L131
    have rv3 := i_rng v3
    have rv1 := i_rng v1
    have kv0_0 := kv0
    have kv0 := (q_I.1 _ _ kv0).1
    have huM_1 : jr Z v0 18 = some uM := (q_I.2.1 v0 12 18 kv0_0 (by decide) (by decide)).trans huM
    have luM : jlen Z uM = 80 := by obtain ⟨b9, e9, -, l9⟩ := sh_f w_I.1 kv0 (j := 18) (k := 13) (m := 80) rfl; cases huM_1.symm.trans e9; exact l9
    have kuM : jk Z uM 13 := by obtain ⟨b9, e9, k9, -⟩ := sh_f w_I.1 kv0 (j := 18) (k := 13) (m := 80) rfl; cases huM_1.symm.trans e9; exact k9
    have t110 : 0 ≤ (I v0 19).toInt ∧ (I v0 19).toInt ≤ 80 := w_I.fld 12 19 kv0 (by decide)
    have t111 : 0 ≤ (I v0 0).toInt ∧ (I v0 0).toInt ≤ 24 := w_I.fld 12 0 kv0 (by decide)
    have xq_I := q_I.1
    refine ⟨fun c112 => ?_, fun c112 => ?_⟩
    · skip
      first | (have t113 : v1.toInt ≤ v3.toInt := (i_le rfl rfl).mp c112) | (have t113 : v1.toInt ≤ v3.toInt := (i_le rfl rfl).mp c112) | skip
      intro I114 eI114
      try (have t115 : ((I v0 7) + (1 : Int32)).toInt = ((I v0 7).toInt + (1)) := (i_add rfl (show (1 : Int32).toInt = 1 from rfl) (by omega) (by omega)))
      have w_I114 : WD Z I114 := by rw [eI114]; exact WD_putF w_I 12 7 kv0 (by decide) (by decide) trivial
      have f_I114 : FR [(12, 7)] Z I Z I114 := by rw [eI114]; exact FR_putF kv0 (by decide) List.mem_cons_self
      have q_I114 : FR Ws_X12_stairs Z0 I0 Z I114 := q_I.trans w0.1 w0.2.1 (f_I114.mono (by decide))
      have u116 : (I114 v0 19).toInt = (I v0 19).toInt := by rw [f_I114.2.2.1 v0 12 19 kv0 (by decide) (by decide)]
      have u117 : (I114 v0 0).toInt = (I v0 0).toInt := by rw [f_I114.2.2.1 v0 12 0 kv0 (by decide) (by decide)]
      first | (have u118 : (I114 v0 7).toInt = ((I v0 7).toInt + (1)) := by (rw [eI114, show jpI I v0 7 ((I v0 7) + (1 : Int32)) v0 7 = ((I v0 7) + (1 : Int32)) from jpI_at] <;> exact (i_add rfl (show (1 : Int32).toInt = 1 from rfl) (by omega) (by omega)))) | skip
      intro I119 eI119
      have t120 : (0 : Int32).toInt = 0 := rfl
      have w_I119 : WD Z I119 := by rw [eI119]; exact WD_putF w_I114 12 52 kv0 (by decide) (by decide) (by constructor <;> omega)
      have f_I119 : FR [(12, 52)] Z I114 Z I119 := by rw [eI119]; exact FR_putF kv0 (by decide) List.mem_cons_self
      have q_I119 : FR Ws_X12_stairs Z0 I0 Z I119 := q_I114.trans w0.1 w0.2.1 (f_I119.mono (by decide))
      have u121 : (I119 v0 19).toInt = (I114 v0 19).toInt := by rw [f_I119.2.2.1 v0 12 19 kv0 (by decide) (by decide)]
      have u122 : (I119 v0 0).toInt = (I114 v0 0).toInt := by rw [f_I119.2.2.1 v0 12 0 kv0 (by decide) (by decide)]
      have u123 : (I119 v0 7).toInt = (I114 v0 7).toInt := by rw [f_I119.2.2.1 v0 12 7 kv0 (by decide) (by decide)]
      first | (have u124 : (I119 v0 52).toInt = (0) := by (rw [eI119, show jpI I114 v0 52 (0 : Int32) v0 52 = (0 : Int32) from jpI_at] <;> exact (show (0 : Int32).toInt = 0 from rfl))) | skip
      have t125 : (0 : Int32).toInt = 0 := rfl
      exact ⟨(8 - (0 : Int32).toInt).toNat + 1, l11_X12_stairs_L280 w0 v0 kv0_0 uM huM p0 v1  hQ   _ (0 : Int32) Z I119 L w_I119 bd_Z q_I119 cp_Z   (by omega)  (by omega)⟩
    · skip
      first | (have t126 : ¬ (v1.toInt ≤ v3.toInt) := (not_congr (i_le rfl rfl)).mp c112) | (have t126 : ¬ (v1.toInt ≤ v3.toInt) := (not_congr (i_le rfl rfl)).mp c112) | skip
      intro b127 eb127
      obtain ⟨x128, ex128, kb127, lb127⟩ := sh_f w_I.1 kv0 (j := 1) (k := 14) (m := 24) rfl
      cases eb127.symm.trans ex128
      intro b129 eb129
      obtain ⟨x130, ex130, kb129, lb129⟩ := sh_f w_I.1 kv0 (j := 28) (k := 14) (m := 120) rfl
      cases eb129.symm.trans ex130
      have o131 : vp_in ((5 : Int32) * v3) 120 := vi_of (i_mul (show (5 : Int32).toInt = 5 from rfl) rfl (by omega) (by omega)) (by omega) (by omega)
      refine ⟨o131, ?_⟩
      have t133 := i_nat (x := ((5 : Int32) * v3)) (i_mul (show (5 : Int32).toInt = 5 from rfl) rfl (by omega) (by omega)) (by omega)
      have h132 : (((5 : Int32) * v3).toNatClampNeg % 5 = 0 → 0 ≤ (I b129 ((5 : Int32) * v3).toNatClampNeg).toInt ∧ (I b129 ((5 : Int32) * v3).toNatClampNeg).toInt ≤ 30) ∧ (((5 : Int32) * v3).toNatClampNeg % 5 = 1 → 0 ≤ (I b129 ((5 : Int32) * v3).toNatClampNeg).toInt ∧ (I b129 ((5 : Int32) * v3).toNatClampNeg).toInt ≤ 9) ∧ (((5 : Int32) * v3).toNatClampNeg % 5 = 2 → 0 ≤ (I b129 ((5 : Int32) * v3).toNatClampNeg).toInt ∧ (I b129 ((5 : Int32) * v3).toNatClampNeg).toInt ≤ 20) := w_I.arr 12 28 kv0 eb129 kb129 rfl rfl _
      first | (have h1321 := h132.1 (by omega)) | (have h1321 := h132.2.1 (by omega)) | (have h1321 := h132.2.2 (by omega)) | skip
      clear h132
      have o134 : vp_in v3 24 := vi_of rfl (by omega) (by omega)
      refine ⟨o134, ?_⟩
      intro I135 eI135
      have w_I135 : WD Z I135 := by rw [eI135]; exact WD_putA w_I 12 1 kv0 eb127 kb127 rfl rfl (by decide) (by constructor <;> omega)
      have f_I135 : FR [(12, 1)] Z I Z I135 := by rw [eI135]; exact FR_upA w_I.2.1 kv0 eb127 kb127 rfl rfl List.mem_cons_self
      have q_I135 : FR Ws_X12_stairs Z0 I0 Z I135 := q_I.trans w0.1 w0.2.1 (f_I135.mono (by decide))
      have u136 : (I135 v0 19).toInt = (I v0 19).toInt := by rw [f_I135.2.2.1 v0 12 19 kv0 (by decide) (by decide)]
      have u137 : (I135 v0 0).toInt = (I v0 0).toInt := by rw [f_I135.2.2.1 v0 12 0 kv0 (by decide) (by decide)]
      have u138 : (I135 v0 7).toInt = (I v0 7).toInt := by rw [f_I135.2.2.1 v0 12 7 kv0 (by decide) (by decide)]
      intro b139 eb139
      obtain ⟨x140, ex140, kb139, lb139⟩ := sh_f w_I135.1 kv0 (j := 2) (k := 14) (m := 24) rfl
      cases eb139.symm.trans ex140
      intro b141 eb141
      obtain rfl : b129 = b141 := Option.some.inj (eb129.symm.trans eb141)
      have o142 : vp_in (((5 : Int32) * v3) + (1 : Int32)) 120 := vi_of (i_add (i_mul (show (5 : Int32).toInt = 5 from rfl) rfl (by omega) (by omega)) (show (1 : Int32).toInt = 1 from rfl) (by omega) (by omega)) (by omega) (by omega)
      refine ⟨o142, ?_⟩
      have t144 := i_nat (x := (((5 : Int32) * v3) + (1 : Int32))) (i_add (i_mul (show (5 : Int32).toInt = 5 from rfl) rfl (by omega) (by omega)) (show (1 : Int32).toInt = 1 from rfl) (by omega) (by omega)) (by omega)
      have h143 : ((((5 : Int32) * v3) + (1 : Int32)).toNatClampNeg % 5 = 0 → 0 ≤ (I135 b129 (((5 : Int32) * v3) + (1 : Int32)).toNatClampNeg).toInt ∧ (I135 b129 (((5 : Int32) * v3) + (1 : Int32)).toNatClampNeg).toInt ≤ 30) ∧ ((((5 : Int32) * v3) + (1 : Int32)).toNatClampNeg % 5 = 1 → 0 ≤ (I135 b129 (((5 : Int32) * v3) + (1 : Int32)).toNatClampNeg).toInt ∧ (I135 b129 (((5 : Int32) * v3) + (1 : Int32)).toNatClampNeg).toInt ≤ 9) ∧ ((((5 : Int32) * v3) + (1 : Int32)).toNatClampNeg % 5 = 2 → 0 ≤ (I135 b129 (((5 : Int32) * v3) + (1 : Int32)).toNatClampNeg).toInt ∧ (I135 b129 (((5 : Int32) * v3) + (1 : Int32)).toNatClampNeg).toInt ≤ 20) := w_I135.arr 12 28 kv0 eb129 kb129 rfl rfl _
      first | (have h1431 := h143.1 (by omega)) | (have h1431 := h143.2.1 (by omega)) | (have h1431 := h143.2.2 (by omega)) | skip
      clear h143
      have o145 : vp_in v3 24 := vi_of rfl (by omega) (by omega)
      refine ⟨o145, ?_⟩
      intro I146 eI146
      have w_I146 : WD Z I146 := by rw [eI146]; exact WD_putA w_I135 12 2 kv0 eb139 kb139 rfl rfl (by decide) (by constructor <;> omega)
      have f_I146 : FR [(12, 2)] Z I135 Z I146 := by rw [eI146]; exact FR_upA w_I135.2.1 kv0 eb139 kb139 rfl rfl List.mem_cons_self
      have q_I146 : FR Ws_X12_stairs Z0 I0 Z I146 := q_I135.trans w0.1 w0.2.1 (f_I146.mono (by decide))
      have u147 : (I146 v0 19).toInt = (I135 v0 19).toInt := by rw [f_I146.2.2.1 v0 12 19 kv0 (by decide) (by decide)]
      have u148 : (I146 v0 0).toInt = (I135 v0 0).toInt := by rw [f_I146.2.2.1 v0 12 0 kv0 (by decide) (by decide)]
      have u149 : (I146 v0 7).toInt = (I135 v0 7).toInt := by rw [f_I146.2.2.1 v0 12 7 kv0 (by decide) (by decide)]
      intro b150 eb150
      obtain ⟨x151, ex151, kb150, lb150⟩ := sh_f w_I146.1 kv0 (j := 3) (k := 14) (m := 24) rfl
      cases eb150.symm.trans ex151
      intro b152 eb152
      obtain rfl : b129 = b152 := Option.some.inj (eb129.symm.trans eb152)
      have o153 : vp_in (((5 : Int32) * v3) + (2 : Int32)) 120 := vi_of (i_add (i_mul (show (5 : Int32).toInt = 5 from rfl) rfl (by omega) (by omega)) (show (2 : Int32).toInt = 2 from rfl) (by omega) (by omega)) (by omega) (by omega)
      refine ⟨o153, ?_⟩
      have t155 := i_nat (x := (((5 : Int32) * v3) + (2 : Int32))) (i_add (i_mul (show (5 : Int32).toInt = 5 from rfl) rfl (by omega) (by omega)) (show (2 : Int32).toInt = 2 from rfl) (by omega) (by omega)) (by omega)
      have h154 : ((((5 : Int32) * v3) + (2 : Int32)).toNatClampNeg % 5 = 0 → 0 ≤ (I146 b129 (((5 : Int32) * v3) + (2 : Int32)).toNatClampNeg).toInt ∧ (I146 b129 (((5 : Int32) * v3) + (2 : Int32)).toNatClampNeg).toInt ≤ 30) ∧ ((((5 : Int32) * v3) + (2 : Int32)).toNatClampNeg % 5 = 1 → 0 ≤ (I146 b129 (((5 : Int32) * v3) + (2 : Int32)).toNatClampNeg).toInt ∧ (I146 b129 (((5 : Int32) * v3) + (2 : Int32)).toNatClampNeg).toInt ≤ 9) ∧ ((((5 : Int32) * v3) + (2 : Int32)).toNatClampNeg % 5 = 2 → 0 ≤ (I146 b129 (((5 : Int32) * v3) + (2 : Int32)).toNatClampNeg).toInt ∧ (I146 b129 (((5 : Int32) * v3) + (2 : Int32)).toNatClampNeg).toInt ≤ 20) := w_I146.arr 12 28 kv0 eb129 kb129 rfl rfl _
      first | (have h1541 := h154.1 (by omega)) | (have h1541 := h154.2.1 (by omega)) | (have h1541 := h154.2.2 (by omega)) | skip
      clear h154
      have o156 : vp_in v3 24 := vi_of rfl (by omega) (by omega)
      refine ⟨o156, ?_⟩
      intro I157 eI157
      have w_I157 : WD Z I157 := by rw [eI157]; exact WD_putA w_I146 12 3 kv0 eb150 kb150 rfl rfl (by decide) (by constructor <;> omega)
      have f_I157 : FR [(12, 3)] Z I146 Z I157 := by rw [eI157]; exact FR_upA w_I146.2.1 kv0 eb150 kb150 rfl rfl List.mem_cons_self
      have q_I157 : FR Ws_X12_stairs Z0 I0 Z I157 := q_I146.trans w0.1 w0.2.1 (f_I157.mono (by decide))
      have u158 : (I157 v0 19).toInt = (I146 v0 19).toInt := by rw [f_I157.2.2.1 v0 12 19 kv0 (by decide) (by decide)]
      have u159 : (I157 v0 0).toInt = (I146 v0 0).toInt := by rw [f_I157.2.2.1 v0 12 0 kv0 (by decide) (by decide)]
      have u160 : (I157 v0 7).toInt = (I146 v0 7).toInt := by rw [f_I157.2.2.1 v0 12 7 kv0 (by decide) (by decide)]
      have t161 : (0 : Int32).toInt = 0 := rfl
      exact ⟨(8 - (0 : Int32).toInt).toNat + 1, l11_X12_stairs_L185 w0 v0 kv0_0 uM huM p0 v1 v3  hQ ih  _ (0 : Int32) Z I157 L w_I157 bd_Z q_I157 cp_Z   (by omega) (by omega) (by omega)⟩

set_option maxHeartbeats 4000000 in
theorem s11_X12_stairs {B : Nat × Nat} {T : Nat} {Z : jZ} {I : jI} {L : jL} (w : WD Z I) (bd : BUD B Z T) (v0 : Nat) (kv0 : jk Z v0 12) (uM : Nat) (huM : jr Z v0 18 = some uM) (p0 : 0 ≤ (I v0 7).toInt ∧ (I v0 7).toInt ≤ 100000) {Q : Int32 → jZ → jI → jL → Prop} (hQ : ∀ (r : Int32) (Z' : jZ) (I' : jI) (L' : jL), WD Z' I' → BUD B Z' T → FR Ws_X12_stairs Z I Z' I' → CP Z Z' → ((I' v0 19).toInt = 0 ∧ r.toInt = stA (I uM) (I v0 19).toInt ∧ (0 ≤ r.toInt → (I' v0 0).toInt = r.toInt) ∧ (r.toInt < 0 → (I' v0 0).toInt = (I v0 0).toInt) ∧ (0 ≤ r.toInt → (I' v0 7).toInt = (I v0 7).toInt + 1) ∧ (r.toInt < 0 → (I' v0 7).toInt = (I v0 7).toInt)) → Q r Z' I' L') : f_X12_stairs B v0 Z I L Q := by
  obtain ⟨b9, e9, kuM, l9⟩ := sh_f w.1 kv0 (j := 18) (k := 13) (m := 80) rfl
  cases huM.symm.trans e9
  have hne : uM ≠ v0 := fun e => by subst e; have := kv0.2.symm.trans kuM.2; omega
  have sz : 0 ≤ (I v0 19).toInt ∧ (I v0 19).toInt ≤ 80 := w.fld 12 19 kv0 (by decide)
  unfold f_X12_stairs
  intro I1 e1 b eb
  cases huM.symm.trans eb
  have w1 : WD Z I1 := by rw [e1]; exact WD_putF w 12 22 kv0 (by decide) (by decide) trivial
  have f1 : FR Ws_X12_stairs Z I Z I1 := by rw [e1]; exact FR_putF kv0 (by decide) (by decide)
  have z1 : I1 v0 19 = I v0 19 := by rw [e1, jpI_o (by decide)]
  have b1 : I1 uM = I uM := by rw [e1, jpI_ne hne]
  refine s_X12_begin w1 bd v0 uM (I1 v0 19) 76 kv0 kuM v0 12 18 kv0 huM (fun Z2 I2 L2 w2 bd2 f2 cp2 p2 => ?_)
  obtain ⟨r2, p24, p25, p26, p27⟩ := p2
  intro I3 e3
  have k2 : jk Z2 v0 12 := (f2.1 _ _ kv0).1
  have kM2 : jk Z2 uM 13 := (f2.1 _ _ kuM).1
  have lM2 : jlen Z2 uM = 80 := (f2.1 _ _ kuM).2.trans l9
  have h2M : jr Z2 v0 18 = some uM := (f2.2.1 v0 12 18 kv0 (by decide) (by decide)).trans huM
  have b2 : I2 uM = I1 uM := f2.2.2.2 v0 12 18 uM kv0 huM (by rw [kuM.2]; rfl) rfl (by decide)
  have w3 : WD Z2 I3 := by rw [e3]; exact WD_putF w2 12 19 k2 (by decide) (by decide) (show rg 0 80 _ from ⟨by decide, by decide⟩)
  have f2' : FR Ws_X12_stairs Z I Z2 I2 := f1.trans w.1 w.2.1 (f2.mono (by decide))
  have f3 : FR Ws_X12_stairs Z I Z2 I3 := f2'.trans w.1 w.2.1 (by rw [e3]; exact FR_putF k2 (by decide) (by decide))
  have b3 : I3 uM = I uM := by rw [e3, jpI_ne hne, b2, b1]
  have z3 : (I3 v0 19).toInt = 0 := by rw [e3, jpI_at]; rfl
  have t : MT Z2 I3 v0 uM (I v0 19).toInt := ⟨w3, k2, h2M, r2, kM2, lM2, sz.1, sz.2⟩
  have s : MR Z2 I3 v0 (I v0 19).toInt I3 0 (-1) := by
    refine ⟨w3, FR.rf, ?_, ?_, ?_, ?_⟩
    · rw [e3, jpI_o (by decide)]; exact p26
    · rw [e3, jpI_o (by decide)]; exact p27
    · rw [e3, jpI_o (by decide), p24, z1]
    · rw [e3, jpI_o (by decide)]; exact p25
  have fin : ∀ (r : Int32) (I' : jI) (a' F' : Int), MR Z2 I3 v0 (I v0 19).toInt I' a' F' → r.toInt = stA (I uM) (I v0 19).toInt → r.toInt < 0 → Q r Z2 I' L2 := by
    intro r I' a' F' s' e' hr
    refine hQ r Z2 I' L2 s'.1 bd2 (f3.trans w.1 w.2.1 (s'.2.1.mono (by decide))) cp2 ⟨?_, e', fun q => by omega, fun _ => ?_, fun q => by omega, fun _ => ?_⟩
    · rw [s'.2.1.2.2.1 v0 12 19 k2 (by decide) (by decide)]
      exact z3
    · rw [s'.2.1.2.2.1 v0 12 0 k2 (by decide) (by decide), e3, jpI_o (by decide), f2.2.2.1 v0 12 0 kv0 (by decide) (by decide), e1, jpI_o (by decide)]
    · rw [s'.2.1.2.2.1 v0 12 7 k2 (by decide) (by decide), e3, jpI_o (by decide), f2.2.2.1 v0 12 7 kv0 (by decide) (by decide), e1, jpI_o (by decide)]
  have z0 : (0 : Int32).toInt = 0 := rfl
  have e24 : (I3 v0 24).toInt = (I v0 19).toInt := s.2.2.2.2.1
  unfold f_X12_stairs_b38
  refine ⟨fun c => ?_, fun c => ?_⟩
  · have c := (i_le e24 z0).mp c
    have hS : stA (I uM) (I v0 19).toInt = -100 := by unfold stA; rw [if_pos c]
    refine ⟨1, ?_⟩
    unfold f_X12_stairs_L39
    refine ⟨fun _ => ?_, fun c => absurd rfl c⟩
    have b102 : f_X12_stairs_b102 B Q v0 0 Z2 I3 L2 := by
      unfold f_X12_stairs_b102
      refine m_fine s (fun _ => ⟨fun _ => ⟨fun c1 => absurd c1 (by decide), fun _ => fin _ I3 0 (-1) s (by rw [hS]; rfl) (by decide)⟩, fun c => absurd c (by decide)⟩) (fun c => absurd rfl c)
    unfold f_X12_stairs_b83
    refine ⟨fun _ => b102, fun c1 => ?_⟩
    exact absurd ((i_le e24 s.2.2.1).mpr (by omega)) c1
  · have c := (not_congr (i_le e24 z0)).mp c
    refine ⟨79, m_lines t (fun I' a F v1 s' e => ?_) 79 77 0 0 I3 s (by rw [z0]; omega) (by rw [z0]; omega) (by omega) (by omega) (by omega) (by omega) (by rw [z0])⟩
    refine m_b83 t s' (by omega) e (fun r I'' a' F' s'' e' hr => fin r I'' a' F' s'' (by rw [b3] at e'; exact e') hr) (fun I'' a' F' s'' e' h2 I66 e66 => ?_)
    rw [b3] at e'
    have v24 : v1.toInt ≤ 24 := by
      have := rdS_hi (g := GS (I3 uM) (min (I v0 19).toInt 76)) (lim := min (I v0 19).toInt 76) 77 0 0 (by omega) (by omega)
      rcases e with ⟨q1, q2⟩ | ⟨q1, q2, q0, q3⟩ | ⟨q1, q2, q3⟩
      · rw [← q2] at this; exact this
      · rw [← q3] at this; exact this
      · rw [← q3] at this; exact this
    have w66 : WD Z2 I66 := by rw [e66]; exact WD_putF s''.1 12 0 k2 (by decide) (by decide) (show rg 0 24 _ from ⟨by omega, by omega⟩)
    have f66 : FR Ws_X12_stairs Z I Z2 I66 := (f3.trans w.1 w.2.1 (s''.2.1.mono (by decide))).trans w.1 w.2.1 (by rw [e66]; exact FR_putF k2 (by decide) (by decide))
    have z66 : (I66 v0 19).toInt = 0 := by
      rw [e66, jpI_o (by decide), s''.2.1.2.2.1 v0 12 19 k2 (by decide) (by decide)]
      exact z3
    have z60 : (I66 v0 0).toInt = v1.toInt := by rw [e66, jpI_at]
    have z67 : (I66 v0 7).toInt = (I v0 7).toInt := by rw [e66, jpI_o (by decide), s''.2.1.2.2.1 v0 12 7 k2 (by decide) (by decide), e3, jpI_o (by decide), f2.2.2.1 v0 12 7 kv0 (by decide) (by decide), e1, jpI_o (by decide)]
    exact ⟨25, l11_X12_stairs_L131 w v0 kv0 uM huM p0 v1 hQ 25 0 Z2 I66 L2 w66 bd2 f66 cp2 (by rw [z0]; omega) (by rw [z0]; omega)⟩

/-! ===== what is kept: which boxes hold ===== -/
/-- the boxes that hold, on both sides -/
def HK (Z : jZ) (I : jI) (uS v2 uK uC : Nat) : Prop := 0 ≤ (I v2 7).toInt ∧ ∀ i b, i < 2 → jr Z uS i = some b → jk Z b 2 ∧ (0 ≤ (I uC i).toInt ∧ (I uC i).toInt ≤ (I v2 7).toInt) ∧ (¬ I b 8 = 0 ↔ (¬ I uK i = 0 ∧ I uC i = I v2 7))
theorem HK_fr {W : List (Nat × Nat)} {Z Z' : jZ} {I I' : jI} {uS v2 uK uC : Nat} (f : FR W Z I Z' I') (kS : jk Z uS 17) (k2 : jk Z v2 12) (hK : jr Z v2 63 = some uK) (kK : jk Z uK 16) (hC : jr Z v2 64 = some uC) (kC : jk Z uC 14) (n1 : (2, 8) ∉ W) (n2 : (12, 7) ∉ W) (n3 : (12, 63) ∉ W) (n4 : (12, 64) ∉ W) (h : HK Z I uS v2 uK uC) : HK Z' I' uS v2 uK uC := by
  have e7 := f.2.2.1 v2 12 7 k2 (by decide) n2
  have eK : I' uK = I uK := f.2.2.2 v2 12 63 uK k2 hK (by rw [kK.2]; rfl) rfl n3
  have eC : I' uC = I uC := f.2.2.2 v2 12 64 uC k2 hC (by rw [kC.2]; rfl) rfl n4
  refine ⟨by rw [e7]; exact h.1, fun i b hi hb => ?_⟩
  rw [f.2.1 uS 17 i kS (by omega) (by omega)] at hb
  obtain ⟨kb, h1, h2⟩ := h.2 i b hi hb
  have e8 := f.2.2.1 b 2 8 kb (by decide) n1
  rw [e7, eK, eC, e8]
  exact ⟨(f.1 _ _ kb).1, h1, h2⟩
theorem HK_frp {Z Z' : jZ} {I I' : jI} {uS v2 uK uC : Nat} (f : FRp Z I Z' I') (x : jext Z Z') (kS : jk Z uS 17) (k2 : jk Z v2 12) (kK : jk Z uK 16) (kC : jk Z uC 14) (h : HK Z I uS v2 uK uC) : HK Z' I' uS v2 uK uC := by
  have e7 := f.2 v2 12 7 k2 (by decide)
  refine ⟨by rw [e7]; exact h.1, fun i b hi hb => ?_⟩
  rw [f.1 uS 17 i kS (by decide)] at hb
  obtain ⟨kb, h1, h2⟩ := h.2 i b hi hb
  rw [e7, f.2 uK 16 i kK (by omega), f.2 uC 14 i kC (by omega), f.2 b 2 8 kb (by decide)]
  exact ⟨(x _ _ kb).1, h1, h2⟩
theorem hk_L38 {Z : jZ} {J : jI} (wJ : WD Z J) (v0 : Nat) (kv0 : jk Z v0 11) (v1 : Int32) {Q : Int32 → jI → jL → Prop}
    (hX : ∀ (I : jI) (L : jL), WD Z I → FR Ws_X5_startAnew Z J Z I → (∀ b10 : Nat, jr Z v0 5 = some b10 → (f_J7_fill_53178 b10 (0 : Int32) Z I L (fun I13 L14 => (∃ m76 : Nat, f_X11_stairs_L76 Z Q m76 v0 v1 (0 : Int32) I13 L14))))) :
    ∀ (n : Nat) (v2 : Int32) (I : jI) (L : jL), WD Z I → FR Ws_X5_startAnew Z J Z I → 0 ≤ v2.toInt → v2.toInt ≤ 6 → 7 ≤ (n : Int) + v2.toInt → f_X11_stairs_L38 Z Q n v0 v1 v2 I L := by
  intro n
  induction n with
  | zero => intro v2 I L w f h0 h1 h2; exfalso; omega
  | succ n ih =>
    intro v2 I L w f h0 h1 h2
    unfold f_X11_stairs_L38
    refine ⟨fun _ => hX I L w f, fun c => ?_⟩
    have c := (not_congr (i_le rfl rfl)).mp c
    have t4 : 0 ≤ (I v0 4).toInt ∧ (I v0 4).toInt ≤ 6 := w.fld 11 4 kv0 (by decide)
    refine s_X11_find w v0 v2 kv0 (fun r p => ⟨fun _ => ?_, fun b hb => ?_⟩)
    · unfold f_X11_stairs_b60
      intro x8 e8
      have t8 : x8.toInt = v2.toInt + 1 := by rw [e8]; exact i_add rfl (show (1 : Int32).toInt = 1 from rfl) (by omega) (by omega)
      exact ih x8 I L w f (by omega) (by omega) (by omega)
    · refine s_X5_startAnew w b (p.1 b hb).1 (fun I' L' w' f' => ?_)
      unfold f_X11_stairs_b60
      intro x8 e8
      have t8 : x8.toInt = v2.toInt + 1 := by rw [e8]; exact i_add rfl (show (1 : Int32).toInt = 1 from rfl) (by omega) (by omega)
      exact ih x8 I' L' w' (f.trans wJ.1 wJ.2.1 f') (by omega) (by omega) (by omega)
theorem hk_L76 {Z : jZ} {J : jI} (wJ : WD Z J) (v0 : Nat) (v1 : Int32) (uS : Nat) (huS : jr Z v0 8 = some uS) (kS : jk Z uS 17) (lS : jlen Z uS = 2) {Q : Int32 → jI → jL → Prop}
    (hQ : ∀ (I : jI) (L : jL), WD Z I → FR [(2, 8)] Z J Z I → (∀ i b, i < 2 → jr Z uS i = some b → I b 8 = 0) → Q v1 I L) :
    ∀ (n i : Nat) (v2 : Int32) (I : jI) (L : jL), WD Z I → FR [(2, 8)] Z J Z I → v2.toInt = (i : Int) → i ≤ 2 → (∀ k b, k < i → jr Z uS k = some b → I b 8 = 0) → 3 ≤ n + i → f_X11_stairs_L76 Z Q n v0 v1 v2 I L := by
  intro n
  induction n with
  | zero => intro i v2 I L w f e h1 h2 h3; exfalso; omega
  | succ n ih =>
    intro i v2 I L w f e h1 h2 h3
    unfold f_X11_stairs_L76
    intro b1 e1
    cases huS.symm.trans e1
    refine ⟨fun c => ?_, fun c => ?_⟩
    · have c := (i_le (show (2 : Int32).toInt = 2 from rfl) e).mp c
      exact hQ I L w f (fun k b hk hb => h2 k b (by omega) hb)
    have c := (not_congr (i_le (show (2 : Int32).toInt = 2 from rfl) e)).mp c
    have n2 := i_nat e (by omega)
    have n2 : v2.toNatClampNeg = i := by omega
    intro b3 e3
    cases huS.symm.trans e3
    refine ⟨vi_of e (by omega) (by omega), ?_⟩
    intro b5 e5
    rw [n2] at e5
    obtain ⟨x, ex, kx⟩ := w.1.2.2.1 uS kS i (by rw [lS]; omega)
    cases e5.symm.trans ex
    intro I6 e6 x7 e7
    have w6 : WD Z I6 := by rw [e6]; exact WD_putF w 2 8 kx (by decide) (by decide) trivial
    have f6 : FR [(2, 8)] Z I Z I6 := by rw [e6]; exact FR_putF kx (by decide) List.mem_cons_self
    refine ih (i + 1) x7 I6 L w6 (f.trans wJ.1 wJ.2.1 f6) (by rw [e7]; exact (i_add e (show (1 : Int32).toInt = 1 from rfl) (by omega) (by omega)).trans (by omega)) (by omega) (fun k b hk hb => ?_) (by omega)
    by_cases hbb : b = b5
    · rw [hbb, e6, jpI_at]
    · rw [e6, jpI_ne hbb]
      by_cases hki : k = i
      · rw [hki, e5] at hb
        exact absurd (Option.some.inj hb).symm hbb
      · exact h2 k b (by omega) hb
theorem s11_X11_stairs {Z : jZ} {I : jI} {L : jL} (w : WD Z I) (v0 : Nat) (kv0 : jk Z v0 11) (uT : Nat) (huT : jr Z v0 0 = some uT) (uB : Nat) (huB : jr Z uT 0 = some uB) (uF : Nat) (huF : jr Z v0 2 = some uF) (uN : Nat) (huN : jr Z v0 1 = some uN) (p0 : BY (I uB)) (uS : Nat) (huS : jr Z v0 8 = some uS) {Q : Int32 → jI → jL → Prop}
    (hQ : ∀ (r : Int32) (I' : jI) (L' : jL), WD Z I' → FR Ws_X11_stairs Z I Z I' → ((I' uT 1).toInt = 0 ∧ r.toInt = stA (I uB) (I uT 1).toInt ∧ (0 ≤ r.toInt → (I' uF 9).toInt = r.toInt) ∧ (r.toInt < 0 → (I' uF 9).toInt = (I uF 9).toInt) ∧ (r.toInt < 0 → ∀ b, jk Z b 2 → I' b 8 = I b 8) ∧ (0 ≤ r.toInt → ∀ i b, i < 2 → jr Z uS i = some b → I' b 8 = 0)) → Q r I' L') : f_X11_stairs v0 Z I L Q := by
  have kT : jk Z uT 10 := by obtain ⟨b9, e9, k9⟩ := sh_o w.1 kv0 (j := 0) (k := 10) rfl; cases huT.symm.trans e9; exact k9
  have kF : jk Z uF 8 := by obtain ⟨b9, e9, k9⟩ := sh_o w.1 kv0 (j := 2) (k := 8) rfl; cases huF.symm.trans e9; exact k9
  have kN : jk Z uN 9 := by obtain ⟨b9, e9, k9⟩ := sh_o w.1 kv0 (j := 1) (k := 9) rfl; cases huN.symm.trans e9; exact k9
  obtain ⟨x, ex, kS, lS⟩ := sh_f w.1 kv0 (j := 8) (k := 17) (m := 2) rfl
  cases huS.symm.trans ex
  obtain ⟨uE, hE, kE, lE⟩ := sh_f w.1 kv0 (j := 5) (k := 14) (m := 8) rfl
  unfold f_X11_stairs
  intro b33 e33
  cases huN.symm.trans e33
  intro b34 e34
  cases huT.symm.trans e34
  refine s10_X9_read w uN uT kN kT uB huB p0 (fun r I1 L1 w1 f1 p1 => ?_)
  intro b42 e42
  cases huT.symm.trans e42
  refine s9_X10_clear w1 uT kT (fun I2 L2 w2 f2 p2 => ?_)
  have g2 : FR Ws_X11_stairs Z I Z I2 := (f1.mono (by decide)).trans w.1 w.2.1 (f2.mono (by decide))
  refine ⟨fun c => ?_, fun c => ?_⟩
  · have c := (i_le (x := 0) (y := r) (show (0 : Int32).toInt = 0 from rfl) rfl).mp c
    intro b50 e50
    cases huF.symm.trans e50
    intro b51 e51
    cases huN.symm.trans e51
    refine s10_X8_build w2 uF uN kF kN (fun I3 L3 w3 f3 p3 => ?_)
    have g3 : FR Ws_X11_stairs Z I Z I3 := g2.trans w.1 w.2.1 (f3.mono (by decide))
    have s3 : (I3 uF 9).toInt = r.toInt := by rw [p3, f2.2.2.1 uN 9 5 kN (by decide) (by decide)]; exact p1.2 c
    have t3 : (I3 uT 1).toInt = 0 := by rw [f3.2.2.1 uT 10 1 kT (by decide) (by decide)]; exact p2
    refine ⟨7, hk_L38 w3 v0 kv0 r (fun I4 L4 w4 f4 => ?_) 7 0 I3 L3 w3 FR.rf (by decide) (by decide) (by decide)⟩
    intro b10 e10
    cases hE.symm.trans e10
    have g4 : FR Ws_X11_stairs Z I Z I4 := g3.trans w.1 w.2.1 (f4.mono (by decide))
    refine s_J7_fill_53178 w4 uE 0 kE v0 11 5 kv0 hE (by decide) rfl (by rw [lE]; omega) (fun _ => trivial) (fun I5 L5 w5 f5 => ?_)
    have g5 : FR Ws_X11_stairs Z I Z I5 := g4.trans w.1 w.2.1 (f5.mono (by decide))
    refine ⟨3, hk_L76 w5 v0 r uS huS kS lS (fun I6 L6 w6 f6 z6 => ?_) 3 0 0 I5 L5 w5 FR.rf rfl (by omega) (fun k b hk => absurd hk (Nat.not_lt_zero k)) (by omega)⟩
    refine hQ r I6 L6 w6 (g5.trans w.1 w.2.1 (f6.mono (by decide))) ⟨?_, p1.1, fun _ => ?_, fun h => absurd c (by omega), fun h => absurd c (by omega), fun _ => z6⟩
    · rw [f6.2.2.1 uT 10 1 kT (by decide) (by decide), f5.2.2.1 uT 10 1 kT (by decide) (by decide), f4.2.2.1 uT 10 1 kT (by decide) (by decide)]; exact t3
    · rw [f6.2.2.1 uF 8 9 kF (by decide) (by decide), f5.2.2.1 uF 8 9 kF (by decide) (by decide), f4.2.2.1 uF 8 9 kF (by decide) (by decide)]; exact s3
  · have c := (not_congr (i_le (x := 0) (y := r) (show (0 : Int32).toInt = 0 from rfl) rfl)).mp c
    refine hQ r I2 L2 w2 g2 ⟨p2, p1.1, fun h => absurd h c, fun _ => ?_, fun _ b kb => ?_, fun h => absurd h c⟩
    · rw [f2.2.2.1 uF 8 9 kF (by decide) (by decide), f1.2.2.1 uF 8 9 kF (by decide) (by decide)]
    · rw [f2.2.2.1 b 2 8 kb (by decide) (by decide), f1.2.2.1 b 2 8 kb (by decide) (by decide)]
theorem HK_stairs {Z Z2 : jZ} {I0 I1 I2 : jI} {uS v2 uK uC : Nat} {r1 r2 : Int} (h : HK Z I0 uS v2 uK uC) (f1 : FR Ws_X11_stairs Z I0 Z I1) (f2 : FR Ws_X12_stairs Z I1 Z2 I2) (kS : jk Z uS 17) (k2 : jk Z v2 12) (hK : jr Z v2 63 = some uK) (kK : jk Z uK 16) (hC : jr Z v2 64 = some uC) (kC : jk Z uC 14) (er : r1 = r2)
    (p1 : (r1 < 0 → ∀ b, jk Z b 2 → I1 b 8 = I0 b 8) ∧ (0 ≤ r1 → ∀ i b, i < 2 → jr Z uS i = some b → I1 b 8 = 0)) (p2 : (0 ≤ r2 → (I2 v2 7).toInt = (I1 v2 7).toInt + 1) ∧ (r2 < 0 → (I2 v2 7).toInt = (I1 v2 7).toInt)) : HK Z2 I2 uS v2 uK uC := by
  have e7 := congrArg Int32.toInt (f1.2.2.1 v2 12 7 k2 (by decide) (by decide))
  have eK : I2 uK = I0 uK := (f2.2.2.2 v2 12 63 uK k2 hK (by rw [kK.2]; rfl) rfl (by decide)).trans (f1.2.2.2 v2 12 63 uK k2 hK (by rw [kK.2]; rfl) rfl (by decide))
  have eC : I2 uC = I0 uC := (f2.2.2.2 v2 12 64 uC k2 hC (by rw [kC.2]; rfl) rfl (by decide)).trans (f1.2.2.2 v2 12 64 uC k2 hC (by rw [kC.2]; rfl) rfl (by decide))
  have h0 := h.1
  by_cases c : 0 ≤ r1
  · have q2 := p2.1 (by omega)
    refine ⟨by omega, fun i b hi hb => ?_⟩
    rw [f2.2.1 uS 17 i kS (by omega) (by omega)] at hb
    obtain ⟨kb, hle, hiff⟩ := h.2 i b hi hb
    have e8 : I2 b 8 = 0 := (f2.2.2.1 b 2 8 kb (by decide) (by decide)).trans (p1.2 c i b hi hb)
    rw [eC]
    refine ⟨(f2.1 _ _ kb).1, by omega, fun hn => absurd e8 hn, fun hn => ?_⟩
    have := congrArg Int32.toInt hn.2
    omega
  · have q2 := p2.2 (by omega)
    have e7' : I2 v2 7 = I0 v2 7 := (i_eq rfl rfl).mpr (by omega)
    refine ⟨by omega, fun i b hi hb => ?_⟩
    rw [f2.2.1 uS 17 i kS (by omega) (by omega)] at hb
    obtain ⟨kb, hle, hiff⟩ := h.2 i b hi hb
    have e8 : I2 b 8 = I0 b 8 := (f2.2.2.1 b 2 8 kb (by decide) (by decide)).trans (p1.1 (by omega) b kb)
    rw [eC, eK, e8, e7']
    exact ⟨(f2.1 _ _ kb).1, hle, hiff⟩
/-- keep: the box alone -/
def KP11 (Z : jZ) (uS : Nat) (v : Int32) (r : Int) (I I' : jI) : Prop := (r = 1 ∧ (0 ≤ v.toInt ∧ v.toInt ≤ 1) ∧ ∀ i b, i < 2 → jr Z uS i = some b → (i = v.toNatClampNeg → ¬ I' b 8 = 0) ∧ (¬ i = v.toNatClampNeg → I' b 8 = I b 8)) ∨ (r = 0 ∧ ¬ (0 ≤ v.toInt ∧ v.toInt ≤ 1) ∧ ∀ b, jk Z b 2 → I' b 8 = I b 8)
def KP12 (v2 uK uC : Nat) (v : Int32) (r : Int) (I I' : jI) : Prop := (r = 1 ∧ (0 ≤ v.toInt ∧ v.toInt ≤ 1) ∧ ¬ I' uK v.toNatClampNeg = 0 ∧ I' uC v.toNatClampNeg = I v2 7 ∧ ∀ i, ¬ i = v.toNatClampNeg → I' uK i = I uK i ∧ I' uC i = I uC i) ∨ (r = 0 ∧ ¬ (0 ≤ v.toInt ∧ v.toInt ≤ 1) ∧ I' uK = I uK ∧ I' uC = I uC)
theorem kp_L55 {Z : jZ} {J : jI} (wJ : WD Z J) (v0 : Nat) (kv0 : jk Z v0 11) (v2 : Nat) (kv2 : jk Z v2 2) {Q : Int32 → jI → jL → Prop}
    (hQ : ∀ (I I3 : jI) (L : jL), WD Z I → FR Ws_X2_putPilgrim Z J Z I → I3 = jpI I v2 8 (1 : Int32) → Q (1 : Int32) I3 L) :
    ∀ (n : Nat) (v3 : Int32) (I : jI) (L : jL), WD Z I → FR Ws_X2_putPilgrim Z J Z I → 0 ≤ v3.toInt → v3.toInt ≤ 6 → 7 ≤ (n : Int) + v3.toInt → f_X11_keep_L55 Z Q n v0 v2 v3 I L := by
  intro n
  induction n with
  | zero => intro v3 I L w f h0 h1 h2; exfalso; omega
  | succ n ih =>
    intro v3 I L w f h0 h1 h2
    unfold f_X11_keep_L55
    refine ⟨fun _ I3 e3 => hQ I I3 L w f e3, fun c => ?_⟩
    have c := (not_congr (i_le rfl rfl)).mp c
    have t4 : 0 ≤ (I v0 4).toInt ∧ (I v0 4).toInt ≤ 6 := w.fld 11 4 kv0 (by decide)
    refine s_X11_find w v0 v3 kv0 (fun r p => ⟨fun _ => ?_, fun b hb => ?_⟩)
    · unfold f_X11_keep_b82
      intro x8 e8
      have t8 : x8.toInt = v3.toInt + 1 := by rw [e8]; exact i_add rfl (show (1 : Int32).toInt = 1 from rfl) (by omega) (by omega)
      exact ih x8 I L w f (by omega) (by omega) (by omega)
    · refine s_X2_putPilgrim w v2 v3 b kv2 (p.1 b hb).1 (fun I' L' w' f' => ?_)
      unfold f_X11_keep_b82
      intro x8 e8
      have t8 : x8.toInt = v3.toInt + 1 := by rw [e8]; exact i_add rfl (show (1 : Int32).toInt = 1 from rfl) (by omega) (by omega)
      exact ih x8 I' L' w' (f.trans wJ.1 wJ.2.1 f') (by omega) (by omega) (by omega)
theorem s9_X11_keep {Z : jZ} {I : jI} {L : jL} (w : WD Z I) (v0 : Nat) (v1 : Int32) (kv0 : jk Z v0 11) (uS : Nat) (huS : jr Z v0 8 = some uS) {Q : Int32 → jI → jL → Prop} (hQ : ∀ (r : Int32) (I' : jI) (L' : jL), WD Z I' → FR Ws_X11_keep Z I Z I' → KP11 Z uS v1 r.toInt I I' → Q r I' L') : f_X11_keep v0 v1 Z I L Q := by
  obtain ⟨x, ex, kS, lS⟩ := sh_f w.1 kv0 (j := 8) (k := 17) (m := 2) rfl
  cases huS.symm.trans ex
  obtain ⟨uF, huF, kF⟩ := sh_o w.1 kv0 (j := 2) (k := 8) rfl
  obtain ⟨uE, hE, kE, lE⟩ := sh_f w.1 kv0 (j := 5) (k := 14) (m := 8) rfl
  have bad : ¬ (0 ≤ v1.toInt ∧ v1.toInt ≤ 1) → Q (0 : Int32) I L := fun h => hQ _ I L w FR.rf (Or.inr ⟨rfl, h, fun _ _ => rfl⟩)
  unfold f_X11_keep
  refine ⟨fun c => bad (by have c := (i_lt (x := v1) (y := 0) rfl (show (0 : Int32).toInt = 0 from rfl)).mp c; omega), fun c => ?_⟩
  have c := (not_congr (i_lt (x := v1) (y := 0) rfl (show (0 : Int32).toInt = 0 from rfl))).mp c
  intro b20 e20
  cases huS.symm.trans e20
  refine ⟨fun c2 => ?_, fun c2 => bad (by have c2 := (not_congr (i_lt (x := v1) (y := 2) rfl (show (2 : Int32).toInt = 2 from rfl))).mp c2; omega)⟩
  have c2 := (i_lt (x := v1) (y := 2) rfl (show (2 : Int32).toInt = 2 from rfl)).mp c2
  have n1 := i_nat (x := v1) rfl (by omega)
  intro b22 e22
  cases huS.symm.trans e22
  refine ⟨vi_of rfl (by omega) (by omega), ?_⟩
  intro b24 e24
  obtain ⟨y, ey, ky⟩ := w.1.2.2.1 uS kS v1.toNatClampNeg (by rw [lS]; omega)
  cases e24.symm.trans ey
  intro b25 e25
  cases huF.symm.trans e25
  refine s_X2_putStairs w b24 uF ky kF (fun I1 L1 w1 f1 => ?_)
  intro b32 e32
  cases hE.symm.trans e32
  intro b33 e33
  obtain ⟨uG, hG, kG, lG⟩ := sh_f w.1 ky (j := 3) (k := 14) (m := 8) rfl
  cases hG.symm.trans e33
  refine ⟨by decide, ?_⟩
  intro I35 e35 I36 e36
  have w35 : WD Z I35 := by rw [e35]; exact WD_cpy w1 2 3 ky hG kG rfl rfl (by decide) (fun _ _ _ => trivial)
  have f35 : FR [(2, 3)] Z I1 Z I35 := by rw [e35]; exact FR_upA w1.2.1 ky hG kG rfl rfl List.mem_cons_self
  have w36 : WD Z I36 := by rw [e36]; exact WD_putF w35 2 7 ky (by decide) (by decide) trivial
  have f36 : FR [(2, 7)] Z I35 Z I36 := by rw [e36]; exact FR_putF ky (by decide) List.mem_cons_self
  have g36 : FR Ws_X11_keep Z I Z I36 := ((f1.mono (by decide)).trans w.1 w.2.1 (f35.mono (by decide))).trans w.1 w.2.1 (f36.mono (by decide))
  refine ⟨7, kp_L55 w36 v0 kv0 b24 ky (fun I4 I5 L4 w4 f4 e5 => ?_) 7 0 I36 L1 w36 FR.rf (by decide) (by decide) (by decide)⟩
  have w5 : WD Z I5 := by rw [e5]; exact WD_putF w4 2 8 ky (by decide) (by decide) trivial
  have f5 : FR [(2, 8)] Z I4 Z I5 := by rw [e5]; exact FR_putF ky (by decide) List.mem_cons_self
  refine hQ _ I5 L4 w5 ((g36.trans w.1 w.2.1 (f4.mono (by decide))).trans w.1 w.2.1 (f5.mono (by decide))) (Or.inl ⟨rfl, by omega, fun i b hi hb => ⟨fun hv => ?_, fun hv => ?_⟩⟩)
  · rw [hv, e24] at hb
    cases hb
    rw [e5, jpI_at]
    decide
  · obtain ⟨y2, ey2, kb⟩ := w.1.2.2.1 uS kS i (by rw [lS]; exact hi)
    cases hb.symm.trans ey2
    have hne : b ≠ b24 := fun e => hv (by rw [e] at hb; exact (w.2.1.2.2 uS 17 i uS 17 v1.toNatClampNeg b24 kS kS hb e24 (by simp [jsr]) (by simp [jsr])).2)
    rw [e5, jpI_ne hne, f4.2.2.1 b 2 8 kb (by decide) (by decide), f36.2.2.1 b 2 8 kb (by decide) (by decide), f35.2.2.1 b 2 8 kb (by decide) (by decide), f1.2.2.1 b 2 8 kb (by decide) (by decide)]
theorem s9_X12_keep {Z : jZ} {I : jI} {L : jL} (w : WD Z I) (v0 : Nat) (v1 : Int32) (kv0 : jk Z v0 12) (uK : Nat) (huK : jr Z v0 63 = some uK) (uC : Nat) (huC : jr Z v0 64 = some uC) {Q : Int32 → jI → jL → Prop} (hQ : ∀ (r : Int32) (I' : jI) (L' : jL), WD Z I' → FR Ws_X12_keep Z I Z I' → KP12 v0 uK uC v1 r.toInt I I' → Q r I' L') : f_X12_keep v0 v1 Z I L Q := by
  obtain ⟨x, ex, kK, lK⟩ := sh_f w.1 kv0 (j := 63) (k := 16) (m := 2) rfl
  cases huK.symm.trans ex
  obtain ⟨y, ey, kC, lC⟩ := sh_f w.1 kv0 (j := 64) (k := 14) (m := 2) rfl
  cases huC.symm.trans ey
  obtain ⟨uP, hP, kP, lP⟩ := sh_f w.1 kv0 (j := 65) (k := 14) (m := 2) rfl
  have nKC : uC ≠ uK := fun e => by have := kK.2; have := kC.2; rw [e] at this; omega
  have nPK : uK ≠ uP := fun e => by have := kK.2; have := kP.2; rw [e] at *; omega
  have nPC : uC ≠ uP := fun e => by rw [← e] at hP; exact absurd (w.2.1.2.2 v0 12 64 v0 12 65 uC kv0 kv0 huC hP rfl rfl).2 (by decide)
  have nK0 : uK ≠ v0 := fun e => by have := kK.2; have := kv0.2; rw [e] at *; omega
  have nC0 : uC ≠ v0 := fun e => by have := kC.2; have := kv0.2; rw [e] at *; omega
  unfold f_X12_keep
  intro I68 e68
  have w68 : WD Z I68 := by rw [e68]; exact WD_putF w 12 22 kv0 (by decide) (by decide) trivial
  have f68 : FR Ws_X12_keep Z I Z I68 := by rw [e68]; exact FR_putF kv0 (by decide) (by decide)
  have k68 : I68 uK = I uK := by rw [e68]; exact jpI_ne nK0
  have c68 : I68 uC = I uC := by rw [e68]; exact jpI_ne nC0
  refine s_X12_in w68 _ _ _ (fun r p => ⟨fun c => ?_, fun c => ?_⟩)
  · have c := (not_congr (i_eq rfl (show (0 : Int32).toInt = 0 from rfl))).mp c
    have z0 : (0 : Int32).toInt = 0 := rfl
    have z1 : (1 : Int32).toInt = 1 := rfl
    have hv : 0 ≤ v1.toInt ∧ v1.toInt ≤ 1 := by omega
    have n1 := i_nat (x := v1) rfl (by omega)
    intro b77 e77
    cases huK.symm.trans e77
    refine ⟨vi_of rfl (by omega) (by omega), ?_⟩
    intro I79 e79 b80 e80
    cases huC.symm.trans e80
    refine ⟨vi_of rfl (by omega) (by omega), ?_⟩
    intro I82 e82 b83 e83
    cases hP.symm.trans e83
    refine ⟨vi_of rfl (by omega) (by omega), ?_⟩
    intro I85 e85 I86 e86
    have w79 : WD Z I79 := by rw [e79]; exact WD_putA w68 12 63 kv0 huK kK rfl rfl (by decide) trivial
    have f79 : FR Ws_X12_keep Z I68 Z I79 := by rw [e79]; exact FR_upA w68.2.1 kv0 huK kK rfl rfl (by decide)
    have w82 : WD Z I82 := by rw [e82]; exact WD_putA w79 12 64 kv0 huC kC rfl rfl (by decide) trivial
    have f82 : FR Ws_X12_keep Z I79 Z I82 := by rw [e82]; exact FR_upA w79.2.1 kv0 huC kC rfl rfl (by decide)
    have w85 : WD Z I85 := by rw [e85]; exact WD_putA w82 12 65 kv0 hP kP rfl rfl (by decide) trivial
    have f85 : FR Ws_X12_keep Z I82 Z I85 := by rw [e85]; exact FR_upA w82.2.1 kv0 hP kP rfl rfl (by decide)
    have w86 : WD Z I86 := by rw [e86]; exact WD_putF w85 12 66 kv0 (by decide) (by decide) trivial
    have f86 : FR Ws_X12_keep Z I85 Z I86 := by rw [e86]; exact FR_putF kv0 (by decide) (by decide)
    have g86 : FR Ws_X12_keep Z I Z I86 := (((f68.trans w.1 w.2.1 f79).trans w.1 w.2.1 f82).trans w.1 w.2.1 f85).trans w.1 w.2.1 f86
    have k86 : I86 uK = I79 uK := by rw [e86, jpI_ne nK0, e85, jpI_ne nPK, e82, jpI_ne (fun e => nKC e.symm)]
    have c86 : I86 uC = I82 uC := by rw [e86, jpI_ne nC0, e85, jpI_ne nPC]
    have s7 : I79 v0 7 = I v0 7 := by rw [e79, jpI_ne (fun e => nK0 e.symm), e68, jpI_o (by decide)]
    have t66 : (I86 v0 66).toInt = 266 * v1.toInt := by rw [e86, jpI_at]; exact i_mul (show (266 : Int32).toInt = 266 from rfl) rfl (by omega) (by omega)
    refine ⟨25, l11_X12_keep_L54 w86 v0 v1 kv0 (fun r I' L' w' f' p' => ?_) 25 0 I86 L w86 FR.rf (by rw [z0]; omega) (by rw [z0]; omega)⟩
    have kk : I' uK = I86 uK := f'.2.2.2 v0 12 63 uK kv0 huK (by rw [kK.2]; rfl) rfl (by decide)
    have cc : I' uC = I86 uC := f'.2.2.2 v0 12 64 uC kv0 huC (by rw [kC.2]; rfl) rfl (by decide)
    refine hQ r I' L' w' (g86.trans w.1 w.2.1 (f'.mono (by decide))) (Or.inl ⟨by omega, hv, ?_, ?_, fun i hi => ⟨?_, ?_⟩⟩)
    · rw [kk, k86, e79, jpI_at]; decide
    · rw [cc, c86, e82, jpI_at]; exact s7
    · rw [kk, k86, e79, jpI_off hi, k68]
    · rw [cc, c86, e82, jpI_off hi, e79, jpI_ne nKC, c68]
  · have c := (i_eq rfl (show (0 : Int32).toInt = 0 from rfl)).mp c
    have z0 : (0 : Int32).toInt = 0 := rfl
    have z1 : (1 : Int32).toInt = 1 := rfl
    exact hQ _ I68 L w68 f68 (Or.inr ⟨rfl, by omega, k68, c68⟩)
theorem HK_keep {Z : jZ} {I0 I1 I2 : jI} {uS v2 uK uC : Nat} {v : Int32} {r1 r2 : Int} (h : HK Z I0 uS v2 uK uC) (f1 : FR Ws_X11_keep Z I0 Z I1) (f2 : FR Ws_X12_keep Z I1 Z I2) (k2 : jk Z v2 12) (hK : jr Z v2 63 = some uK) (kK : jk Z uK 16) (hC : jr Z v2 64 = some uC) (kC : jk Z uC 14) (p1 : KP11 Z uS v r1 I0 I1) (p2 : KP12 v2 uK uC v r2 I1 I2) : HK Z I2 uS v2 uK uC := by
  have e71 := f1.2.2.1 v2 12 7 k2 (by decide) (by decide)
  have e72 := f2.2.2.1 v2 12 7 k2 (by decide) (by decide)
  have eK : I1 uK = I0 uK := f1.2.2.2 v2 12 63 uK k2 hK (by rw [kK.2]; rfl) rfl (by decide)
  have eC : I1 uC = I0 uC := f1.2.2.2 v2 12 64 uC k2 hC (by rw [kC.2]; rfl) rfl (by decide)
  have h0 := h.1
  refine ⟨by rw [e72, e71]; exact h0, fun i b hi hb => ?_⟩
  obtain ⟨kb, hle, hiff⟩ := h.2 i b hi hb
  have e8 : I2 b 8 = I1 b 8 := f2.2.2.1 b 2 8 kb (by decide) (by decide)
  rcases p1 with ⟨-, hv, q1⟩ | ⟨-, hv, q1⟩
  · rcases p2 with ⟨-, -, g1, g2, g3⟩ | ⟨-, hn, -⟩
    · by_cases hi2 : i = v.toNatClampNeg
      · have t := (q1 i b hi hb).1 hi2
        rw [← hi2] at g1 g2
        rw [e8, g2, e72]
        exact ⟨kb, by rw [e71]; omega, fun _ => ⟨g1, rfl⟩, fun _ => t⟩
      · have t := (q1 i b hi hb).2 hi2
        rw [e8, t, (g3 i hi2).1, (g3 i hi2).2, e72, e71, eK, eC]
        exact ⟨kb, hle, hiff⟩
    · exact absurd hv hn
  · rcases p2 with ⟨-, hn, -⟩ | ⟨-, -, g1, g2⟩
    · exact absurd hn hv
    · rw [e8, q1 b kb, g1, g2, e72, e71, eK, eC]
      exact ⟨kb, hle, hiff⟩
/-- again: what it answers -/
def AG11 (Z : jZ) (I : jI) (uS : Nat) (v : Int32) : Prop := (0 ≤ v.toInt ∧ v.toInt ≤ 1) ∧ ∃ b, jr Z uS v.toNatClampNeg = some b ∧ ¬ I b 8 = 0
def AG12 (I : jI) (v2 uK uC : Nat) (v : Int32) : Prop := (0 ≤ v.toInt ∧ v.toInt ≤ 1) ∧ ¬ I uK v.toNatClampNeg = 0 ∧ I uC v.toNatClampNeg = I v2 7
def YN (r : Int) (P : Prop) : Prop := (r = 1 ∧ P) ∨ (r = 0 ∧ ¬ P)
theorem YN_eq {r1 r2 : Int} {P : Prop} (h : YN r1 P) (g : YN r2 P) : r1 = r2 := by
  rcases h with h | h <;> rcases g with g | g
  · rw [h.1, g.1]
  · exact absurd h.2 g.2
  · exact absurd g.2 h.2
  · rw [h.1, g.1]
theorem YN_iff {r : Int} {P P' : Prop} (h : YN r P) (e : P ↔ P') : YN r P' := by
  rcases h with h | h
  · exact Or.inl ⟨h.1, e.mp h.2⟩
  · exact Or.inr ⟨h.1, fun g => h.2 (e.mpr g)⟩
theorem HK_again {W : List (Nat × Nat)} {Z : jZ} {I0 I1 : jI} {uS v2 uK uC : Nat} {v : Int32} {r : Int} (h : HK Z I0 uS v2 uK uC) (f : FR W Z I0 Z I1) (sh : SH Z) (kS : jk Z uS 17) (lS : jlen Z uS = 2) (k2 : jk Z v2 12) (hK : jr Z v2 63 = some uK) (kK : jk Z uK 16) (hC : jr Z v2 64 = some uC) (kC : jk Z uC 14) (n2 : (12, 7) ∉ W) (n3 : (12, 63) ∉ W) (n4 : (12, 64) ∉ W) (p : YN r (AG11 Z I0 uS v)) : YN r (AG12 I1 v2 uK uC v) := by
  refine YN_iff p ?_
  have e7 := f.2.2.1 v2 12 7 k2 (by decide) n2
  have eK : I1 uK = I0 uK := f.2.2.2 v2 12 63 uK k2 hK (by rw [kK.2]; rfl) rfl n3
  have eC : I1 uC = I0 uC := f.2.2.2 v2 12 64 uC k2 hC (by rw [kC.2]; rfl) rfl n4
  unfold AG11 AG12
  rw [e7, eK, eC]
  refine and_congr_right (fun hv => ?_)
  have n1 := i_nat (x := v) rfl hv.1
  obtain ⟨b, hb, kb⟩ := sh.2.2.1 uS kS v.toNatClampNeg (by rw [lS]; omega)
  have g := (h.2 v.toNatClampNeg b (by omega) hb).2.2
  constructor
  · rintro ⟨b', hb', hn⟩
    cases hb.symm.trans hb'
    exact g.mp hn
  · exact fun q => ⟨b, hb, g.mpr q⟩
theorem s9_X11_again {Z : jZ} {I : jI} {L : jL} (w : WD Z I) (v0 : Nat) (v1 : Int32) (kv0 : jk Z v0 11) (uS : Nat) (huS : jr Z v0 8 = some uS) {Q : Int32 → jI → jL → Prop} (hQ : ∀ (r : Int32) (I' : jI) (L' : jL), WD Z I' → FR Ws_X11_again Z I Z I' → YN r.toInt (AG11 Z I uS v1) → Q r I' L') : f_X11_again v0 v1 Z I L Q := by
  obtain ⟨x, ex, kS, lS⟩ := sh_f w.1 kv0 (j := 8) (k := 17) (m := 2) rfl
  cases huS.symm.trans ex
  obtain ⟨uF, huF, kF⟩ := sh_o w.1 kv0 (j := 2) (k := 8) rfl
  obtain ⟨uE, hE, kE, lE⟩ := sh_f w.1 kv0 (j := 5) (k := 14) (m := 8) rfl
  have bad : ¬ (0 ≤ v1.toInt ∧ v1.toInt ≤ 1) → Q (0 : Int32) I L := fun h => hQ _ I L w FR.rf (Or.inr ⟨rfl, fun g => h g.1⟩)
  unfold f_X11_again
  refine ⟨fun c => bad (by have c := (i_lt (x := v1) (y := 0) rfl (show (0 : Int32).toInt = 0 from rfl)).mp c; omega), fun c => ?_⟩
  have c := (not_congr (i_lt (x := v1) (y := 0) rfl (show (0 : Int32).toInt = 0 from rfl))).mp c
  intro b20 e20
  cases huS.symm.trans e20
  refine ⟨fun c2 => bad (by have c2 := (i_le (x := 2) (y := v1) (show (2 : Int32).toInt = 2 from rfl) rfl).mp c2; omega), fun c2 => ?_⟩
  have c2 := (not_congr (i_le (x := 2) (y := v1) (show (2 : Int32).toInt = 2 from rfl) rfl)).mp c2
  have n1 := i_nat (x := v1) rfl (by omega)
  intro b22 e22
  cases huS.symm.trans e22
  refine ⟨vi_of rfl (by omega) (by omega), ?_⟩
  intro b24 e24
  obtain ⟨y, ey, ky⟩ := w.1.2.2.1 uS kS v1.toNatClampNeg (by rw [lS]; omega)
  cases e24.symm.trans ey
  refine ⟨fun c8 => ?_, fun c8 => hQ _ I L w FR.rf (Or.inr ⟨rfl, fun g => ?_⟩)⟩
  · intro b26 e26
    cases huS.symm.trans e26
    refine ⟨vi_of rfl (by omega) (by omega), ?_⟩
    intro b28 e28
    cases e24.symm.trans e28
    intro b29 e29
    cases huF.symm.trans e29
    refine s_X2_getStairs w b24 uF ky kF (fun I1 L1 w1 f1 => ?_)
    intro b36 e36 b37 e37
    cases hE.symm.trans e37
    refine ⟨by decide, ?_⟩
    intro I39 e39
    have w39 : WD Z I39 := by rw [e39]; exact WD_cpy w1 11 5 kv0 hE kE rfl rfl (by decide) (fun _ _ _ => trivial)
    have f39 : FR [(11, 5)] Z I1 Z I39 := by rw [e39]; exact FR_upA w1.2.1 kv0 hE kE rfl rfl List.mem_cons_self
    have g39 : FR Ws_X11_again Z I Z I39 := (f1.mono (by decide)).trans w.1 w.2.1 (f39.mono (by decide))
    have z0 : (0 : Int32).toInt = 0 := rfl
    exact ⟨7, l11_X11_again_L59 w v0 v1 kv0 b24 ky (fun I' L' w' f' => hQ _ I' L' w' f' (Or.inl ⟨rfl, by omega, b24, e24, c8⟩)) 7 0 I39 L1 w39 g39 (by rw [z0]; omega) (by rw [z0]; omega)⟩
  · obtain ⟨-, b', hb', hn⟩ := g
    cases e24.symm.trans hb'
    exact hn c8
theorem s9_X12_again {Z : jZ} {I : jI} {L : jL} (w : WD Z I) (v0 : Nat) (v1 : Int32) (kv0 : jk Z v0 12) (uK : Nat) (huK : jr Z v0 63 = some uK) (uC : Nat) (huC : jr Z v0 64 = some uC) {Q : Int32 → jI → jL → Prop} (hQ : ∀ (r : Int32) (I' : jI) (L' : jL), WD Z I' → FR Ws_X12_again Z I Z I' → YN r.toInt (AG12 I v0 uK uC v1) → Q r I' L') : f_X12_again v0 v1 Z I L Q := by
  obtain ⟨x, ex, kK, lK⟩ := sh_f w.1 kv0 (j := 63) (k := 16) (m := 2) rfl
  cases huK.symm.trans ex
  obtain ⟨y, ey, kC, lC⟩ := sh_f w.1 kv0 (j := 64) (k := 14) (m := 2) rfl
  cases huC.symm.trans ey
  have nK0 : uK ≠ v0 := fun e => by have := kK.2; have := kv0.2; rw [e] at *; omega
  have nC0 : uC ≠ v0 := fun e => by have := kC.2; have := kv0.2; rw [e] at *; omega
  unfold f_X12_again
  intro I1 e1
  have w1 : WD Z I1 := by rw [e1]; exact WD_putF w 12 22 kv0 (by decide) (by decide) trivial
  have f1 : FR Ws_X12_again Z I Z I1 := by rw [e1]; exact FR_putF kv0 (by decide) (by decide)
  have k1 : I1 uK = I uK := by rw [e1]; exact jpI_ne nK0
  have c1 : I1 uC = I uC := by rw [e1]; exact jpI_ne nC0
  have s1 : I1 v0 7 = I v0 7 := by rw [e1, jpI_o (by decide)]
  have z0 : (0 : Int32).toInt = 0 := rfl
  have z1 : (1 : Int32).toInt = 1 := rfl
  refine s_X12_in w1 _ _ _ (fun r p => ⟨fun c => ?_, fun c => ?_⟩)
  · have c := (i_eq rfl (show (0 : Int32).toInt = 0 from rfl)).mp c
    exact hQ _ I1 L w1 f1 (Or.inr ⟨rfl, fun g => by have := g.1; omega⟩)
  have c := (not_congr (i_eq rfl (show (0 : Int32).toInt = 0 from rfl))).mp c
  have hv : 0 ≤ v1.toInt ∧ v1.toInt ≤ 1 := by omega
  have n1 := i_nat (x := v1) rfl (by omega)
  intro b95 e95
  cases huK.symm.trans e95
  refine ⟨vi_of rfl (by omega) (by omega), fun c8 => ?_, fun c8 => ?_⟩
  · exact hQ _ I1 L w1 f1 (Or.inr ⟨rfl, fun g => g.2.1 (by rw [← k1]; exact c8)⟩)
  intro b98 e98
  cases huC.symm.trans e98
  refine ⟨vi_of rfl (by omega) (by omega), fun c9 => ?_, fun c9 => ?_⟩
  · intro I2 e2
    have w2 : WD Z I2 := by rw [e2]; exact WD_putF w1 12 66 kv0 (by decide) (by decide) trivial
    have f2 : FR Ws_X12_again Z I Z I2 := f1.trans w.1 w.2.1 (by rw [e2]; exact FR_putF kv0 (by decide) (by decide))
    have t66 : (I2 v0 66).toInt = 266 * v1.toInt := by rw [e2, jpI_at]; exact i_mul (show (266 : Int32).toInt = 266 from rfl) rfl (by omega) (by omega)
    exact ⟨25, l11_X12_again_L49 w v0 v1 kv0 (fun I' L' w' f' => hQ _ I' L' w' f' (Or.inl ⟨rfl, hv, by rw [← k1]; exact c8, by rw [← c1, ← s1]; exact c9⟩)) 25 0 I2 L w2 f2 (by rw [z0]; omega) (by rw [z0]; omega)⟩
  · exact hQ _ I1 L w1 f1 (Or.inr ⟨rfl, fun g => c9 (by rw [c1, s1]; exact g.2.2)⟩)
end
