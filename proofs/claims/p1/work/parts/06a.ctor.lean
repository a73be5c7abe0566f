/-! ===== what constructors leave ===== -/
/-- the ints that a new cell of kind c holds -/
def jz : Nat → Nat → Int32 := fun c j => match c, j with
  | 9, 8 => -1
  | 3, 8 => -1
  | 12, 31 => -1
  | 12, 39 => -1
  | _, _ => 0
/-- the shape of one cell, references not into U -/
def sh1 (Z : jZ) (U : List Nat) (a c : Nat) : Prop :=
  (∀ j k o, jsh c j = some (k, o) → ∃ b, jr Z a j = some b ∧ b ∉ U ∧ jk Z b k ∧ ∀ m, o = some m → jlen Z b = m)
  ∧ (c = 18 → ∀ i b, jr Z a i = some b → b ∉ U ∧ jk Z b 5)
  ∧ (c = 17 → ∀ i, i < jlen Z a → ∃ b, jr Z a i = some b ∧ b ∉ U ∧ jk Z b 2)
  ∧ (c = 19 → ∀ i, i < jlen Z a → ∃ b, jr Z a i = some b ∧ b ∉ U ∧ jk Z b 13 ∧ jlen Z b = 40)
def fr1 (I : jI) (L : jL) (a c : Nat) : Prop := (∀ j, I a j = jz c j) ∧ ∀ j, L a j = 0
/-- cell a is as it was -/
def sm1 (Z : jZ) (I : jI) (L : jL) (Z' : jZ) (I' : jI) (L' : jL) (a : Nat) : Prop := Z'.2.2.2 a = Z.2.2.2 a ∧ I' a = I a ∧ L' a = L a
/-- while cells are made: those of the base stay, all other ones but those in U are whole and new -/
def CI (B : jZ × jI × jL) (Z : jZ) (I : jI) (L : jL) (U : List Nat) : Prop :=
  jext B.1 Z ∧ (∀ a ∈ B.1.1, a ∉ U → sm1 B.1 B.2.1 B.2.2 Z I L a) ∧ ∀ a c, jk Z a c → a ∉ B.1.1 → a ∉ U → sh1 Z U a c ∧ fr1 I L a c
theorem jk_one {Z : jZ} {a k k' : Nat} (h : jk Z a k) (h' : jk Z a k') : k = k' := h.2.symm.trans h'.2
theorem jk_nw_old {Z : jZ} {q k m a c : Nat} (h : jk (jnw Z q k m) a c) (hne : a ≠ q) : jk Z a c := by
  refine ⟨?_, ?_⟩
  · rcases List.mem_append.mp h.1 with h1 | h1
    · exact h1
    · exact absurd (List.mem_singleton.mp h1) hne
  · have h2 : va_up Z.2.1 q k a = c := h.2
    rw [va_up_ne _ _ hne] at h2
    exact h2
theorem jr_nw_old {Z : jZ} {q k m a : Nat} (hne : a ≠ q) : (jnw Z q k m).2.2.2 a = Z.2.2.2 a := va_up_ne _ _ hne
theorem jlen_nw_old {Z : jZ} {q k m a : Nat} (hne : a ≠ q) : jlen (jnw Z q k m) a = jlen Z a := va_up_ne _ _ hne
theorem sh1_ext {Z Z' : jZ} {U U' : List Nat} {a c : Nat} (h : sh1 Z U a c) (hk : jk Z a c) (hx : jext Z Z') (hr : Z'.2.2.2 a = Z.2.2.2 a) (hU : ∀ b, b ∈ Z.1 → b ∉ U → b ∉ U') : sh1 Z' U' a c := by
  have er : ∀ i, jr Z' a i = jr Z a i := fun i => congrFun hr i
  refine ⟨fun j k o e => ?_, fun e i b hb => ?_, fun e i hi => ?_, fun e i hi => ?_⟩
  · obtain ⟨b, h1, h2, h3, h4⟩ := h.1 j k o e
    exact ⟨b, (er j).trans h1, hU b h3.1 h2, (hx b k h3).1, fun m hm => (hx b k h3).2.trans (h4 m hm)⟩
  · rw [er] at hb
    obtain ⟨h1, h2⟩ := h.2.1 e i b hb
    exact ⟨hU b h2.1 h1, (hx b 5 h2).1⟩
  · rw [(hx a c hk).2] at hi
    obtain ⟨b, h1, h2, h3⟩ := h.2.2.1 e i hi
    exact ⟨b, (er i).trans h1, hU b h3.1 h2, (hx b 2 h3).1⟩
  · rw [(hx a c hk).2] at hi
    obtain ⟨b, h1, h2, h3, h4⟩ := h.2.2.2 e i hi
    exact ⟨b, (er i).trans h1, hU b h3.1 h2, (hx b 13 h3).1, (hx b 13 h3).2.trans h4⟩
/-- a new cell, into U -/
theorem CI_nw {B : jZ × jI × jL} {Z : jZ} {I : jI} {L : jL} {U : List Nat} {q k m : Nat} (h : CI B Z I L U) (hq : q ∉ Z.1) : CI B (jnw Z q k m) (jz0 I q) (jzL L q) (q :: U) := by
  have hx : jext Z (jnw Z q k m) := jext_nw hq
  refine ⟨jext_trans h.1 hx, fun a ha hU => ?_, fun a c ha hB hU => ?_⟩
  · have hne : a ≠ q := fun e => hU (e ▸ List.mem_cons_self)
    obtain ⟨h1, h2, h3⟩ := h.2.1 a ha (fun e => hU (List.mem_cons_of_mem _ e))
    exact ⟨(jr_nw_old hne).trans h1, (va_up_ne _ _ hne).trans h2, (va_up_ne _ _ hne).trans h3⟩
  · have hne : a ≠ q := fun e => hU (e ▸ List.mem_cons_self)
    have ha' := jk_nw_old ha hne
    obtain ⟨h1, h2⟩ := h.2.2 a c ha' hB (fun e => hU (List.mem_cons_of_mem _ e))
    refine ⟨sh1_ext h1 ha' hx (jr_nw_old hne) (fun b hb hbU e => ?_), ?_, ?_⟩
    · rcases List.mem_cons.mp e with e | e
      · exact hq (e ▸ hb)
      · exact hbU e
    · intro j; rw [show jz0 I q a = I a from va_up_ne _ _ hne]; exact h2.1 j
    · intro j; rw [show jzL L q a = L a from va_up_ne _ _ hne]; exact h2.2 j
/-- a cell in U is written -/
theorem CI_put {B : jZ × jI × jL} {Z Z' : jZ} {I I' : jI} {L L' : jL} {U : List Nat} {u : Nat} (h : CI B Z I L U) (hu : u ∈ U) (h1 : Z'.1 = Z.1) (h2 : Z'.2.1 = Z.2.1) (h3 : Z'.2.2.1 = Z.2.2.1) (ho : ∀ a, a ≠ u → sm1 Z I L Z' I' L' a) : CI B Z' I' L' U := by
  have hx : jext Z Z' := fun a c ha => ⟨⟨by rw [h1]; exact ha.1, by rw [h2]; exact ha.2⟩, congrFun h3 a⟩
  have hb : ∀ a c, jk Z' a c → jk Z a c := fun a c ha => ⟨by rw [← h1]; exact ha.1, by rw [← h2]; exact ha.2⟩
  refine ⟨jext_trans h.1 hx, fun a ha hU => ?_, fun a c ha hB hU => ?_⟩
  · have hne : a ≠ u := fun e => hU (e ▸ hu)
    obtain ⟨g1, g2, g3⟩ := h.2.1 a ha hU
    obtain ⟨o1, o2, o3⟩ := ho a hne
    exact ⟨o1.trans g1, o2.trans g2, o3.trans g3⟩
  · have hne : a ≠ u := fun e => hU (e ▸ hu)
    obtain ⟨o1, o2, o3⟩ := ho a hne
    obtain ⟨g1, g2⟩ := h.2.2 a c (hb a c ha) hB hU
    exact ⟨sh1_ext g1 (hb a c ha) hx o1 (fun _ _ q => q), fun j => by rw [o2]; exact g2.1 j, fun j => by rw [o3]; exact g2.2 j⟩
/-- a cell of U is whole: it leaves U -/
theorem CI_done {B : jZ × jI × jL} {Z : jZ} {I : jI} {L : jL} {U : List Nat} {u c : Nat} (h : CI B Z I L (u :: U)) (hk : jk Z u c) (hB : u ∉ B.1.1) (hs : sh1 Z U u c) (hf : fr1 I L u c) : CI B Z I L U := by
  refine ⟨h.1, fun a ha hU => h.2.1 a ha (fun e => ?_), fun a c' ha hB' hU => ?_⟩
  · rcases List.mem_cons.mp e with e | e
    · exact hB (e ▸ ha)
    · exact hU e
  · by_cases e : a = u
    · subst e
      cases jk_one ha hk
      exact ⟨hs, hf⟩
    · obtain ⟨h1, h2⟩ := h.2.2 a c' ha hB' (fun q => (List.mem_cons.mp q).elim e hU)
      exact ⟨sh1_ext h1 ha jext_rfl rfl (fun b _ hb q => hb (List.mem_cons_of_mem _ q)), h2⟩
/-- in the constructor of h0, of kind c, from (Zs, Is, Ls): the fields J and the ints K are done -/
def ST (B : jZ × jI × jL) (Zs : jZ) (Is : jI) (Ls : jL) (U : List Nat) (h0 c : Nat) (J K : List Nat) (Z : jZ) (I : jI) (L : jL) : Prop :=
  CI B Z I L (h0 :: U) ∧ jext Zs Z ∧ (∀ a ∈ Zs.1, a ≠ h0 → sm1 Zs Is Ls Z I L a) ∧ jk Z h0 c ∧ h0 ∉ B.1.1 ∧ (∀ u ∈ U, u ∈ Zs.1)
  ∧ (∀ j ∈ J, ∀ k o, jsh c j = some (k, o) → ∃ b, jr Z h0 j = some b ∧ b ∉ h0 :: U ∧ jk Z b k ∧ ∀ m, o = some m → jlen Z b = m)
  ∧ (∀ j, j ∉ K → I h0 j = 0) ∧ (∀ j ∈ K, I h0 j = jz c j) ∧ ∀ j, L h0 j = 0
/-- what a constructor without parameters does -/
def CTOR (c : Nat) (f : Nat → jZ → jI → jL → (jZ → jI → jL → Prop) → Prop) : Prop :=
  ∀ (B : jZ × jI × jL) (Z : jZ) (I : jI) (L : jL) (U : List Nat) (h0 : Nat) (Q : jZ → jI → jL → Prop), CI B Z I L (h0 :: U) → jk Z h0 c → h0 ∉ B.1.1 → h0 ∉ U → (∀ u ∈ U, u ∈ Z.1) → (∀ j, I h0 j = 0) → (∀ j, L h0 j = 0) →
    (∀ Z' I' L', CI B Z' I' L' U → jext Z Z' → (∀ a ∈ Z.1, a ≠ h0 → sm1 Z I L Z' I' L' a) → Q Z' I' L') → f h0 Z I L Q
theorem ST_start {B : jZ × jI × jL} {Z : jZ} {I : jI} {L : jL} {U : List Nat} {h0 c : Nat} (h : CI B Z I L (h0 :: U)) (hk : jk Z h0 c) (hB : h0 ∉ B.1.1) (hU : ∀ u ∈ U, u ∈ Z.1) (hI : ∀ j, I h0 j = 0) (hL : ∀ j, L h0 j = 0) : ST B Z I L U h0 c [] [] Z I L :=
  ⟨h, jext_rfl, fun _ _ _ => ⟨rfl, rfl, rfl⟩, hk, hB, hU, fun _ h => absurd h List.not_mem_nil, fun j _ => hI j, fun _ h => absurd h List.not_mem_nil, hL⟩
theorem ST_end {B : jZ × jI × jL} {Zs Z : jZ} {Is I : jI} {Ls L : jL} {U : List Nat} {h0 c : Nat} {J K : List Nat} (h : ST B Zs Is Ls U h0 c J K Z I L) (hU : h0 ∉ U) (hJ : ∀ j k o, jsh c j = some (k, o) → j ∈ J) (hc : c < 13) (hK : ∀ j, j ∉ K → jz c j = 0) : CI B Z I L U ∧ jext Zs Z ∧ ∀ a ∈ Zs.1, a ≠ h0 → sm1 Zs Is Ls Z I L a := by
  obtain ⟨h1, h2, h3, h4, h5, h6, h7, h8, h9, h10⟩ := h
  refine ⟨CI_done h1 h4 h5 ⟨fun j k o e => ?_, fun e => by omega, fun e => by omega, fun e => by omega⟩ ⟨fun j => ?_, h10⟩, h2, h3⟩
  · obtain ⟨b, g1, g2, g3⟩ := h7 j (hJ j k o e) k o e
    exact ⟨b, g1, fun q => g2 (List.mem_cons_of_mem _ q), g3⟩
  · by_cases hj : j ∈ K
    · exact h9 j hj
    · rw [h8 j hj, hK j hj]
/-- a reference is put -/
theorem ST_ref {B : jZ × jI × jL} {Zs Z : jZ} {Is I : jI} {Ls L : jL} {U : List Nat} {h0 c : Nat} {J K : List Nat} (j : Nat) {b : Nat} (h : ST B Zs Is Ls U h0 c J K Z I L) (hb : b ∉ h0 :: U) (hs : ∀ k o, jsh c j = some (k, o) → jk Z b k ∧ ∀ m, o = some m → jlen Z b = m) : ST B Zs Is Ls U h0 c (j :: J) K (jpR Z h0 j (some b)) I L := by
  obtain ⟨h1, h2, h3, h4, h5, h6, h7, h8, h9, h10⟩ := h
  have ho : ∀ a, a ≠ h0 → sm1 Z I L (jpR Z h0 j (some b)) I L a := fun a ha => ⟨va_up_ne _ _ ha, rfl, rfl⟩
  refine ⟨CI_put h1 List.mem_cons_self rfl rfl rfl ho, jext_trans h2 jext_putr, fun a ha hne => ?_, h4, h5, h6, fun i hi k o e => ?_, h8, h9, h10⟩
  · obtain ⟨o1, o2, o3⟩ := ho a hne
    obtain ⟨g1, g2, g3⟩ := h3 a ha hne
    exact ⟨o1.trans g1, o2.trans g2, o3.trans g3⟩
  · by_cases hij : i = j
    · subst hij
      obtain ⟨s1, s2⟩ := hs k o e
      exact ⟨b, by show va_up Z.2.2.2 h0 (va_up (Z.2.2.2 h0) i (some b)) h0 i = some b; rw [va_up_self, va_up_self], hb, s1, s2⟩
    · obtain ⟨b', g1, g2, g3, g4⟩ := h7 i ((List.mem_cons.mp hi).resolve_left hij) k o e
      exact ⟨b', by show va_up Z.2.2.2 h0 (va_up (Z.2.2.2 h0) j (some b)) h0 i = some b'; rw [va_up_self, va_up_ne _ _ hij]; exact g1, g2, g3, g4⟩
theorem ST_int {B : jZ × jI × jL} {Zs Z : jZ} {Is I : jI} {Ls L : jL} {U : List Nat} {h0 c : Nat} {J K : List Nat} (j : Nat) {v : Int32} (h : ST B Zs Is Ls U h0 c J K Z I L) (hv : v = jz c j) : ST B Zs Is Ls U h0 c J (j :: K) Z (jpI I h0 j v) L := by
  obtain ⟨h1, h2, h3, h4, h5, h6, h7, h8, h9, h10⟩ := h
  have ho : ∀ a, a ≠ h0 → sm1 Z I L Z (jpI I h0 j v) L a := fun a ha => ⟨rfl, va_up_ne _ _ ha, rfl⟩
  have hI : ∀ i, jpI I h0 j v h0 i = if i = j then v else I h0 i := fun i => by
    show va_up I h0 (upd (I h0) j v) h0 i = _
    rw [va_up_self]; rfl
  refine ⟨CI_put h1 List.mem_cons_self rfl rfl rfl ho, h2, fun a ha hne => ?_, h4, h5, h6, h7, fun i hi => ?_, fun i hi => ?_, h10⟩
  · obtain ⟨o1, o2, o3⟩ := ho a hne
    obtain ⟨g1, g2, g3⟩ := h3 a ha hne
    exact ⟨o1.trans g1, o2.trans g2, o3.trans g3⟩
  · rw [hI, if_neg (fun (e : i = j) => hi (by rw [e]; exact List.mem_cons_self))]
    exact h8 i (fun e => hi (List.mem_cons_of_mem _ e))
  · rw [hI]
    by_cases e : i = j
    · subst e; rw [if_pos rfl]; exact hv
    · rw [if_neg e]; exact h9 i ((List.mem_cons.mp hi).resolve_left e)
theorem ST_long {B : jZ × jI × jL} {Zs Z : jZ} {Is I : jI} {Ls L : jL} {U : List Nat} {h0 c : Nat} {J K : List Nat} (j : Nat) (h : ST B Zs Is Ls U h0 c J K Z I L) : ST B Zs Is Ls U h0 c J K Z I (jpL L h0 j 0) := by
  obtain ⟨h1, h2, h3, h4, h5, h6, h7, h8, h9, h10⟩ := h
  have ho : ∀ a, a ≠ h0 → sm1 Z I L Z I (jpL L h0 j 0) a := fun a ha => ⟨rfl, rfl, va_up_ne _ _ ha⟩
  refine ⟨CI_put h1 List.mem_cons_self rfl rfl rfl ho, h2, fun a ha hne => ?_, h4, h5, h6, h7, h8, h9, fun i => ?_⟩
  · obtain ⟨o1, o2, o3⟩ := ho a hne
    obtain ⟨g1, g2, g3⟩ := h3 a ha hne
    exact ⟨o1.trans g1, o2.trans g2, o3.trans g3⟩
  · show va_up L h0 (vp_updL (L h0) j 0) h0 i = 0
    rw [va_up_self]
    show (if i = j then (0 : Int64) else L h0 i) = 0
    by_cases e : i = j
    · rw [if_pos e]
    · rw [if_neg e]; exact h10 i
/-- a new cell, still in U -/
theorem ST_nw {B : jZ × jI × jL} {Zs Z : jZ} {Is I : jI} {Ls L : jL} {U : List Nat} {h0 c : Nat} {J K : List Nat} {q k m : Nat} (h : ST B Zs Is Ls U h0 c J K Z I L) (hq : q ∉ Z.1) : CI B (jnw Z q k m) (jz0 I q) (jzL L q) (q :: h0 :: U) ∧ jk (jnw Z q k m) q k ∧ jlen (jnw Z q k m) q = m ∧ q ∉ B.1.1 ∧ q ∉ h0 :: U ∧ (∀ u ∈ h0 :: U, u ∈ (jnw Z q k m).1) ∧ (∀ j, jz0 I q q j = 0) ∧ (∀ j, jzL L q q j = 0) ∧ jext Z (jnw Z q k m) ∧ ∀ a ∈ Z.1, sm1 Z I L (jnw Z q k m) (jz0 I q) (jzL L q) a := by
  obtain ⟨h1, h2, h3, h4, h5, h6, h7, h8, h9, h10⟩ := h
  have hU : ∀ u ∈ h0 :: U, u ∈ Z.1 := fun u hu => (List.mem_cons.mp hu).elim (fun e => e ▸ h4.1) (fun e => (h2 u _ ⟨h6 u e, rfl⟩).1.1)
  refine ⟨CI_nw h1 hq, jk_nw, jlen_nw, fun e => hq (h1.1 q _ ⟨e, rfl⟩).1.1, fun e => hq (hU q e), fun u hu => List.mem_append_left _ (hU u hu), fun j => congrFun (va_up_self _ _ _) j, fun j => congrFun (va_up_self _ _ _) j, jext_nw hq, fun a ha => ?_⟩
  have hne : a ≠ q := fun e => hq (e ▸ ha)
  exact ⟨va_up_ne _ _ hne, va_up_ne _ _ hne, va_up_ne _ _ hne⟩
/-- and whole: a primitive array, or what a constructor has left -/
theorem ST_go {B : jZ × jI × jL} {Zs Z Z' : jZ} {Is I I' : jI} {Ls L L' : jL} {U : List Nat} {h0 c : Nat} {J K : List Nat} (h : ST B Zs Is Ls U h0 c J K Z I L) (h1 : CI B Z' I' L' (h0 :: U)) (hx : jext Z Z') (hs : ∀ a ∈ Z.1, sm1 Z I L Z' I' L' a) : ST B Zs Is Ls U h0 c J K Z' I' L' := by
  obtain ⟨-, h2, h3, h4, h5, h6, h7, h8, h9, h10⟩ := h
  obtain ⟨s1, s2, s3⟩ := hs h0 h4.1
  refine ⟨h1, jext_trans h2 hx, fun a ha hne => ?_, (hx _ _ h4).1, h5, h6, fun j hj k o e => ?_, fun j hj => by rw [s2]; exact h8 j hj, fun j hj => by rw [s2]; exact h9 j hj, fun j => by rw [s3]; exact h10 j⟩
  · obtain ⟨o1, o2, o3⟩ := hs a (h2 a _ ⟨ha, rfl⟩).1.1
    obtain ⟨g1, g2, g3⟩ := h3 a ha hne
    exact ⟨o1.trans g1, o2.trans g2, o3.trans g3⟩
  · obtain ⟨b, g1, g2, g3, g4⟩ := h7 j hj k o e
    exact ⟨b, (congrFun s1 j).trans g1, g2, (hx _ _ g3).1, fun m hm => (hx _ _ g3).2.trans (g4 m hm)⟩
theorem sh1_prim {Z : jZ} {U : List Nat} {a k : Nat} (h : 13 ≤ k) (h2 : k ≤ 16) : sh1 Z U a k := by
  refine ⟨fun j k' o e => ?_, fun e => by omega, fun e => by omega, fun e => by omega⟩
  exfalso
  rcases (show k = 13 ∨ k = 14 ∨ k = 15 ∨ k = 16 by omega) with rfl | rfl | rfl | rfl <;> simp [jsh] at e
theorem jz_arr {k : Nat} (h : 13 ≤ k) (j : Nat) : jz k j = 0 := by
  unfold jz
  split <;> first | rfl | omega
/-- a new array of ints, longs, bytes or booleans goes to field j -/
theorem ST_arr {B : jZ × jI × jL} {Zs Z : jZ} {Is I : jI} {Ls L : jL} {U : List Nat} {h0 c : Nat} {J K : List Nat} (j : Nat) {q k m : Nat} (h : ST B Zs Is Ls U h0 c J K Z I L) (hq : q ∉ Z.1) (hk : 13 ≤ k) (hk2 : k ≤ 16) (hj : ∀ k' o, jsh c j = some (k', o) → k' = k ∧ ∀ m', o = some m' → m' = m) : ST B Zs Is Ls U h0 c (j :: J) K (jpR (jnw Z q k m) h0 j (some q)) (jz0 I q) (jzL L q) := by
  obtain ⟨g1, g2, g3, g4, g5, g6, g7, g8, g9, g10⟩ := ST_nw (k := k) (m := m) h hq
  have g1' := CI_done g1 g2 g4 (sh1_prim hk hk2) ⟨fun j => by rw [g7, jz_arr hk], g8⟩
  refine ST_ref j (ST_go h g1' g9 g10) g5 (fun k' o e => ?_)
  obtain ⟨e1, e2⟩ := hj k' o e
  subst e1
  exact ⟨g2, fun m' hm => by rw [e2 m' hm]; exact g3⟩
theorem jsh_arr {k j : Nat} (h : 13 ≤ k) : jsh k j = none := by
  unfold jsh
  split <;> first | rfl | omega
theorem jsh_no {k j k' : Nat} {o : Option Nat} {P : Prop} (h : 13 ≤ k) (e : jsh k j = some (k', o)) : P := by
  rw [jsh_arr h] at e
  cases e
theorem sm1_trans {Z Z' Z'' : jZ} {I I' I'' : jI} {L L' L'' : jL} {a : Nat} (h : sm1 Z I L Z' I' L' a) (h' : sm1 Z' I' L' Z'' I'' L'' a) : sm1 Z I L Z'' I'' L'' a := ⟨h'.1.trans h.1, h'.2.1.trans h.2.1, h'.2.2.trans h.2.2⟩
theorem jsh_big {c j : Nat} (h : 67 ≤ j) : jsh c j = none := by
  unfold jsh
  split <;> first | rfl | omega
theorem jz_big {c j : Nat} (h : 67 ≤ j) : jz c j = 0 := by
  unfold jz
  split <;> first | rfl | omega
theorem shJ {c : Nat} {J : List Nat} (h : ∀ j, j < 67 → (jsh c j).isSome = true → j ∈ J) : ∀ j k o, jsh c j = some (k, o) → j ∈ J := fun j k o e => by
  by_cases hj : j < 67
  · exact h j hj (by rw [e]; rfl)
  · rw [jsh_big (by omega)] at e; cases e
theorem shK {c : Nat} {K : List Nat} (h : ∀ j, j < 67 → j ∉ K → jz c j = 0) : ∀ j, j ∉ K → jz c j = 0 := fun j hj => by
  by_cases hl : j < 67
  · exact h j hl hj
  · exact jz_big (by omega)
theorem shA {c j k m : Nat} (h : jsh c j = some (k, some m)) : ∀ k' o, jsh c j = some (k', o) → k' = k ∧ ∀ m', o = some m' → m' = m := fun k' o e => by
  rw [h] at e
  cases e
  exact ⟨rfl, fun m' hm => by cases hm; rfl⟩
theorem shAn {c j k m : Nat} (h : jsh c j = some (k, none)) : ∀ k' o, jsh c j = some (k', o) → k' = k ∧ ∀ m', o = some m' → m' = m := fun k' o e => by
  rw [h] at e
  cases e
  exact ⟨rfl, fun m' hm => by cases hm⟩
theorem shO {Z : jZ} {b c j k : Nat} (h : jsh c j = some (k, none)) (hk : jk Z b k) : ∀ k' o, jsh c j = some (k', o) → jk Z b k' ∧ ∀ m, o = some m → jlen Z b = m := fun k' o e => by
  rw [h] at e
  cases e
  exact ⟨hk, fun m hm => by cases hm⟩
theorem shL {Z : jZ} {b c j k n : Nat} (h : jsh c j = some (k, some n)) (hk : jk Z b k) (hl : jlen Z b = n) : ∀ k' o, jsh c j = some (k', o) → jk Z b k' ∧ ∀ m, o = some m → jlen Z b = m := fun k' o e => by
  rw [h] at e
  cases e
  exact ⟨hk, fun m hm => by cases hm; exact hl⟩
/-- a new object, made whole by its constructor -/
theorem ST_obj {B : jZ × jI × jL} {Zs Z Z1 : jZ} {Is I I1 : jI} {Ls L L1 : jL} {U : List Nat} {h0 c : Nat} {J K : List Nat} {q k : Nat} {f : Nat → jZ → jI → jL → (jZ → jI → jL → Prop) → Prop} (hf : CTOR k f) (h : ST B Zs Is Ls U h0 c J K Z I L) (hq : q ∉ Z.1) (eZ : Z1 = jnw Z q k 0) (eI : I1 = jz0 I q) (eL : L1 = jzL L q) {Q : jZ → jI → jL → Prop} (kk : ∀ Z' I' L', ST B Zs Is Ls U h0 c J K Z' I' L' → jk Z' q k → q ∉ h0 :: U → jext Z Z' → (∀ a ∈ Z.1, sm1 Z I L Z' I' L' a) → Q Z' I' L') : f q Z1 I1 L1 Q := by
  subst eZ; subst eI; subst eL
  obtain ⟨g1, g2, g3, g4, g5, g6, g7, g8, g9, g10⟩ := ST_nw (k := k) (m := 0) h hq
  refine hf B _ _ _ (h0 :: U) q Q g1 g2 g4 g5 g6 g7 g8 (fun Z' I' L' hC' hx' hs' => ?_)
  have hs : ∀ a ∈ Z.1, sm1 Z I L Z' I' L' a := fun a ha => sm1_trans (g10 a ha) (hs' a (g9 a _ ⟨ha, rfl⟩).1.1 (fun e => hq (e ▸ ha)))
  exact kk Z' I' L' (ST_go h hC' (jext_trans g9 hx') hs) (hx' _ _ g2).1 g5 (jext_trans g9 hx') hs
/-- two rows of bytes and the row of them -/
theorem ST_mna {B : jZ × jI × jL} {Zs Z : jZ} {Is I : jI} {Ls L : jL} {U : List Nat} {h0 c : Nat} {J K : List Nat} (j : Nat) {r0 r1 q : Nat} (h : ST B Zs Is Ls U h0 c J K Z I L) (h0' : r0 ∉ Z.1) (h1' : r1 ∉ (jnw Z r0 13 40).1) (hq : q ∉ (jnw (jnw Z r0 13 40) r1 13 40).1) (hj : jsh c j = some (19, some 2)) : ST B Zs Is Ls U h0 c (j :: J) K (jpR (jnw2 Z r0 r1 q) h0 j (some q)) (jz2 I r0 r1 q) (jzL2 L r0 r1 q) := by
  have arr : ∀ {Z : jZ} {I : jI} {L : jL} {r : Nat}, ST B Zs Is Ls U h0 c J K Z I L → r ∉ Z.1 → ST B Zs Is Ls U h0 c J K (jnw Z r 13 40) (jz0 I r) (jzL L r) := by
    intro Z I L r h hr
    obtain ⟨g1, g2, g3, g4, g5, g6, g7, g8, g9, g10⟩ := ST_nw (k := 13) (m := 40) h hr
    exact ST_go h (CI_done g1 g2 g4 (sh1_prim (by decide) (by decide)) ⟨fun j => by rw [g7, jz_arr (by decide)], g8⟩) g9 g10
  have s1 := arr h h0'
  have s2 := arr s1 h1'
  obtain ⟨g1, g2, g3, g4, g5, g6, g7, g8, g9, g10⟩ := ST_nw (k := 19) (m := 2) s2 hq
  have ho : ∀ a, a ≠ q → sm1 (jnw (jnw (jnw Z r0 13 40) r1 13 40) q 19 2) (jz2 I r0 r1 q) (jzL2 L r0 r1 q) (jnw2 Z r0 r1 q) (jz2 I r0 r1 q) (jzL2 L r0 r1 q) a := fun a ha => ⟨(va_up_ne _ _ ha).trans (va_up_ne _ _ ha), rfl, rfl⟩
  have c1 := CI_put (Z' := jnw2 Z r0 r1 q) (I' := jz2 I r0 r1 q) (L' := jzL2 L r0 r1 q) g1 List.mem_cons_self rfl rfl rfl ho
  have kr0 : jk (jnw (jnw Z r0 13 40) r1 13 40) r0 13 ∧ jlen (jnw (jnw Z r0 13 40) r1 13 40) r0 = 40 := ⟨(jext_nw h1' _ _ jk_nw).1, (jext_nw h1' _ _ jk_nw).2.trans jlen_nw⟩
  have kr1 : jk (jnw (jnw Z r0 13 40) r1 13 40) r1 13 ∧ jlen (jnw (jnw Z r0 13 40) r1 13 40) r1 = 40 := ⟨jk_nw, jlen_nw⟩
  have nU : ∀ {Z : jZ} {I : jI} {L : jL} {r : Nat}, ST B Zs Is Ls U h0 c J K Z I L → r ∉ Z.1 → r ∉ h0 :: U := fun h hr => (ST_nw (k := 13) (m := 40) h hr).2.2.2.2.1
  have e0 : jr (jnw2 Z r0 r1 q) q 0 = some r0 := by simp [jr, jnw2, jpR, va_up]
  have e1 : jr (jnw2 Z r0 r1 q) q 1 = some r1 := by simp [jr, jnw2, jpR, va_up]
  have c2 := CI_done c1 (c := 19) g2 g4 ⟨fun j' k' o e => jsh_no (by decide) e, fun e => by omega, fun e => by omega, fun _ i hi => by
      have hi : i < 2 := by rw [show jlen (jnw2 Z r0 r1 q) q = 2 from g3] at hi; exact hi
      rcases (show i = 0 ∨ i = 1 by omega) with rfl | rfl
      · exact ⟨r0, e0, nU h h0', (g9 _ _ kr0.1).1, (g9 _ _ kr0.1).2.trans kr0.2⟩
      · exact ⟨r1, e1, nU s1 h1', (g9 _ _ kr1.1).1, (g9 _ _ kr1.1).2.trans kr1.2⟩⟩ ⟨fun j => by rw [show jz2 I r0 r1 q q j = 0 from g7 j, jz_arr (by decide)], g8⟩
  have s3 := ST_go s2 c2 (Z' := jnw2 Z r0 r1 q) (jext_trans g9 (jext_trans jext_putr jext_putr)) (fun a ha => sm1_trans (g10 a ha) (ho a (fun e => hq (e ▸ ha))))
  exact ST_ref j s3 g5 (shL hj g2 g3)
/-- a new array of pilgrims holds none -/
theorem sh1_pnull {B : jZ × jI × jL} {Zs Z : jZ} {Is I : jI} {Ls L : jL} {U : List Nat} {h0 c : Nat} {J K : List Nat} {q m : Nat} {U' : List Nat} (_ : ST B Zs Is Ls U h0 c J K Z I L) (_ : q ∉ Z.1) : sh1 (jnw Z q 18 m) U' q 18 := by
  refine ⟨fun j k o e => jsh_no (by decide) e, fun _ i b e => ?_, fun e => by omega, fun e => by omega⟩
  · have e2 : va_up Z.2.2.2 q (fun _ => none) q i = some b := e
    rw [va_up_self] at e2; cases e2
