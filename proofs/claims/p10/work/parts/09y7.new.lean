/-! ===== what constructors leave ===== -/
/-- the ints that a new cell of kind c holds -/
def jz : Nat → Nat → Int32 := fun c j => match c, j with
  | 9, 8 => -1
  | 3, 8 => -1
  | 12, 31 => -1
  | 12, 39 => -1
  | _, _ => 0
def fr1 (I : jI) (L : jL) (a c : Nat) : Prop := (∀ j, I a j = jz c j) ∧ ∀ j, L a j = 0
/-- cell a is as it was -/
def sm1 (Z : jZ) (I : jI) (L : jL) (Z' : jZ) (I' : jI) (L' : jL) (a : Nat) : Prop := Z'.2.2.2 a = Z.2.2.2 a ∧ I' a = I a ∧ L' a = L a
/-- while cells are made: those of the base stay, all other ones but those in U are whole and new -/
def CI (B : jZ × jI × jL) (Z : jZ) (I : jI) (L : jL) (U : List Nat) : Prop :=
  jext B.1 Z ∧ (∀ a ∈ B.1.1, a ∉ U → sm1 B.1 B.2.1 B.2.2 Z I L a) ∧ ∀ a c, jk Z a c → a ∉ B.1.1 → a ∉ U → sh1 Z U a c ∧ fr1 I L a c
theorem jk_one {Z : jZ} {a k k' : Nat} (h : jk Z a k) (h' : jk Z a k') : k = k' := h.2.symm.trans h'.2
theorem jk_nw_old {Z : jZ} {q k m a c : Nat} (h : jk (jnw Z q k m) a c) (hne : a ≠ q) : jk Z a c := by
  refine ⟨?_, ?_⟩
  · rcases List.mem_append.mp h.1 with h1 | h1
    · exact h1
    · exact absurd (List.mem_singleton.mp h1) hne
  · have h2 : va_up Z.2.1 q k a = c := h.2
    rw [va_up_ne _ _ hne] at h2
    exact h2
theorem jr_nw_old {Z : jZ} {q k m a : Nat} (hne : a ≠ q) : (jnw Z q k m).2.2.2 a = Z.2.2.2 a := va_up_ne _ _ hne
theorem jlen_nw_old {Z : jZ} {q k m a : Nat} (hne : a ≠ q) : jlen (jnw Z q k m) a = jlen Z a := va_up_ne _ _ hne
/-- a new cell, into U -/
theorem CI_nw {B : jZ × jI × jL} {Z : jZ} {I : jI} {L : jL} {U : List Nat} {q k m : Nat} (h : CI B Z I L U) (hq : q ∉ Z.1) : CI B (jnw Z q k m) (jz0 I q) (jzL L q) (q :: U) := by
  have hx : jext Z (jnw Z q k m) := jext_nw hq
  refine ⟨jext_trans h.1 hx, fun a ha hU => ?_, fun a c ha hB hU => ?_⟩
  · have hne : a ≠ q := fun e => hU (e ▸ List.mem_cons_self)
    obtain ⟨h1, h2, h3⟩ := h.2.1 a ha (fun e => hU (List.mem_cons_of_mem _ e))
    exact ⟨(jr_nw_old hne).trans h1, (va_up_ne _ _ hne).trans h2, (va_up_ne _ _ hne).trans h3⟩
  · have hne : a ≠ q := fun e => hU (e ▸ List.mem_cons_self)
    have ha' := jk_nw_old ha hne
    obtain ⟨h1, h2⟩ := h.2.2 a c ha' hB (fun e => hU (List.mem_cons_of_mem _ e))
    refine ⟨sh1_ext h1 ha' hx (jr_nw_old hne) (fun b hb hbU e => ?_), ?_, ?_⟩
    · rcases List.mem_cons.mp e with e | e
      · exact hq (e ▸ hb)
      · exact hbU e
    · intro j; rw [show jz0 I q a = I a from va_up_ne _ _ hne]; exact h2.1 j
    · intro j; rw [show jzL L q a = L a from va_up_ne _ _ hne]; exact h2.2 j
/-- a cell in U is written -/
theorem CI_put {B : jZ × jI × jL} {Z Z' : jZ} {I I' : jI} {L L' : jL} {U : List Nat} {u : Nat} (h : CI B Z I L U) (hu : u ∈ U) (h1 : Z'.1 = Z.1) (h2 : Z'.2.1 = Z.2.1) (h3 : Z'.2.2.1 = Z.2.2.1) (ho : ∀ a, a ≠ u → sm1 Z I L Z' I' L' a) : CI B Z' I' L' U := by
  have hx : jext Z Z' := fun a c ha => ⟨⟨by rw [h1]; exact ha.1, by rw [h2]; exact ha.2⟩, congrFun h3 a⟩
  have hb : ∀ a c, jk Z' a c → jk Z a c := fun a c ha => ⟨by rw [← h1]; exact ha.1, by rw [← h2]; exact ha.2⟩
  refine ⟨jext_trans h.1 hx, fun a ha hU => ?_, fun a c ha hB hU => ?_⟩
  · have hne : a ≠ u := fun e => hU (e ▸ hu)
    obtain ⟨g1, g2, g3⟩ := h.2.1 a ha hU
    obtain ⟨o1, o2, o3⟩ := ho a hne
    exact ⟨o1.trans g1, o2.trans g2, o3.trans g3⟩
  · have hne : a ≠ u := fun e => hU (e ▸ hu)
    obtain ⟨o1, o2, o3⟩ := ho a hne
    obtain ⟨g1, g2⟩ := h.2.2 a c (hb a c ha) hB hU
    exact ⟨sh1_ext g1 (hb a c ha) hx o1 (fun _ _ q => q), fun j => by rw [o2]; exact g2.1 j, fun j => by rw [o3]; exact g2.2 j⟩
/-- a cell of U is whole: it leaves U -/
theorem CI_done {B : jZ × jI × jL} {Z : jZ} {I : jI} {L : jL} {U : List Nat} {u c : Nat} (h : CI B Z I L (u :: U)) (hk : jk Z u c) (hB : u ∉ B.1.1) (hs : sh1 Z U u c) (hf : fr1 I L u c) : CI B Z I L U := by
  refine ⟨h.1, fun a ha hU => h.2.1 a ha (fun e => ?_), fun a c' ha hB' hU => ?_⟩
  · rcases List.mem_cons.mp e with e | e
    · exact hB (e ▸ ha)
    · exact hU e
  · by_cases e : a = u
    · subst e
      cases jk_one ha hk
      exact ⟨hs, hf⟩
    · obtain ⟨h1, h2⟩ := h.2.2 a c' ha hB' (fun q => (List.mem_cons.mp q).elim e hU)
      exact ⟨sh1_ext h1 ha jext_rfl rfl (fun b _ hb q => hb (List.mem_cons_of_mem _ q)), h2⟩
/-- in the constructor of h0, of kind c, from (Zs, Is, Ls): the fields J and the ints K are done -/
def ST (B : jZ × jI × jL) (Zs : jZ) (Is : jI) (Ls : jL) (U : List Nat) (h0 c : Nat) (J K : List Nat) (Z : jZ) (I : jI) (L : jL) : Prop :=
  CI B Z I L (h0 :: U) ∧ jext Zs Z ∧ (∀ a ∈ Zs.1, a ≠ h0 → sm1 Zs Is Ls Z I L a) ∧ jk Z h0 c ∧ h0 ∉ B.1.1 ∧ (∀ u ∈ U, u ∈ Zs.1)
  ∧ (∀ j ∈ J, ∀ k o, jsh c j = some (k, o) → ∃ b, jr Z h0 j = some b ∧ b ∉ h0 :: U ∧ jk Z b k ∧ ∀ m, o = some m → jlen Z b = m)
  ∧ (∀ j, j ∉ K → I h0 j = 0) ∧ (∀ j ∈ K, I h0 j = jz c j) ∧ ∀ j, L h0 j = 0
/-- what a constructor without parameters does -/
def CTOR (c : Nat) (f : Nat → jZ → jI → jL → (jZ → jI → jL → Prop) → Prop) : Prop :=
  ∀ (B : jZ × jI × jL) (Z : jZ) (I : jI) (L : jL) (U : List Nat) (h0 : Nat) (Q : jZ → jI → jL → Prop), CI B Z I L (h0 :: U) → jk Z h0 c → h0 ∉ B.1.1 → h0 ∉ U → (∀ u ∈ U, u ∈ Z.1) → (∀ j, I h0 j = 0) → (∀ j, L h0 j = 0) →
    (∀ Z' I' L', CI B Z' I' L' U → jext Z Z' → (∀ a ∈ Z.1, a ≠ h0 → sm1 Z I L Z' I' L' a) → Q Z' I' L') → f h0 Z I L Q
theorem ST_start {B : jZ × jI × jL} {Z : jZ} {I : jI} {L : jL} {U : List Nat} {h0 c : Nat} (h : CI B Z I L (h0 :: U)) (hk : jk Z h0 c) (hB : h0 ∉ B.1.1) (hU : ∀ u ∈ U, u ∈ Z.1) (hI : ∀ j, I h0 j = 0) (hL : ∀ j, L h0 j = 0) : ST B Z I L U h0 c [] [] Z I L :=
  ⟨h, jext_rfl, fun _ _ _ => ⟨rfl, rfl, rfl⟩, hk, hB, hU, fun _ h => absurd h List.not_mem_nil, fun j _ => hI j, fun _ h => absurd h List.not_mem_nil, hL⟩
theorem ST_end {B : jZ × jI × jL} {Zs Z : jZ} {Is I : jI} {Ls L : jL} {U : List Nat} {h0 c : Nat} {J K : List Nat} (h : ST B Zs Is Ls U h0 c J K Z I L) (hU : h0 ∉ U) (hJ : ∀ j k o, jsh c j = some (k, o) → j ∈ J) (hc : c < 13) (hK : ∀ j, j ∉ K → jz c j = 0) : CI B Z I L U ∧ jext Zs Z ∧ ∀ a ∈ Zs.1, a ≠ h0 → sm1 Zs Is Ls Z I L a := by
  obtain ⟨h1, h2, h3, h4, h5, h6, h7, h8, h9, h10⟩ := h
  refine ⟨CI_done h1 h4 h5 ⟨fun j k o e => ?_, fun e => by omega, fun e => by omega, fun e => by omega⟩ ⟨fun j => ?_, h10⟩, h2, h3⟩
  · obtain ⟨b, g1, g2, g3⟩ := h7 j (hJ j k o e) k o e
    exact ⟨b, g1, fun q => g2 (List.mem_cons_of_mem _ q), g3⟩
  · by_cases hj : j ∈ K
    · exact h9 j hj
    · rw [h8 j hj, hK j hj]
/-- a reference is put -/
theorem ST_ref {B : jZ × jI × jL} {Zs Z : jZ} {Is I : jI} {Ls L : jL} {U : List Nat} {h0 c : Nat} {J K : List Nat} (j : Nat) {b : Nat} (h : ST B Zs Is Ls U h0 c J K Z I L) (hb : b ∉ h0 :: U) (hs : ∀ k o, jsh c j = some (k, o) → jk Z b k ∧ ∀ m, o = some m → jlen Z b = m) : ST B Zs Is Ls U h0 c (j :: J) K (jpR Z h0 j (some b)) I L := by
  obtain ⟨h1, h2, h3, h4, h5, h6, h7, h8, h9, h10⟩ := h
  have ho : ∀ a, a ≠ h0 → sm1 Z I L (jpR Z h0 j (some b)) I L a := fun a ha => ⟨va_up_ne _ _ ha, rfl, rfl⟩
  refine ⟨CI_put h1 List.mem_cons_self rfl rfl rfl ho, jext_trans h2 jext_putr, fun a ha hne => ?_, h4, h5, h6, fun i hi k o e => ?_, h8, h9, h10⟩
  · obtain ⟨o1, o2, o3⟩ := ho a hne
    obtain ⟨g1, g2, g3⟩ := h3 a ha hne
    exact ⟨o1.trans g1, o2.trans g2, o3.trans g3⟩
  · by_cases hij : i = j
    · subst hij
      obtain ⟨s1, s2⟩ := hs k o e
      exact ⟨b, by show va_up Z.2.2.2 h0 (va_up (Z.2.2.2 h0) i (some b)) h0 i = some b; rw [va_up_self, va_up_self], hb, s1, s2⟩
    · obtain ⟨b', g1, g2, g3, g4⟩ := h7 i ((List.mem_cons.mp hi).resolve_left hij) k o e
      exact ⟨b', by show va_up Z.2.2.2 h0 (va_up (Z.2.2.2 h0) j (some b)) h0 i = some b'; rw [va_up_self, va_up_ne _ _ hij]; exact g1, g2, g3, g4⟩
theorem ST_int {B : jZ × jI × jL} {Zs Z : jZ} {Is I : jI} {Ls L : jL} {U : List Nat} {h0 c : Nat} {J K : List Nat} (j : Nat) {v : Int32} (h : ST B Zs Is Ls U h0 c J K Z I L) (hv : v = jz c j) : ST B Zs Is Ls U h0 c J (j :: K) Z (jpI I h0 j v) L := by
  obtain ⟨h1, h2, h3, h4, h5, h6, h7, h8, h9, h10⟩ := h
  have ho : ∀ a, a ≠ h0 → sm1 Z I L Z (jpI I h0 j v) L a := fun a ha => ⟨rfl, va_up_ne _ _ ha, rfl⟩
  have hI : ∀ i, jpI I h0 j v h0 i = if i = j then v else I h0 i := fun i => by
    show va_up I h0 (upd (I h0) j v) h0 i = _
    rw [va_up_self]; rfl
  refine ⟨CI_put h1 List.mem_cons_self rfl rfl rfl ho, h2, fun a ha hne => ?_, h4, h5, h6, h7, fun i hi => ?_, fun i hi => ?_, h10⟩
  · obtain ⟨o1, o2, o3⟩ := ho a hne
    obtain ⟨g1, g2, g3⟩ := h3 a ha hne
    exact ⟨o1.trans g1, o2.trans g2, o3.trans g3⟩
  · rw [hI, if_neg (fun (e : i = j) => hi (by rw [e]; exact List.mem_cons_self))]
    exact h8 i (fun e => hi (List.mem_cons_of_mem _ e))
  · rw [hI]
    by_cases e : i = j
    · subst e; rw [if_pos rfl]; exact hv
    · rw [if_neg e]; exact h9 i ((List.mem_cons.mp hi).resolve_left e)
theorem ST_long {B : jZ × jI × jL} {Zs Z : jZ} {Is I : jI} {Ls L : jL} {U : List Nat} {h0 c : Nat} {J K : List Nat} (j : Nat) (h : ST B Zs Is Ls U h0 c J K Z I L) : ST B Zs Is Ls U h0 c J K Z I (jpL L h0 j 0) := by
  obtain ⟨h1, h2, h3, h4, h5, h6, h7, h8, h9, h10⟩ := h
  have ho : ∀ a, a ≠ h0 → sm1 Z I L Z I (jpL L h0 j 0) a := fun a ha => ⟨rfl, rfl, va_up_ne _ _ ha⟩
  refine ⟨CI_put h1 List.mem_cons_self rfl rfl rfl ho, h2, fun a ha hne => ?_, h4, h5, h6, h7, h8, h9, fun i => ?_⟩
  · obtain ⟨o1, o2, o3⟩ := ho a hne
    obtain ⟨g1, g2, g3⟩ := h3 a ha hne
    exact ⟨o1.trans g1, o2.trans g2, o3.trans g3⟩
  · show va_up L h0 (vp_updL (L h0) j 0) h0 i = 0
    rw [va_up_self]
    show (if i = j then (0 : Int64) else L h0 i) = 0
    by_cases e : i = j
    · rw [if_pos e]
    · rw [if_neg e]; exact h10 i
/-- a new cell, still in U -/
theorem ST_nw {B : jZ × jI × jL} {Zs Z : jZ} {Is I : jI} {Ls L : jL} {U : List Nat} {h0 c : Nat} {J K : List Nat} {q k m : Nat} (h : ST B Zs Is Ls U h0 c J K Z I L) (hq : q ∉ Z.1) : CI B (jnw Z q k m) (jz0 I q) (jzL L q) (q :: h0 :: U) ∧ jk (jnw Z q k m) q k ∧ jlen (jnw Z q k m) q = m ∧ q ∉ B.1.1 ∧ q ∉ h0 :: U ∧ (∀ u ∈ h0 :: U, u ∈ (jnw Z q k m).1) ∧ (∀ j, jz0 I q q j = 0) ∧ (∀ j, jzL L q q j = 0) ∧ jext Z (jnw Z q k m) ∧ ∀ a ∈ Z.1, sm1 Z I L (jnw Z q k m) (jz0 I q) (jzL L q) a := by
  obtain ⟨h1, h2, h3, h4, h5, h6, h7, h8, h9, h10⟩ := h
  have hU : ∀ u ∈ h0 :: U, u ∈ Z.1 := fun u hu => (List.mem_cons.mp hu).elim (fun e => e ▸ h4.1) (fun e => (h2 u _ ⟨h6 u e, rfl⟩).1.1)
  refine ⟨CI_nw h1 hq, jk_nw, jlen_nw, fun e => hq (h1.1 q _ ⟨e, rfl⟩).1.1, fun e => hq (hU q e), fun u hu => List.mem_append_left _ (hU u hu), fun j => congrFun (va_up_self _ _ _) j, fun j => congrFun (va_up_self _ _ _) j, jext_nw hq, fun a ha => ?_⟩
  have hne : a ≠ q := fun e => hq (e ▸ ha)
  exact ⟨va_up_ne _ _ hne, va_up_ne _ _ hne, va_up_ne _ _ hne⟩
/-- and whole: a primitive array, or what a constructor has left -/
theorem ST_go {B : jZ × jI × jL} {Zs Z Z' : jZ} {Is I I' : jI} {Ls L L' : jL} {U : List Nat} {h0 c : Nat} {J K : List Nat} (h : ST B Zs Is Ls U h0 c J K Z I L) (h1 : CI B Z' I' L' (h0 :: U)) (hx : jext Z Z') (hs : ∀ a ∈ Z.1, sm1 Z I L Z' I' L' a) : ST B Zs Is Ls U h0 c J K Z' I' L' := by
  obtain ⟨-, h2, h3, h4, h5, h6, h7, h8, h9, h10⟩ := h
  obtain ⟨s1, s2, s3⟩ := hs h0 h4.1
  refine ⟨h1, jext_trans h2 hx, fun a ha hne => ?_, (hx _ _ h4).1, h5, h6, fun j hj k o e => ?_, fun j hj => by rw [s2]; exact h8 j hj, fun j hj => by rw [s2]; exact h9 j hj, fun j => by rw [s3]; exact h10 j⟩
  · obtain ⟨o1, o2, o3⟩ := hs a (h2 a _ ⟨ha, rfl⟩).1.1
    obtain ⟨g1, g2, g3⟩ := h3 a ha hne
    exact ⟨o1.trans g1, o2.trans g2, o3.trans g3⟩
  · obtain ⟨b, g1, g2, g3, g4⟩ := h7 j hj k o e
    exact ⟨b, (congrFun s1 j).trans g1, g2, (hx _ _ g3).1, fun m hm => (hx _ _ g3).2.trans (g4 m hm)⟩
theorem jz_arr {k : Nat} (h : 13 ≤ k) (j : Nat) : jz k j = 0 := by
  unfold jz
  split <;> first | rfl | omega
/-- a new array of ints, longs, bytes or booleans goes to field j -/
theorem ST_arr {B : jZ × jI × jL} {Zs Z : jZ} {Is I : jI} {Ls L : jL} {U : List Nat} {h0 c : Nat} {J K : List Nat} (j : Nat) {q k m : Nat} (h : ST B Zs Is Ls U h0 c J K Z I L) (hq : q ∉ Z.1) (hk : 13 ≤ k) (hk2 : k ≤ 16) (hj : ∀ k' o, jsh c j = some (k', o) → k' = k ∧ ∀ m', o = some m' → m' = m) : ST B Zs Is Ls U h0 c (j :: J) K (jpR (jnw Z q k m) h0 j (some q)) (jz0 I q) (jzL L q) := by
  obtain ⟨g1, g2, g3, g4, g5, g6, g7, g8, g9, g10⟩ := ST_nw (k := k) (m := m) h hq
  have g1' := CI_done g1 g2 g4 (sh1_prim hk hk2) ⟨fun j => by rw [g7, jz_arr hk], g8⟩
  refine ST_ref j (ST_go h g1' g9 g10) g5 (fun k' o e => ?_)
  obtain ⟨e1, e2⟩ := hj k' o e
  subst e1
  exact ⟨g2, fun m' hm => by rw [e2 m' hm]; exact g3⟩
theorem sm1_trans {Z Z' Z'' : jZ} {I I' I'' : jI} {L L' L'' : jL} {a : Nat} (h : sm1 Z I L Z' I' L' a) (h' : sm1 Z' I' L' Z'' I'' L'' a) : sm1 Z I L Z'' I'' L'' a := ⟨h'.1.trans h.1, h'.2.1.trans h.2.1, h'.2.2.trans h.2.2⟩
theorem jz_big {c j : Nat} (h : 67 ≤ j) : jz c j = 0 := by
  unfold jz
  split <;> first | rfl | omega
theorem shK {c : Nat} {K : List Nat} (h : ∀ j, j < 67 → j ∉ K → jz c j = 0) : ∀ j, j ∉ K → jz c j = 0 := fun j hj => by
  by_cases hl : j < 67
  · exact h j hl hj
  · exact jz_big (by omega)
theorem shAn {c j k m : Nat} (h : jsh c j = some (k, none)) : ∀ k' o, jsh c j = some (k', o) → k' = k ∧ ∀ m', o = some m' → m' = m := fun k' o e => by
  rw [h] at e
  cases e
  exact ⟨rfl, fun m' hm => by cases hm⟩
theorem shO {Z : jZ} {b c j k : Nat} (h : jsh c j = some (k, none)) (hk : jk Z b k) : ∀ k' o, jsh c j = some (k', o) → jk Z b k' ∧ ∀ m, o = some m → jlen Z b = m := fun k' o e => by
  rw [h] at e
  cases e
  exact ⟨hk, fun m hm => by cases hm⟩
theorem shL {Z : jZ} {b c j k n : Nat} (h : jsh c j = some (k, some n)) (hk : jk Z b k) (hl : jlen Z b = n) : ∀ k' o, jsh c j = some (k', o) → jk Z b k' ∧ ∀ m, o = some m → jlen Z b = m := fun k' o e => by
  rw [h] at e
  cases e
  exact ⟨hk, fun m hm => by cases hm; exact hl⟩
/-- a new object, made whole by its constructor -/
theorem ST_obj {B : jZ × jI × jL} {Zs Z Z1 : jZ} {Is I I1 : jI} {Ls L L1 : jL} {U : List Nat} {h0 c : Nat} {J K : List Nat} {q k : Nat} {f : Nat → jZ → jI → jL → (jZ → jI → jL → Prop) → Prop} (hf : CTOR k f) (h : ST B Zs Is Ls U h0 c J K Z I L) (hq : q ∉ Z.1) (eZ : Z1 = jnw Z q k 0) (eI : I1 = jz0 I q) (eL : L1 = jzL L q) {Q : jZ → jI → jL → Prop} (kk : ∀ Z' I' L', ST B Zs Is Ls U h0 c J K Z' I' L' → jk Z' q k → q ∉ h0 :: U → jext Z Z' → (∀ a ∈ Z.1, sm1 Z I L Z' I' L' a) → Q Z' I' L') : f q Z1 I1 L1 Q := by
  subst eZ; subst eI; subst eL
  obtain ⟨g1, g2, g3, g4, g5, g6, g7, g8, g9, g10⟩ := ST_nw (k := k) (m := 0) h hq
  refine hf B _ _ _ (h0 :: U) q Q g1 g2 g4 g5 g6 g7 g8 (fun Z' I' L' hC' hx' hs' => ?_)
  have hs : ∀ a ∈ Z.1, sm1 Z I L Z' I' L' a := fun a ha => sm1_trans (g10 a ha) (hs' a (g9 a _ ⟨ha, rfl⟩).1.1 (fun e => hq (e ▸ ha)))
  exact kk Z' I' L' (ST_go h hC' (jext_trans g9 hx') hs) (hx' _ _ g2).1 g5 (jext_trans g9 hx') hs
/-- two rows of bytes and the row of them -/
theorem ST_mna {B : jZ × jI × jL} {Zs Z : jZ} {Is I : jI} {Ls L : jL} {U : List Nat} {h0 c : Nat} {J K : List Nat} (j : Nat) {r0 r1 q : Nat} (h : ST B Zs Is Ls U h0 c J K Z I L) (h0' : r0 ∉ Z.1) (h1' : r1 ∉ (jnw Z r0 13 40).1) (hq : q ∉ (jnw (jnw Z r0 13 40) r1 13 40).1) (hj : jsh c j = some (19, some 2)) : ST B Zs Is Ls U h0 c (j :: J) K (jpR (jnw2 Z r0 r1 q) h0 j (some q)) (jz2 I r0 r1 q) (jzL2 L r0 r1 q) := by
  have arr : ∀ {Z : jZ} {I : jI} {L : jL} {r : Nat}, ST B Zs Is Ls U h0 c J K Z I L → r ∉ Z.1 → ST B Zs Is Ls U h0 c J K (jnw Z r 13 40) (jz0 I r) (jzL L r) := by
    intro Z I L r h hr
    obtain ⟨g1, g2, g3, g4, g5, g6, g7, g8, g9, g10⟩ := ST_nw (k := 13) (m := 40) h hr
    exact ST_go h (CI_done g1 g2 g4 (sh1_prim (by decide) (by decide)) ⟨fun j => by rw [g7, jz_arr (by decide)], g8⟩) g9 g10
  have s1 := arr h h0'
  have s2 := arr s1 h1'
  obtain ⟨g1, g2, g3, g4, g5, g6, g7, g8, g9, g10⟩ := ST_nw (k := 19) (m := 2) s2 hq
  have ho : ∀ a, a ≠ q → sm1 (jnw (jnw (jnw Z r0 13 40) r1 13 40) q 19 2) (jz2 I r0 r1 q) (jzL2 L r0 r1 q) (jnw2 Z r0 r1 q) (jz2 I r0 r1 q) (jzL2 L r0 r1 q) a := fun a ha => ⟨(va_up_ne _ _ ha).trans (va_up_ne _ _ ha), rfl, rfl⟩
  have c1 := CI_put (Z' := jnw2 Z r0 r1 q) (I' := jz2 I r0 r1 q) (L' := jzL2 L r0 r1 q) g1 List.mem_cons_self rfl rfl rfl ho
  have kr0 : jk (jnw (jnw Z r0 13 40) r1 13 40) r0 13 ∧ jlen (jnw (jnw Z r0 13 40) r1 13 40) r0 = 40 := ⟨(jext_nw h1' _ _ jk_nw).1, (jext_nw h1' _ _ jk_nw).2.trans jlen_nw⟩
  have kr1 : jk (jnw (jnw Z r0 13 40) r1 13 40) r1 13 ∧ jlen (jnw (jnw Z r0 13 40) r1 13 40) r1 = 40 := ⟨jk_nw, jlen_nw⟩
  have nU : ∀ {Z : jZ} {I : jI} {L : jL} {r : Nat}, ST B Zs Is Ls U h0 c J K Z I L → r ∉ Z.1 → r ∉ h0 :: U := fun h hr => (ST_nw (k := 13) (m := 40) h hr).2.2.2.2.1
  have e0 : jr (jnw2 Z r0 r1 q) q 0 = some r0 := by simp [jr, jnw2, jpR, va_up]
  have e1 : jr (jnw2 Z r0 r1 q) q 1 = some r1 := by simp [jr, jnw2, jpR, va_up]
  have c2 := CI_done c1 (c := 19) g2 g4 ⟨fun j' k' o e => jsh_no (by decide) e, fun e => by omega, fun e => by omega, fun _ i hi => by
      have hi : i < 2 := by rw [show jlen (jnw2 Z r0 r1 q) q = 2 from g3] at hi; exact hi
      rcases (show i = 0 ∨ i = 1 by omega) with rfl | rfl
      · exact ⟨r0, e0, nU h h0', (g9 _ _ kr0.1).1, (g9 _ _ kr0.1).2.trans kr0.2⟩
      · exact ⟨r1, e1, nU s1 h1', (g9 _ _ kr1.1).1, (g9 _ _ kr1.1).2.trans kr1.2⟩⟩ ⟨fun j => by rw [show jz2 I r0 r1 q q j = 0 from g7 j, jz_arr (by decide)], g8⟩
  have s3 := ST_go s2 c2 (Z' := jnw2 Z r0 r1 q) (jext_trans g9 (jext_trans jext_putr jext_putr)) (fun a ha => sm1_trans (g10 a ha) (ho a (fun e => hq (e ▸ ha))))
  exact ST_ref j s3 g5 (shL hj g2 g3)
/-- a new array of pilgrims holds none -/
theorem sh1_pnull {B : jZ × jI × jL} {Zs Z : jZ} {Is I : jI} {Ls L : jL} {U : List Nat} {h0 c : Nat} {J K : List Nat} {q m : Nat} {U' : List Nat} (_ : ST B Zs Is Ls U h0 c J K Z I L) (_ : q ∉ Z.1) : sh1 (jnw Z q 18 m) U' q 18 := by
  refine ⟨fun j k o e => jsh_no (by decide) e, fun _ i b e => ?_, fun e => by omega, fun e => by omega⟩
  · have e2 : va_up Z.2.2.2 q (fun _ => none) q i = some b := e
    rw [va_up_self] at e2; cases e2

set_option maxHeartbeats 4000000 in
set_option maxRecDepth 100000 in
theorem p_X10_init : CTOR 10 f_X10_init := by
  intro B Z I L U h0 Q hC hk hB hU hUZ hI hL hQ
  have s0 := ST_start hC hk hB hUZ hI hL
  unfold f_X10_init
  intro q1 nq1 Z2 eZ2 I3 eI3 L4 eL4
  intro Z5 eZ5
  have s6 := ST_arr 0 (k := 13) (m := 80) s0 nq1 (by decide) (by decide) (shM rfl)
  rw [← eZ2, ← eZ5, ← eI3, ← eL4] at s6
  intro I7 eI7
  have s8 := ST_int 1 s6 (v := 0) rfl
  rw [← eI7] at s8
  obtain ⟨e1, e2, e3⟩ := ST_end s8 hU (shJ (by decide)) (by decide) (shK (by decide))
  exact hQ _ _ _ e1 e2 e3
set_option maxHeartbeats 4000000 in
set_option maxRecDepth 100000 in
theorem p_X9_init : CTOR 9 f_X9_init := by
  intro B Z I L U h0 Q hC hk hB hU hUZ hI hL hQ
  have s0 := ST_start hC hk hB hUZ hI hL
  unfold f_X9_init
  intro q1 nq1 Z2 eZ2 I3 eI3 L4 eL4
  intro Z5 eZ5
  have s6 := ST_arr 0 (k := 14) (m := 24) s0 nq1 (by decide) (by decide) (shM rfl)
  rw [← eZ2, ← eZ5, ← eI3, ← eL4] at s6
  intro q7 nq7 Z8 eZ8 I9 eI9 L10 eL10
  intro Z11 eZ11
  have s12 := ST_arr 1 (k := 14) (m := 24) s6 nq7 (by decide) (by decide) (shM rfl)
  rw [← eZ8, ← eZ11, ← eI9, ← eL10] at s12
  intro q13 nq13 Z14 eZ14 I15 eI15 L16 eL16
  intro Z17 eZ17
  have s18 := ST_arr 2 (k := 14) (m := 24) s12 nq13 (by decide) (by decide) (shM rfl)
  rw [← eZ14, ← eZ17, ← eI15, ← eL16] at s18
  intro q19 nq19 Z20 eZ20 I21 eI21 L22 eL22
  intro Z23 eZ23
  have s24 := ST_arr 3 (k := 14) (m := 24) s18 nq19 (by decide) (by decide) (shM rfl)
  rw [← eZ20, ← eZ23, ← eI21, ← eL22] at s24
  intro q25 nq25 Z26 eZ26 I27 eI27 L28 eL28
  intro Z29 eZ29
  have s30 := ST_arr 4 (k := 14) (m := 24) s24 nq25 (by decide) (by decide) (shM rfl)
  rw [← eZ26, ← eZ29, ← eI27, ← eL28] at s30
  intro I31 eI31
  have s32 := ST_int 5 s30 (v := 0) rfl
  rw [← eI31] at s32
  intro I33 eI33
  have s34 := ST_int 6 s32 (v := 0) rfl
  rw [← eI33] at s34
  intro I35 eI35
  have s36 := ST_int 7 s34 (v := 0) rfl
  rw [← eI35] at s36
  intro I37 eI37
  have s38 := ST_int 8 s36 (v := -1) rfl
  rw [← eI37] at s38
  obtain ⟨e1, e2, e3⟩ := ST_end s38 hU (shJ (by decide)) (by decide) (shK (by decide))
  exact hQ _ _ _ e1 e2 e3
set_option maxHeartbeats 4000000 in
set_option maxRecDepth 100000 in
theorem p_X4_init : CTOR 4 f_X4_init := by
  intro B Z I L U h0 Q hC hk hB hU hUZ hI hL hQ
  have s0 := ST_start hC hk hB hUZ hI hL
  unfold f_X4_init
  intro q1 nq1 Z2 eZ2 I3 eI3 L4 eL4
  intro Z5 eZ5
  have s6 := ST_arr 0 (k := 14) (m := 192) s0 nq1 (by decide) (by decide) (shM rfl)
  rw [← eZ2, ← eZ5, ← eI3, ← eL4] at s6
  intro q7 nq7 Z8 eZ8 I9 eI9 L10 eL10
  intro Z11 eZ11
  have s12 := ST_arr 1 (k := 14) (m := 24) s6 nq7 (by decide) (by decide) (shM rfl)
  rw [← eZ8, ← eZ11, ← eI9, ← eL10] at s12
  intro q13 nq13 Z14 eZ14 I15 eI15 L16 eL16
  intro Z17 eZ17
  have s18 := ST_arr 2 (k := 14) (m := 1536) s12 nq13 (by decide) (by decide) (shM rfl)
  rw [← eZ14, ← eZ17, ← eI15, ← eL16] at s18
  intro I19 eI19
  have s20 := ST_int 3 s18 (v := 0) rfl
  rw [← eI19] at s20
  intro I21 eI21
  have s22 := ST_int 4 s20 (v := 0) rfl
  rw [← eI21] at s22
  obtain ⟨e1, e2, e3⟩ := ST_end s22 hU (shJ (by decide)) (by decide) (shK (by decide))
  exact hQ _ _ _ e1 e2 e3
set_option maxHeartbeats 4000000 in
set_option maxRecDepth 100000 in
theorem p_X3_init : CTOR 3 f_X3_init := by
  intro B Z I L U h0 Q hC hk hB hU hUZ hI hL hQ
  have s0 := ST_start hC hk hB hUZ hI hL
  unfold f_X3_init
  intro q1 nq1 Z2 eZ2 I3 eI3 L4 eL4
  intro Z5 eZ5
  have s6 := ST_arr 0 (k := 14) (m := 40) s0 nq1 (by decide) (by decide) (shM rfl)
  rw [← eZ2, ← eZ5, ← eI3, ← eL4] at s6
  intro q7 nq7 Z8 eZ8 I9 eI9 L10 eL10
  intro Z11 eZ11
  have s12 := ST_arr 1 (k := 14) (m := 40) s6 nq7 (by decide) (by decide) (shM rfl)
  rw [← eZ8, ← eZ11, ← eI9, ← eL10] at s12
  intro q13 nq13 Z14 eZ14 I15 eI15 L16 eL16
  intro Z17 eZ17
  have s18 := ST_arr 2 (k := 14) (m := 41) s12 nq13 (by decide) (by decide) (shM rfl)
  rw [← eZ14, ← eZ17, ← eI15, ← eL16] at s18
  intro I19 eI19
  have s20 := ST_int 3 s18 (v := 0) rfl
  rw [← eI19] at s20
  intro I21 eI21
  have s22 := ST_int 4 s20 (v := 0) rfl
  rw [← eI21] at s22
  intro I23 eI23
  have s24 := ST_int 5 s22 (v := 0) rfl
  rw [← eI23] at s24
  intro I25 eI25
  have s26 := ST_int 6 s24 (v := 0) rfl
  rw [← eI25] at s26
  intro I27 eI27
  have s28 := ST_int 7 s26 (v := 0) rfl
  rw [← eI27] at s28
  intro I29 eI29
  have s30 := ST_int 8 s28 (v := -1) rfl
  rw [← eI29] at s30
  obtain ⟨e1, e2, e3⟩ := ST_end s30 hU (shJ (by decide)) (by decide) (shK (by decide))
  exact hQ _ _ _ e1 e2 e3
set_option maxHeartbeats 4000000 in
set_option maxRecDepth 100000 in
theorem p_X8_init : CTOR 8 f_X8_init := by
  intro B Z I L U h0 Q hC hk hB hU hUZ hI hL hQ
  have s0 := ST_start hC hk hB hUZ hI hL
  unfold f_X8_init
  intro q1 nq1 Z2 eZ2 I3 eI3 L4 eL4
  intro Z5 eZ5
  have s6 := ST_arr 0 (k := 14) (m := 24) s0 nq1 (by decide) (by decide) (shM rfl)
  rw [← eZ2, ← eZ5, ← eI3, ← eL4] at s6
  intro q7 nq7 Z8 eZ8 I9 eI9 L10 eL10
  intro Z11 eZ11
  have s12 := ST_arr 1 (k := 14) (m := 24) s6 nq7 (by decide) (by decide) (shM rfl)
  rw [← eZ8, ← eZ11, ← eI9, ← eL10] at s12
  intro q13 nq13 Z14 eZ14 I15 eI15 L16 eL16
  intro Z17 eZ17
  have s18 := ST_arr 2 (k := 14) (m := 24) s12 nq13 (by decide) (by decide) (shM rfl)
  rw [← eZ14, ← eZ17, ← eI15, ← eL16] at s18
  intro q19 nq19 Z20 eZ20 I21 eI21 L22 eL22
  intro Z23 eZ23
  have s24 := ST_arr 3 (k := 14) (m := 24) s18 nq19 (by decide) (by decide) (shM rfl)
  rw [← eZ20, ← eZ23, ← eI21, ← eL22] at s24
  intro q25 nq25 Z26 eZ26 I27 eI27 L28 eL28
  refine ST_obj p_X4_init s24 nq25 eZ26 eI27 eL28 (fun Z29 I30 L31 s32 kq25 uq25 _ _ => ?_)
  intro Z33 eZ33
  have s34 := ST_ref 4 s32 uq25 (shO rfl kq25)
  rw [← eZ33] at s34
  intro q35 nq35 Z36 eZ36 I37 eI37 L38 eL38
  intro Z39 eZ39
  have s40 := ST_arr 5 (k := 14) (m := 8) s34 nq35 (by decide) (by decide) (shM rfl)
  rw [← eZ36, ← eZ39, ← eI37, ← eL38] at s40
  intro q41 nq41 Z42 eZ42 I43 eI43 L44 eL44
  refine ST_obj p_X3_init s40 nq41 eZ42 eI43 eL44 (fun Z45 I46 L47 s48 kq41 uq41 _ _ => ?_)
  intro Z49 eZ49
  have s50 := ST_ref 6 s48 uq41 (shO rfl kq41)
  rw [← eZ49] at s50
  intro q51 nq51 Z52 eZ52 I53 eI53 L54 eL54
  refine ST_obj p_X3_init s50 nq51 eZ52 eI53 eL54 (fun Z55 I56 L57 s58 kq51 uq51 _ _ => ?_)
  intro Z59 eZ59
  have s60 := ST_ref 7 s58 uq51 (shO rfl kq51)
  rw [← eZ59] at s60
  intro q61 nq61 Z62 eZ62 I63 eI63 L64 eL64
  intro Z65 eZ65
  have s66 := ST_arr 8 (k := 14) (m := 7) s60 nq61 (by decide) (by decide) (shM rfl)
  rw [← eZ62, ← eZ65, ← eI63, ← eL64] at s66
  intro I67 eI67
  have s68 := ST_int 9 s66 (v := 0) rfl
  rw [← eI67] at s68
  obtain ⟨e1, e2, e3⟩ := ST_end s68 hU (shJ (by decide)) (by decide) (shK (by decide))
  exact hQ _ _ _ e1 e2 e3
set_option maxHeartbeats 4000000 in
set_option maxRecDepth 100000 in
theorem p_X7_init : CTOR 7 f_X7_init := by
  intro B Z I L U h0 Q hC hk hB hU hUZ hI hL hQ
  have s0 := ST_start hC hk hB hUZ hI hL
  unfold f_X7_init
  intro q1 nq1 Z2 eZ2 I3 eI3 L4 eL4
  intro Z5 eZ5
  have s6 := ST_arr 0 (k := 15) (m := 64) s0 nq1 (by decide) (by decide) (shAn rfl)
  rw [← eZ2, ← eZ5, ← eI3, ← eL4] at s6
  intro q7 nq7 Z8 eZ8 I9 eI9 L10 eL10
  intro Z11 eZ11
  have s12 := ST_arr 1 (k := 14) (m := 25) s6 nq7 (by decide) (by decide) (shM rfl)
  rw [← eZ8, ← eZ11, ← eI9, ← eL10] at s12
  intro q13 nq13 Z14 eZ14 I15 eI15 L16 eL16
  intro Z17 eZ17
  have s18 := ST_arr 2 (k := 14) (m := 25) s12 nq13 (by decide) (by decide) (shM rfl)
  rw [← eZ14, ← eZ17, ← eI15, ← eL16] at s18
  intro I19 eI19
  have s20 := ST_int 3 s18 (v := 0) rfl
  rw [← eI19] at s20
  intro q21 nq21 Z22 eZ22 I23 eI23 L24 eL24
  intro Z25 eZ25
  have s26 := ST_arr 4 (k := 14) (m := 3) s20 nq21 (by decide) (by decide) (shM rfl)
  rw [← eZ22, ← eZ25, ← eI23, ← eL24] at s26
  intro q27 nq27 Z28 eZ28 I29 eI29 L30 eL30
  intro Z31 eZ31
  have s32 := ST_arr 5 (k := 14) (m := 3) s26 nq27 (by decide) (by decide) (shM rfl)
  rw [← eZ28, ← eZ31, ← eI29, ← eL30] at s32
  intro q33 nq33 Z34 eZ34 I35 eI35 L36 eL36
  intro Z37 eZ37
  have s38 := ST_arr 6 (k := 15) (m := 3) s32 nq33 (by decide) (by decide) (shM rfl)
  rw [← eZ34, ← eZ37, ← eI35, ← eL36] at s38
  intro q39 nq39 Z40 eZ40 I41 eI41 L42 eL42
  intro Z43 eZ43
  have s44 := ST_arr 7 (k := 15) (m := 3) s38 nq39 (by decide) (by decide) (shM rfl)
  rw [← eZ40, ← eZ43, ← eI41, ← eL42] at s44
  intro I45 eI45
  have s46 := ST_int 8 s44 (v := 0) rfl
  rw [← eI45] at s46
  intro I47 eI47
  have s48 := ST_int 9 s46 (v := 0) rfl
  rw [← eI47] at s48
  obtain ⟨e1, e2, e3⟩ := ST_end s48 hU (shJ (by decide)) (by decide) (shK (by decide))
  exact hQ _ _ _ e1 e2 e3
set_option maxHeartbeats 4000000 in
set_option maxRecDepth 100000 in
theorem p_X0_init : CTOR 0 f_X0_init := by
  intro B Z I L U h0 Q hC hk hB hU hUZ hI hL hQ
  have s0 := ST_start hC hk hB hUZ hI hL
  unfold f_X0_init
  intro q1 nq1 Z2 eZ2 I3 eI3 L4 eL4
  refine ST_obj p_X7_init s0 nq1 eZ2 eI3 eL4 (fun Z5 I6 L7 s8 kq1 uq1 _ _ => ?_)
  intro Z9 eZ9
  have s10 := ST_ref 0 s8 uq1 (shO rfl kq1)
  rw [← eZ9] at s10
  intro q11 nq11 Z12 eZ12 I13 eI13 L14 eL14
  intro Z15 eZ15
  have s16 := ST_arr 1 (k := 15) (m := 400) s10 nq11 (by decide) (by decide) (shM rfl)
  rw [← eZ12, ← eZ15, ← eI13, ← eL14] at s16
  intro L17 eL17
  have s18 := ST_long 2 s16
  rw [← eL17] at s18
  obtain ⟨e1, e2, e3⟩ := ST_end s18 hU (shJ (by decide)) (by decide) (shK (by decide))
  exact hQ _ _ _ e1 e2 e3
set_option maxHeartbeats 4000000 in
set_option maxRecDepth 100000 in
theorem p_X1_init : CTOR 1 f_X1_init := by
  intro B Z I L U h0 Q hC hk hB hU hUZ hI hL hQ
  have s0 := ST_start hC hk hB hUZ hI hL
  unfold f_X1_init
  intro q1 nq1 Z2 eZ2 I3 eI3 L4 eL4
  intro Z5 eZ5
  have s6 := ST_arr 0 (k := 16) (m := 6) s0 nq1 (by decide) (by decide) (shM rfl)
  rw [← eZ2, ← eZ5, ← eI3, ← eL4] at s6
  intro q7 nq7 Z8 eZ8 I9 eI9 L10 eL10
  intro Z11 eZ11
  have s12 := ST_arr 1 (k := 15) (m := 6) s6 nq7 (by decide) (by decide) (shM rfl)
  rw [← eZ8, ← eZ11, ← eI9, ← eL10] at s12
  intro q13 nq13 Z14 eZ14 I15 eI15 L16 eL16
  intro Z17 eZ17
  have s18 := ST_arr 2 (k := 14) (m := 6) s12 nq13 (by decide) (by decide) (shM rfl)
  rw [← eZ14, ← eZ17, ← eI15, ← eL16] at s18
  intro q19 nq19 Z20 eZ20 I21 eI21 L22 eL22
  intro Z23 eZ23
  have s24 := ST_arr 3 (k := 14) (m := 6) s18 nq19 (by decide) (by decide) (shM rfl)
  rw [← eZ20, ← eZ23, ← eI21, ← eL22] at s24
  intro q25 nq25 Z26 eZ26 I27 eI27 L28 eL28
  intro Z29 eZ29
  have s30 := ST_arr 4 (k := 14) (m := 24) s24 nq25 (by decide) (by decide) (shM rfl)
  rw [← eZ26, ← eZ29, ← eI27, ← eL28] at s30
  intro q31 nq31 Z32 eZ32 I33 eI33 L34 eL34
  intro Z35 eZ35
  have s36 := ST_arr 5 (k := 14) (m := 24) s30 nq31 (by decide) (by decide) (shM rfl)
  rw [← eZ32, ← eZ35, ← eI33, ← eL34] at s36
  intro I37 eI37
  have s38 := ST_int 6 s36 (v := 0) rfl
  rw [← eI37] at s38
  intro I39 eI39
  have s40 := ST_int 7 s38 (v := 0) rfl
  rw [← eI39] at s40
  intro I41 eI41
  have s42 := ST_int 8 s40 (v := 0) rfl
  rw [← eI41] at s42
  intro I43 eI43
  have s44 := ST_int 9 s42 (v := 0) rfl
  rw [← eI43] at s44
  obtain ⟨e1, e2, e3⟩ := ST_end s44 hU (shJ (by decide)) (by decide) (shK (by decide))
  exact hQ _ _ _ e1 e2 e3
set_option maxHeartbeats 4000000 in
set_option maxRecDepth 100000 in
theorem p_X2_init : CTOR 2 f_X2_init := by
  intro B Z I L U h0 Q hC hk hB hU hUZ hI hL hQ
  have s0 := ST_start hC hk hB hUZ hI hL
  unfold f_X2_init
  intro q1 nq1 Z2 eZ2 I3 eI3 L4 eL4
  intro Z5 eZ5
  have s6 := ST_arr 0 (k := 14) (m := 24) s0 nq1 (by decide) (by decide) (shM rfl)
  rw [← eZ2, ← eZ5, ← eI3, ← eL4] at s6
  intro q7 nq7 Z8 eZ8 I9 eI9 L10 eL10
  intro Z11 eZ11
  have s12 := ST_arr 1 (k := 14) (m := 24) s6 nq7 (by decide) (by decide) (shM rfl)
  rw [← eZ8, ← eZ11, ← eI9, ← eL10] at s12
  intro q13 nq13 Z14 eZ14 I15 eI15 L16 eL16
  intro Z17 eZ17
  have s18 := ST_arr 2 (k := 14) (m := 192) s12 nq13 (by decide) (by decide) (shM rfl)
  rw [← eZ14, ← eZ17, ← eI15, ← eL16] at s18
  intro q19 nq19 Z20 eZ20 I21 eI21 L22 eL22
  intro Z23 eZ23
  have s24 := ST_arr 3 (k := 14) (m := 8) s18 nq19 (by decide) (by decide) (shM rfl)
  rw [← eZ20, ← eZ23, ← eI21, ← eL22] at s24
  intro q25 nq25 Z26 eZ26 I27 eI27 L28 eL28
  intro Z29 eZ29
  have s30 := ST_arr 4 (k := 14) (m := 6) s24 nq25 (by decide) (by decide) (shM rfl)
  rw [← eZ26, ← eZ29, ← eI27, ← eL28] at s30
  intro q31 nq31 Z32 eZ32 I33 eI33 L34 eL34
  intro Z35 eZ35
  have s36 := ST_arr 5 (k := 14) (m := 6) s30 nq31 (by decide) (by decide) (shM rfl)
  rw [← eZ32, ← eZ35, ← eI33, ← eL34] at s36
  intro q37 nq37 Z38 eZ38 I39 eI39 L40 eL40
  intro Z41 eZ41
  have s42 := ST_arr 6 (k := 14) (m := 6) s36 nq37 (by decide) (by decide) (shM rfl)
  rw [← eZ38, ← eZ41, ← eI39, ← eL40] at s42
  intro I43 eI43
  have s44 := ST_int 7 s42 (v := 0) rfl
  rw [← eI43] at s44
  intro I45 eI45
  have s46 := ST_int 8 s44 (v := 0) rfl
  rw [← eI45] at s46
  obtain ⟨e1, e2, e3⟩ := ST_end s46 hU (shJ (by decide)) (by decide) (shK (by decide))
  exact hQ _ _ _ e1 e2 e3
set_option maxHeartbeats 4000000 in
set_option maxRecDepth 100000 in
theorem p_X11_init : CTOR 11 f_X11_init := by
  intro B Z I L U h0 Q hC hk hB hU hUZ hI hL hQ
  have s0 := ST_start hC hk hB hUZ hI hL
  unfold f_X11_init
  intro q1 nq1 Z2 eZ2 I3 eI3 L4 eL4
  refine ST_obj p_X10_init s0 nq1 eZ2 eI3 eL4 (fun Z5 I6 L7 s8 kq1 uq1 _ _ => ?_)
  intro Z9 eZ9
  have s10 := ST_ref 0 s8 uq1 (shO rfl kq1)
  rw [← eZ9] at s10
  intro q11 nq11 Z12 eZ12 I13 eI13 L14 eL14
  refine ST_obj p_X9_init s10 nq11 eZ12 eI13 eL14 (fun Z15 I16 L17 s18 kq11 uq11 _ _ => ?_)
  intro Z19 eZ19
  have s20 := ST_ref 1 s18 uq11 (shO rfl kq11)
  rw [← eZ19] at s20
  intro q21 nq21 Z22 eZ22 I23 eI23 L24 eL24
  refine ST_obj p_X8_init s20 nq21 eZ22 eI23 eL24 (fun Z25 I26 L27 s28 kq21 uq21 _ _ => ?_)
  intro Z29 eZ29
  have s30 := ST_ref 2 s28 uq21 (shO rfl kq21)
  rw [← eZ29] at s30
  intro q31 nq31 Z32 eZ32 I33 eI33 L34 eL34
  intro Z35 eZ35
  obtain ⟨g361, g362, g363, g364, g365, g366, g367, g368, g369, g3610⟩ := ST_nw (k := 18) (m := 6) s30 nq31
  have g36c := CI_done g361 g362 g364 (sh1_pnull s30 nq31) ⟨fun j => by rw [g367, jz_arr (by decide)], g368⟩
  have s36 := ST_ref 3 (ST_go s30 g36c g369 g3610) g365 (shL rfl g362 g363)
  rw [← eZ32, ← eZ35, ← eI33, ← eL34] at s36
  intro I37 eI37
  have s38 := ST_int 4 s36 (v := 0) rfl
  rw [← eI37] at s38
  intro q39 nq39 Z40 eZ40 I41 eI41 L42 eL42
  intro Z43 eZ43
  have s44 := ST_arr 5 (k := 14) (m := 8) s38 nq39 (by decide) (by decide) (shM rfl)
  rw [← eZ40, ← eZ43, ← eI41, ← eL42] at s44
  intro q45 nq45 Z46 eZ46 I47 eI47 L48 eL48
  intro Z49 eZ49
  have s50 := ST_arr 6 (k := 14) (m := 8) s44 nq45 (by decide) (by decide) (shM rfl)
  rw [← eZ46, ← eZ49, ← eI47, ← eL48] at s50
  intro q51 nq51 Z52 eZ52 I53 eI53 L54 eL54
  intro Z55 eZ55
  have s56 := ST_arr 7 (k := 14) (m := 8) s50 nq51 (by decide) (by decide) (shM rfl)
  rw [← eZ52, ← eZ55, ← eI53, ← eL54] at s56
  intro q57 nq57 Z58 eZ58 I59 eI59 L60 eL60
  rw [eZ58, eI59, eL60]
  obtain ⟨z1, z2, z3, z4, z5, z6, z7, z8, z9, z10⟩ := ST_nw (k := 17) (m := 2) s56 nq57
  have w0 := ST_start z1 z2 z4 z6 z7 z8
  intro q61 nq61 Z64 eZ64 I65 eI65 L66 eL66
  refine ST_obj p_X2_init w0 nq61 eZ64 eI65 eL66 (fun Z67 I68 L69 w1 kq61 uq61 xq61 mq61 => ?_)
  intro Z70 eZ70
  have w2 := ST_ref 0 (b := q61) w1 uq61 (fun k o e => jsh_no (by decide) e)
  rw [show jpR Z67 q57 0 (some q61) = Z70 from eZ70.symm] at w2
  have a0 : jr Z70 q57 0 = some q61 := by rw [eZ70]; exact (congrFun (va_up_self _ _ _) _).trans (va_up_self _ _ _)
  have b0 : jk Z70 q61 2 := by rw [eZ70]; exact kq61
  intro q62 nq62 Z71 eZ71 I72 eI72 L73 eL73
  refine ST_obj p_X2_init w2 nq62 eZ71 eI72 eL73 (fun Z74 I75 L76 w3 kq62 uq62 xq62 mq62 => ?_)
  intro Z77 eZ77
  have w4 := ST_ref 1 (b := q62) w3 uq62 (fun k o e => jsh_no (by decide) e)
  rw [show jpR Z74 q57 1 (some q62) = Z77 from eZ77.symm] at w4
  have a1 : jr Z77 q57 1 = some q62 := by rw [eZ77]; exact (congrFun (va_up_self _ _ _) _).trans (va_up_self _ _ _)
  have a0 : jr Z77 q57 0 = some q61 := by rw [eZ77]; exact ((congrFun (va_up_self _ _ _) _).trans (va_up_ne _ _ (by decide))).trans ((congrFun (mq62 q57 w2.2.2.2.1.1).1 0).trans a0)
  have b1 : jk Z77 q62 2 := by rw [eZ77]; exact kq62
  have b0 : jk Z77 q61 2 := by rw [eZ77]; exact (xq62 _ _ b0).1
  have lq : jlen Z77 q57 = 2 := (w4.2.1 _ _ z2).2.trans z3
  have cK := CI_done w4.1 (c := 17) w4.2.2.2.1 z4 ⟨fun j k o e => jsh_no (by decide) e, fun e => by omega, fun _ i hi => by
      rw [lq] at hi
      rcases (show i = 0 ∨ i = 1 by omega) with rfl | rfl
      · exact ⟨q61, a0, fun e => uq61 (List.mem_cons_of_mem _ e), b0⟩
      · exact ⟨q62, a1, fun e => uq62 (List.mem_cons_of_mem _ e), b1⟩, fun e => by omega⟩ ⟨fun j => by rw [w4.2.2.2.2.2.2.2.1 j List.not_mem_nil, jz_arr (by decide)], w4.2.2.2.2.2.2.2.2.2⟩
  have s63 := ST_go s56 cK (jext_trans z9 w4.2.1) (fun a ha => sm1_trans (z10 a ha) (w4.2.2.1 a (z9 a _ ⟨ha, rfl⟩).1.1 (fun e => nq57 (e ▸ ha))))
  intro Z78 eZ78
  have s79 := ST_ref 8 s63 z5 (shL rfl w4.2.2.2.1 lq)
  rw [← eZ78] at s79
  intro q80 nq80 Z81 eZ81 I82 eI82 L83 eL83
  refine ST_obj p_X0_init s79 nq80 eZ81 eI82 eL83 (fun Z84 I85 L86 s87 kq80 uq80 _ _ => ?_)
  intro Z88 eZ88
  have s89 := ST_ref 9 s87 uq80 (shO rfl kq80)
  rw [← eZ88] at s89
  intro q90 nq90 Z91 eZ91 I92 eI92 L93 eL93
  refine ST_obj p_X1_init s89 nq90 eZ91 eI92 eL93 (fun Z94 I95 L96 s97 kq90 uq90 _ _ => ?_)
  intro Z98 eZ98
  have s99 := ST_ref 10 s97 uq90 (shO rfl kq90)
  rw [← eZ98] at s99
  intro q100 nq100 Z101 eZ101 I102 eI102 L103 eL103
  intro Z104 eZ104
  have s105 := ST_arr 11 (k := 14) (m := 3) s99 nq100 (by decide) (by decide) (shM rfl)
  rw [← eZ101, ← eZ104, ← eI102, ← eL103] at s105
  intro q106 nq106 Z107 eZ107 I108 eI108 L109 eL109
  intro Z110 eZ110
  have s111 := ST_arr 12 (k := 14) (m := 3) s105 nq106 (by decide) (by decide) (shM rfl)
  rw [← eZ107, ← eZ110, ← eI108, ← eL109] at s111
  intro q112 nq112 Z113 eZ113 I114 eI114 L115 eL115
  intro Z116 eZ116
  have s117 := ST_arr 13 (k := 14) (m := 21) s111 nq112 (by decide) (by decide) (shM rfl)
  rw [← eZ113, ← eZ116, ← eI114, ← eL115] at s117
  intro q118 nq118 Z119 eZ119 I120 eI120 L121 eL121
  intro Z122 eZ122
  have s123 := ST_arr 14 (k := 14) (m := 21) s117 nq118 (by decide) (by decide) (shM rfl)
  rw [← eZ119, ← eZ122, ← eI120, ← eL121] at s123
  intro q124 nq124 Z125 eZ125 I126 eI126 L127 eL127
  intro Z128 eZ128
  have s129 := ST_arr 15 (k := 15) (m := 26) s123 nq124 (by decide) (by decide) (shM rfl)
  rw [← eZ125, ← eZ128, ← eI126, ← eL127] at s129
  intro I130 eI130
  have s131 := ST_int 16 s129 (v := 0) rfl
  rw [← eI130] at s131
  obtain ⟨e1, e2, e3⟩ := ST_end s131 hU (shJ (by decide)) (by decide) (shK (by decide))
  exact hQ _ _ _ e1 e2 e3
set_option maxHeartbeats 4000000 in
set_option maxRecDepth 100000 in
theorem p_X12_init : CTOR 12 f_X12_init := by
  intro B Z I L U h0 Q hC hk hB hU hUZ hI hL hQ
  have s0 := ST_start hC hk hB hUZ hI hL
  unfold f_X12_init
  intro q1 nq1 Z2 eZ2 I3 eI3 L4 eL4
  intro Z5 eZ5
  have s6 := ST_arr 1 (k := 14) (m := 24) s0 nq1 (by decide) (by decide) (shM rfl)
  rw [← eZ2, ← eZ5, ← eI3, ← eL4] at s6
  intro q7 nq7 Z8 eZ8 I9 eI9 L10 eL10
  intro Z11 eZ11
  have s12 := ST_arr 2 (k := 14) (m := 24) s6 nq7 (by decide) (by decide) (shM rfl)
  rw [← eZ8, ← eZ11, ← eI9, ← eL10] at s12
  intro q13 nq13 Z14 eZ14 I15 eI15 L16 eL16
  intro Z17 eZ17
  have s18 := ST_arr 3 (k := 14) (m := 24) s12 nq13 (by decide) (by decide) (shM rfl)
  rw [← eZ14, ← eZ17, ← eI15, ← eL16] at s18
  intro q19 nq19 Z20 eZ20 I21 eI21 L22 eL22
  intro Z23 eZ23
  have s24 := ST_arr 4 (k := 16) (m := 24) s18 nq19 (by decide) (by decide) (shM rfl)
  rw [← eZ20, ← eZ23, ← eI21, ← eL22] at s24
  intro q25 nq25 Z26 eZ26 I27 eI27 L28 eL28
  intro Z29 eZ29
  have s30 := ST_arr 5 (k := 14) (m := 192) s24 nq25 (by decide) (by decide) (shM rfl)
  rw [← eZ26, ← eZ29, ← eI27, ← eL28] at s30
  intro q31 nq31 Z32 eZ32 I33 eI33 L34 eL34
  intro Z35 eZ35
  have s36 := ST_arr 6 (k := 16) (m := 64) s30 nq31 (by decide) (by decide) (shM rfl)
  rw [← eZ32, ← eZ35, ← eI33, ← eL34] at s36
  intro q37 nq37 Z38 eZ38 I39 eI39 L40 eL40
  intro Z41 eZ41
  have s42 := ST_arr 9 (k := 14) (m := 6) s36 nq37 (by decide) (by decide) (shM rfl)
  rw [← eZ38, ← eZ41, ← eI39, ← eL40] at s42
  intro q43 nq43 Z44 eZ44 I45 eI45 L46 eL46
  intro Z47 eZ47
  have s48 := ST_arr 10 (k := 14) (m := 6) s42 nq43 (by decide) (by decide) (shM rfl)
  rw [← eZ44, ← eZ47, ← eI45, ← eL46] at s48
  intro q49 nq49 Z50 eZ50 I51 eI51 L52 eL52
  intro Z53 eZ53
  have s54 := ST_arr 11 (k := 14) (m := 6) s48 nq49 (by decide) (by decide) (shM rfl)
  rw [← eZ50, ← eZ53, ← eI51, ← eL52] at s54
  intro q55 nq55 Z56 eZ56 I57 eI57 L58 eL58
  intro Z59 eZ59
  have s60 := ST_arr 12 (k := 14) (m := 6) s54 nq55 (by decide) (by decide) (shM rfl)
  rw [← eZ56, ← eZ59, ← eI57, ← eL58] at s60
  intro q61 nq61 Z62 eZ62 I63 eI63 L64 eL64
  intro Z65 eZ65
  have s66 := ST_arr 13 (k := 14) (m := 6) s60 nq61 (by decide) (by decide) (shM rfl)
  rw [← eZ62, ← eZ65, ← eI63, ← eL64] at s66
  intro q67 nq67 Z68 eZ68 I69 eI69 L70 eL70
  intro Z71 eZ71
  have s72 := ST_arr 14 (k := 14) (m := 6) s66 nq67 (by decide) (by decide) (shM rfl)
  rw [← eZ68, ← eZ71, ← eI69, ← eL70] at s72
  intro q73 nq73 Z74 eZ74 I75 eI75 L76 eL76
  intro Z77 eZ77
  have s78 := ST_arr 15 (k := 14) (m := 6) s72 nq73 (by decide) (by decide) (shM rfl)
  rw [← eZ74, ← eZ77, ← eI75, ← eL76] at s78
  intro q79 nq79 Z80 eZ80 I81 eI81 L82 eL82
  intro Z83 eZ83
  have s84 := ST_arr 16 (k := 14) (m := 6) s78 nq79 (by decide) (by decide) (shM rfl)
  rw [← eZ80, ← eZ83, ← eI81, ← eL82] at s84
  intro q85 nq85 Z86 eZ86 I87 eI87 L88 eL88
  intro Z89 eZ89
  have s90 := ST_arr 17 (k := 14) (m := 8) s84 nq85 (by decide) (by decide) (shM rfl)
  rw [← eZ86, ← eZ89, ← eI87, ← eL88] at s90
  intro q91 nq91 Z92 eZ92 I93 eI93 L94 eL94
  intro Z95 eZ95
  have s96 := ST_arr 18 (k := 13) (m := 80) s90 nq91 (by decide) (by decide) (shM rfl)
  rw [← eZ92, ← eZ95, ← eI93, ← eL94] at s96
  intro q97 nq97 Z98 eZ98 I99 eI99 L100 eL100
  intro Z101 eZ101
  have s102 := ST_arr 20 (k := 15) (m := 40) s96 nq97 (by decide) (by decide) (shM rfl)
  rw [← eZ98, ← eZ101, ← eI99, ← eL100] at s102
  intro q103 nq103 Z104 eZ104 I105 eI105 L106 eL106
  intro Z107 eZ107
  have s108 := ST_arr 28 (k := 14) (m := 120) s102 nq103 (by decide) (by decide) (shM rfl)
  rw [← eZ104, ← eZ107, ← eI105, ← eL106] at s108
  intro q109 q110 q111 nq109 nq110 nq111 Z112 eZ112 I113 eI113 L114 eL114
  intro Z115 eZ115
  have s116 := ST_mna 29 s108 nq109 nq110 nq111 rfl
  rw [← eZ112, ← eZ115, ← eI113, ← eL114] at s116
  intro q117 nq117 Z118 eZ118 I119 eI119 L120 eL120
  intro Z121 eZ121
  have s122 := ST_arr 30 (k := 14) (m := 2) s116 nq117 (by decide) (by decide) (shM rfl)
  rw [← eZ118, ← eZ121, ← eI119, ← eL120] at s122
  intro I123 eI123
  have s124 := ST_int 31 s122 (v := -1) rfl
  rw [← eI123] at s124
  intro q125 nq125 Z126 eZ126 I127 eI127 L128 eL128
  intro Z129 eZ129
  have s130 := ST_arr 35 (k := 14) (m := 8) s124 nq125 (by decide) (by decide) (shM rfl)
  rw [← eZ126, ← eZ129, ← eI127, ← eL128] at s130
  intro q131 nq131 Z132 eZ132 I133 eI133 L134 eL134
  intro Z135 eZ135
  have s136 := ST_arr 36 (k := 15) (m := 8) s130 nq131 (by decide) (by decide) (shM rfl)
  rw [← eZ132, ← eZ135, ← eI133, ← eL134] at s136
  intro q137 nq137 Z138 eZ138 I139 eI139 L140 eL140
  intro Z141 eZ141
  have s142 := ST_arr 37 (k := 14) (m := 75) s136 nq137 (by decide) (by decide) (shM rfl)
  rw [← eZ138, ← eZ141, ← eI139, ← eL140] at s142
  intro q143 nq143 Z144 eZ144 I145 eI145 L146 eL146
  intro Z147 eZ147
  have s148 := ST_arr 38 (k := 14) (m := 75) s142 nq143 (by decide) (by decide) (shM rfl)
  rw [← eZ144, ← eZ147, ← eI145, ← eL146] at s148
  intro I149 eI149
  have s150 := ST_int 39 s148 (v := -1) rfl
  rw [← eI149] at s150
  intro q151 nq151 Z152 eZ152 I153 eI153 L154 eL154
  intro Z155 eZ155
  have s156 := ST_arr 40 (k := 14) (m := 25000) s150 nq151 (by decide) (by decide) (shM rfl)
  rw [← eZ152, ← eZ155, ← eI153, ← eL154] at s156
  intro q157 nq157 Z158 eZ158 I159 eI159 L160 eL160
  intro Z161 eZ161
  have s162 := ST_arr 44 (k := 14) (m := 24) s156 nq157 (by decide) (by decide) (shM rfl)
  rw [← eZ158, ← eZ161, ← eI159, ← eL160] at s162
  intro q163 nq163 Z164 eZ164 I165 eI165 L166 eL166
  intro Z167 eZ167
  have s168 := ST_arr 45 (k := 14) (m := 484000) s162 nq163 (by decide) (by decide) (shM rfl)
  rw [← eZ164, ← eZ167, ← eI165, ← eL166] at s168
  intro q169 nq169 Z170 eZ170 I171 eI171 L172 eL172
  intro Z173 eZ173
  have s174 := ST_arr 53 (k := 14) (m := 1536) s168 nq169 (by decide) (by decide) (shM rfl)
  rw [← eZ170, ← eZ173, ← eI171, ← eL172] at s174
  intro q175 nq175 Z176 eZ176 I177 eI177 L178 eL178
  intro Z179 eZ179
  have s180 := ST_arr 54 (k := 14) (m := 192) s174 nq175 (by decide) (by decide) (shM rfl)
  rw [← eZ176, ← eZ179, ← eI177, ← eL178] at s180
  intro q181 nq181 Z182 eZ182 I183 eI183 L184 eL184
  intro Z185 eZ185
  have s186 := ST_arr 55 (k := 14) (m := 144) s180 nq181 (by decide) (by decide) (shM rfl)
  rw [← eZ182, ← eZ185, ← eI183, ← eL184] at s186
  intro q187 nq187 Z188 eZ188 I189 eI189 L190 eL190
  intro Z191 eZ191
  have s192 := ST_arr 56 (k := 14) (m := 6) s186 nq187 (by decide) (by decide) (shM rfl)
  rw [← eZ188, ← eZ191, ← eI189, ← eL190] at s192
  intro q193 nq193 Z194 eZ194 I195 eI195 L196 eL196
  intro Z197 eZ197
  have s198 := ST_arr 57 (k := 14) (m := 6) s192 nq193 (by decide) (by decide) (shM rfl)
  rw [← eZ194, ← eZ197, ← eI195, ← eL196] at s198
  intro q199 nq199 Z200 eZ200 I201 eI201 L202 eL202
  intro Z203 eZ203
  have s204 := ST_arr 58 (k := 14) (m := 6) s198 nq199 (by decide) (by decide) (shM rfl)
  rw [← eZ200, ← eZ203, ← eI201, ← eL202] at s204
  intro q205 nq205 Z206 eZ206 I207 eI207 L208 eL208
  intro Z209 eZ209
  have s210 := ST_arr 59 (k := 14) (m := 24) s204 nq205 (by decide) (by decide) (shM rfl)
  rw [← eZ206, ← eZ209, ← eI207, ← eL208] at s210
  intro q211 nq211 Z212 eZ212 I213 eI213 L214 eL214
  intro Z215 eZ215
  have s216 := ST_arr 61 (k := 14) (m := 6) s210 nq211 (by decide) (by decide) (shM rfl)
  rw [← eZ212, ← eZ215, ← eI213, ← eL214] at s216
  intro q217 nq217 Z218 eZ218 I219 eI219 L220 eL220
  intro Z221 eZ221
  have s222 := ST_arr 62 (k := 14) (m := 532) s216 nq217 (by decide) (by decide) (shM rfl)
  rw [← eZ218, ← eZ221, ← eI219, ← eL220] at s222
  intro q223 nq223 Z224 eZ224 I225 eI225 L226 eL226
  intro Z227 eZ227
  have s228 := ST_arr 63 (k := 16) (m := 2) s222 nq223 (by decide) (by decide) (shM rfl)
  rw [← eZ224, ← eZ227, ← eI225, ← eL226] at s228
  intro q229 nq229 Z230 eZ230 I231 eI231 L232 eL232
  intro Z233 eZ233
  have s234 := ST_arr 64 (k := 14) (m := 2) s228 nq229 (by decide) (by decide) (shM rfl)
  rw [← eZ230, ← eZ233, ← eI231, ← eL232] at s234
  intro q235 nq235 Z236 eZ236 I237 eI237 L238 eL238
  intro Z239 eZ239
  have s240 := ST_arr 65 (k := 14) (m := 2) s234 nq235 (by decide) (by decide) (shM rfl)
  rw [← eZ236, ← eZ239, ← eI237, ← eL238] at s240
  obtain ⟨e1, e2, e3⟩ := ST_end s240 hU (shJ (by decide)) (by decide) (shK (by decide))
  exact hQ _ _ _ e1 e2 e3
set_option maxHeartbeats 4000000 in
set_option maxRecDepth 100000 in
theorem cj_X10_init {v0 : Nat} {Z : jZ} {I : jI} {L : jL} {Q1 Q2 Q3 : jZ → jI → jL → Prop} (h1 : f_X10_init v0 Z I L Q1) (h2 : f_X10_init v0 Z I L Q2) (hq : ∀ (Z : jZ) (I : jI) (L : jL), Q1 Z I L → Q2 Z I L → Q3 Z I L) : f_X10_init v0 Z I L Q3 := by
  unfold f_X10_init at h1 h2 ⊢
  intro q1
  specialize h1 q1
  specialize h2 q1
  intro e
  specialize h1 e
  specialize h2 e
  intro Z2
  specialize h1 Z2
  specialize h2 Z2
  intro e
  specialize h1 e
  specialize h2 e
  intro I3
  specialize h1 I3
  specialize h2 I3
  intro e
  specialize h1 e
  specialize h2 e
  intro L4
  specialize h1 L4
  specialize h2 L4
  intro e
  specialize h1 e
  specialize h2 e
  intro Z6
  specialize h1 Z6
  specialize h2 Z6
  intro e
  specialize h1 e
  specialize h2 e
  intro I8
  specialize h1 I8
  specialize h2 I8
  intro e
  specialize h1 e
  specialize h2 e
  exact hq _ _ _ h1 h2
set_option maxHeartbeats 4000000 in
set_option maxRecDepth 100000 in
theorem cj_X9_init {v0 : Nat} {Z : jZ} {I : jI} {L : jL} {Q1 Q2 Q3 : jZ → jI → jL → Prop} (h1 : f_X9_init v0 Z I L Q1) (h2 : f_X9_init v0 Z I L Q2) (hq : ∀ (Z : jZ) (I : jI) (L : jL), Q1 Z I L → Q2 Z I L → Q3 Z I L) : f_X9_init v0 Z I L Q3 := by
  unfold f_X9_init at h1 h2 ⊢
  intro q1
  specialize h1 q1
  specialize h2 q1
  intro e
  specialize h1 e
  specialize h2 e
  intro Z2
  specialize h1 Z2
  specialize h2 Z2
  intro e
  specialize h1 e
  specialize h2 e
  intro I3
  specialize h1 I3
  specialize h2 I3
  intro e
  specialize h1 e
  specialize h2 e
  intro L4
  specialize h1 L4
  specialize h2 L4
  intro e
  specialize h1 e
  specialize h2 e
  intro Z6
  specialize h1 Z6
  specialize h2 Z6
  intro e
  specialize h1 e
  specialize h2 e
  intro q8
  specialize h1 q8
  specialize h2 q8
  intro e
  specialize h1 e
  specialize h2 e
  intro Z9
  specialize h1 Z9
  specialize h2 Z9
  intro e
  specialize h1 e
  specialize h2 e
  intro I10
  specialize h1 I10
  specialize h2 I10
  intro e
  specialize h1 e
  specialize h2 e
  intro L11
  specialize h1 L11
  specialize h2 L11
  intro e
  specialize h1 e
  specialize h2 e
  intro Z13
  specialize h1 Z13
  specialize h2 Z13
  intro e
  specialize h1 e
  specialize h2 e
  intro q15
  specialize h1 q15
  specialize h2 q15
  intro e
  specialize h1 e
  specialize h2 e
  intro Z16
  specialize h1 Z16
  specialize h2 Z16
  intro e
  specialize h1 e
  specialize h2 e
  intro I17
  specialize h1 I17
  specialize h2 I17
  intro e
  specialize h1 e
  specialize h2 e
  intro L18
  specialize h1 L18
  specialize h2 L18
  intro e
  specialize h1 e
  specialize h2 e
  intro Z20
  specialize h1 Z20
  specialize h2 Z20
  intro e
  specialize h1 e
  specialize h2 e
  intro q22
  specialize h1 q22
  specialize h2 q22
  intro e
  specialize h1 e
  specialize h2 e
  intro Z23
  specialize h1 Z23
  specialize h2 Z23
  intro e
  specialize h1 e
  specialize h2 e
  intro I24
  specialize h1 I24
  specialize h2 I24
  intro e
  specialize h1 e
  specialize h2 e
  intro L25
  specialize h1 L25
  specialize h2 L25
  intro e
  specialize h1 e
  specialize h2 e
  intro Z27
  specialize h1 Z27
  specialize h2 Z27
  intro e
  specialize h1 e
  specialize h2 e
  intro q29
  specialize h1 q29
  specialize h2 q29
  intro e
  specialize h1 e
  specialize h2 e
  intro Z30
  specialize h1 Z30
  specialize h2 Z30
  intro e
  specialize h1 e
  specialize h2 e
  intro I31
  specialize h1 I31
  specialize h2 I31
  intro e
  specialize h1 e
  specialize h2 e
  intro L32
  specialize h1 L32
  specialize h2 L32
  intro e
  specialize h1 e
  specialize h2 e
  intro Z34
  specialize h1 Z34
  specialize h2 Z34
  intro e
  specialize h1 e
  specialize h2 e
  intro I36
  specialize h1 I36
  specialize h2 I36
  intro e
  specialize h1 e
  specialize h2 e
  intro I37
  specialize h1 I37
  specialize h2 I37
  intro e
  specialize h1 e
  specialize h2 e
  intro I38
  specialize h1 I38
  specialize h2 I38
  intro e
  specialize h1 e
  specialize h2 e
  intro I39
  specialize h1 I39
  specialize h2 I39
  intro e
  specialize h1 e
  specialize h2 e
  exact hq _ _ _ h1 h2
set_option maxHeartbeats 4000000 in
set_option maxRecDepth 100000 in
theorem cj_X4_init {v0 : Nat} {Z : jZ} {I : jI} {L : jL} {Q1 Q2 Q3 : jZ → jI → jL → Prop} (h1 : f_X4_init v0 Z I L Q1) (h2 : f_X4_init v0 Z I L Q2) (hq : ∀ (Z : jZ) (I : jI) (L : jL), Q1 Z I L → Q2 Z I L → Q3 Z I L) : f_X4_init v0 Z I L Q3 := by
  unfold f_X4_init at h1 h2 ⊢
  intro q1
  specialize h1 q1
  specialize h2 q1
  intro e
  specialize h1 e
  specialize h2 e
  intro Z2
  specialize h1 Z2
  specialize h2 Z2
  intro e
  specialize h1 e
  specialize h2 e
  intro I3
  specialize h1 I3
  specialize h2 I3
  intro e
  specialize h1 e
  specialize h2 e
  intro L4
  specialize h1 L4
  specialize h2 L4
  intro e
  specialize h1 e
  specialize h2 e
  intro Z6
  specialize h1 Z6
  specialize h2 Z6
  intro e
  specialize h1 e
  specialize h2 e
  intro q8
  specialize h1 q8
  specialize h2 q8
  intro e
  specialize h1 e
  specialize h2 e
  intro Z9
  specialize h1 Z9
  specialize h2 Z9
  intro e
  specialize h1 e
  specialize h2 e
  intro I10
  specialize h1 I10
  specialize h2 I10
  intro e
  specialize h1 e
  specialize h2 e
  intro L11
  specialize h1 L11
  specialize h2 L11
  intro e
  specialize h1 e
  specialize h2 e
  intro Z13
  specialize h1 Z13
  specialize h2 Z13
  intro e
  specialize h1 e
  specialize h2 e
  intro q15
  specialize h1 q15
  specialize h2 q15
  intro e
  specialize h1 e
  specialize h2 e
  intro Z16
  specialize h1 Z16
  specialize h2 Z16
  intro e
  specialize h1 e
  specialize h2 e
  intro I17
  specialize h1 I17
  specialize h2 I17
  intro e
  specialize h1 e
  specialize h2 e
  intro L18
  specialize h1 L18
  specialize h2 L18
  intro e
  specialize h1 e
  specialize h2 e
  intro Z20
  specialize h1 Z20
  specialize h2 Z20
  intro e
  specialize h1 e
  specialize h2 e
  intro I22
  specialize h1 I22
  specialize h2 I22
  intro e
  specialize h1 e
  specialize h2 e
  intro I23
  specialize h1 I23
  specialize h2 I23
  intro e
  specialize h1 e
  specialize h2 e
  exact hq _ _ _ h1 h2
set_option maxHeartbeats 4000000 in
set_option maxRecDepth 100000 in
theorem cj_X3_init {v0 : Nat} {Z : jZ} {I : jI} {L : jL} {Q1 Q2 Q3 : jZ → jI → jL → Prop} (h1 : f_X3_init v0 Z I L Q1) (h2 : f_X3_init v0 Z I L Q2) (hq : ∀ (Z : jZ) (I : jI) (L : jL), Q1 Z I L → Q2 Z I L → Q3 Z I L) : f_X3_init v0 Z I L Q3 := by
  unfold f_X3_init at h1 h2 ⊢
  intro q1
  specialize h1 q1
  specialize h2 q1
  intro e
  specialize h1 e
  specialize h2 e
  intro Z2
  specialize h1 Z2
  specialize h2 Z2
  intro e
  specialize h1 e
  specialize h2 e
  intro I3
  specialize h1 I3
  specialize h2 I3
  intro e
  specialize h1 e
  specialize h2 e
  intro L4
  specialize h1 L4
  specialize h2 L4
  intro e
  specialize h1 e
  specialize h2 e
  intro Z6
  specialize h1 Z6
  specialize h2 Z6
  intro e
  specialize h1 e
  specialize h2 e
  intro q8
  specialize h1 q8
  specialize h2 q8
  intro e
  specialize h1 e
  specialize h2 e
  intro Z9
  specialize h1 Z9
  specialize h2 Z9
  intro e
  specialize h1 e
  specialize h2 e
  intro I10
  specialize h1 I10
  specialize h2 I10
  intro e
  specialize h1 e
  specialize h2 e
  intro L11
  specialize h1 L11
  specialize h2 L11
  intro e
  specialize h1 e
  specialize h2 e
  intro Z13
  specialize h1 Z13
  specialize h2 Z13
  intro e
  specialize h1 e
  specialize h2 e
  intro q15
  specialize h1 q15
  specialize h2 q15
  intro e
  specialize h1 e
  specialize h2 e
  intro Z16
  specialize h1 Z16
  specialize h2 Z16
  intro e
  specialize h1 e
  specialize h2 e
  intro I17
  specialize h1 I17
  specialize h2 I17
  intro e
  specialize h1 e
  specialize h2 e
  intro L18
  specialize h1 L18
  specialize h2 L18
  intro e
  specialize h1 e
  specialize h2 e
  intro Z20
  specialize h1 Z20
  specialize h2 Z20
  intro e
  specialize h1 e
  specialize h2 e
  intro I22
  specialize h1 I22
  specialize h2 I22
  intro e
  specialize h1 e
  specialize h2 e
  intro I23
  specialize h1 I23
  specialize h2 I23
  intro e
  specialize h1 e
  specialize h2 e
  intro I24
  specialize h1 I24
  specialize h2 I24
  intro e
  specialize h1 e
  specialize h2 e
  intro I25
  specialize h1 I25
  specialize h2 I25
  intro e
  specialize h1 e
  specialize h2 e
  intro I26
  specialize h1 I26
  specialize h2 I26
  intro e
  specialize h1 e
  specialize h2 e
  intro I27
  specialize h1 I27
  specialize h2 I27
  intro e
  specialize h1 e
  specialize h2 e
  exact hq _ _ _ h1 h2
set_option maxHeartbeats 4000000 in
set_option maxRecDepth 100000 in
theorem cj_X8_init {v0 : Nat} {Z : jZ} {I : jI} {L : jL} {Q1 Q2 Q3 : jZ → jI → jL → Prop} (h1 : f_X8_init v0 Z I L Q1) (h2 : f_X8_init v0 Z I L Q2) (hq : ∀ (Z : jZ) (I : jI) (L : jL), Q1 Z I L → Q2 Z I L → Q3 Z I L) : f_X8_init v0 Z I L Q3 := by
  unfold f_X8_init at h1 h2 ⊢
  intro q1
  specialize h1 q1
  specialize h2 q1
  intro e
  specialize h1 e
  specialize h2 e
  intro Z2
  specialize h1 Z2
  specialize h2 Z2
  intro e
  specialize h1 e
  specialize h2 e
  intro I3
  specialize h1 I3
  specialize h2 I3
  intro e
  specialize h1 e
  specialize h2 e
  intro L4
  specialize h1 L4
  specialize h2 L4
  intro e
  specialize h1 e
  specialize h2 e
  intro Z6
  specialize h1 Z6
  specialize h2 Z6
  intro e
  specialize h1 e
  specialize h2 e
  intro q8
  specialize h1 q8
  specialize h2 q8
  intro e
  specialize h1 e
  specialize h2 e
  intro Z9
  specialize h1 Z9
  specialize h2 Z9
  intro e
  specialize h1 e
  specialize h2 e
  intro I10
  specialize h1 I10
  specialize h2 I10
  intro e
  specialize h1 e
  specialize h2 e
  intro L11
  specialize h1 L11
  specialize h2 L11
  intro e
  specialize h1 e
  specialize h2 e
  intro Z13
  specialize h1 Z13
  specialize h2 Z13
  intro e
  specialize h1 e
  specialize h2 e
  intro q15
  specialize h1 q15
  specialize h2 q15
  intro e
  specialize h1 e
  specialize h2 e
  intro Z16
  specialize h1 Z16
  specialize h2 Z16
  intro e
  specialize h1 e
  specialize h2 e
  intro I17
  specialize h1 I17
  specialize h2 I17
  intro e
  specialize h1 e
  specialize h2 e
  intro L18
  specialize h1 L18
  specialize h2 L18
  intro e
  specialize h1 e
  specialize h2 e
  intro Z20
  specialize h1 Z20
  specialize h2 Z20
  intro e
  specialize h1 e
  specialize h2 e
  intro q22
  specialize h1 q22
  specialize h2 q22
  intro e
  specialize h1 e
  specialize h2 e
  intro Z23
  specialize h1 Z23
  specialize h2 Z23
  intro e
  specialize h1 e
  specialize h2 e
  intro I24
  specialize h1 I24
  specialize h2 I24
  intro e
  specialize h1 e
  specialize h2 e
  intro L25
  specialize h1 L25
  specialize h2 L25
  intro e
  specialize h1 e
  specialize h2 e
  intro Z27
  specialize h1 Z27
  specialize h2 Z27
  intro e
  specialize h1 e
  specialize h2 e
  intro q29
  specialize h1 q29
  specialize h2 q29
  intro e
  specialize h1 e
  specialize h2 e
  intro Z30
  specialize h1 Z30
  specialize h2 Z30
  intro e
  specialize h1 e
  specialize h2 e
  intro I31
  specialize h1 I31
  specialize h2 I31
  intro e
  specialize h1 e
  specialize h2 e
  intro L32
  specialize h1 L32
  specialize h2 L32
  intro e
  specialize h1 e
  specialize h2 e
  refine cj_X4_init h1 h2 (fun _ _ _ h1 h2 => ?_)
  intro Z42
  specialize h1 Z42
  specialize h2 Z42
  intro e
  specialize h1 e
  specialize h2 e
  intro q44
  specialize h1 q44
  specialize h2 q44
  intro e
  specialize h1 e
  specialize h2 e
  intro Z45
  specialize h1 Z45
  specialize h2 Z45
  intro e
  specialize h1 e
  specialize h2 e
  intro I46
  specialize h1 I46
  specialize h2 I46
  intro e
  specialize h1 e
  specialize h2 e
  intro L47
  specialize h1 L47
  specialize h2 L47
  intro e
  specialize h1 e
  specialize h2 e
  intro Z49
  specialize h1 Z49
  specialize h2 Z49
  intro e
  specialize h1 e
  specialize h2 e
  intro q51
  specialize h1 q51
  specialize h2 q51
  intro e
  specialize h1 e
  specialize h2 e
  intro Z52
  specialize h1 Z52
  specialize h2 Z52
  intro e
  specialize h1 e
  specialize h2 e
  intro I53
  specialize h1 I53
  specialize h2 I53
  intro e
  specialize h1 e
  specialize h2 e
  intro L54
  specialize h1 L54
  specialize h2 L54
  intro e
  specialize h1 e
  specialize h2 e
  refine cj_X3_init h1 h2 (fun _ _ _ h1 h2 => ?_)
  intro Z64
  specialize h1 Z64
  specialize h2 Z64
  intro e
  specialize h1 e
  specialize h2 e
  intro q66
  specialize h1 q66
  specialize h2 q66
  intro e
  specialize h1 e
  specialize h2 e
  intro Z67
  specialize h1 Z67
  specialize h2 Z67
  intro e
  specialize h1 e
  specialize h2 e
  intro I68
  specialize h1 I68
  specialize h2 I68
  intro e
  specialize h1 e
  specialize h2 e
  intro L69
  specialize h1 L69
  specialize h2 L69
  intro e
  specialize h1 e
  specialize h2 e
  refine cj_X3_init h1 h2 (fun _ _ _ h1 h2 => ?_)
  intro Z79
  specialize h1 Z79
  specialize h2 Z79
  intro e
  specialize h1 e
  specialize h2 e
  intro q81
  specialize h1 q81
  specialize h2 q81
  intro e
  specialize h1 e
  specialize h2 e
  intro Z82
  specialize h1 Z82
  specialize h2 Z82
  intro e
  specialize h1 e
  specialize h2 e
  intro I83
  specialize h1 I83
  specialize h2 I83
  intro e
  specialize h1 e
  specialize h2 e
  intro L84
  specialize h1 L84
  specialize h2 L84
  intro e
  specialize h1 e
  specialize h2 e
  intro Z86
  specialize h1 Z86
  specialize h2 Z86
  intro e
  specialize h1 e
  specialize h2 e
  intro I88
  specialize h1 I88
  specialize h2 I88
  intro e
  specialize h1 e
  specialize h2 e
  exact hq _ _ _ h1 h2
set_option maxHeartbeats 4000000 in
set_option maxRecDepth 100000 in
theorem cj_X7_init {v0 : Nat} {Z : jZ} {I : jI} {L : jL} {Q1 Q2 Q3 : jZ → jI → jL → Prop} (h1 : f_X7_init v0 Z I L Q1) (h2 : f_X7_init v0 Z I L Q2) (hq : ∀ (Z : jZ) (I : jI) (L : jL), Q1 Z I L → Q2 Z I L → Q3 Z I L) : f_X7_init v0 Z I L Q3 := by
  unfold f_X7_init at h1 h2 ⊢
  intro q1
  specialize h1 q1
  specialize h2 q1
  intro e
  specialize h1 e
  specialize h2 e
  intro Z2
  specialize h1 Z2
  specialize h2 Z2
  intro e
  specialize h1 e
  specialize h2 e
  intro I3
  specialize h1 I3
  specialize h2 I3
  intro e
  specialize h1 e
  specialize h2 e
  intro L4
  specialize h1 L4
  specialize h2 L4
  intro e
  specialize h1 e
  specialize h2 e
  intro Z6
  specialize h1 Z6
  specialize h2 Z6
  intro e
  specialize h1 e
  specialize h2 e
  intro q8
  specialize h1 q8
  specialize h2 q8
  intro e
  specialize h1 e
  specialize h2 e
  intro Z9
  specialize h1 Z9
  specialize h2 Z9
  intro e
  specialize h1 e
  specialize h2 e
  intro I10
  specialize h1 I10
  specialize h2 I10
  intro e
  specialize h1 e
  specialize h2 e
  intro L11
  specialize h1 L11
  specialize h2 L11
  intro e
  specialize h1 e
  specialize h2 e
  intro Z13
  specialize h1 Z13
  specialize h2 Z13
  intro e
  specialize h1 e
  specialize h2 e
  intro q15
  specialize h1 q15
  specialize h2 q15
  intro e
  specialize h1 e
  specialize h2 e
  intro Z16
  specialize h1 Z16
  specialize h2 Z16
  intro e
  specialize h1 e
  specialize h2 e
  intro I17
  specialize h1 I17
  specialize h2 I17
  intro e
  specialize h1 e
  specialize h2 e
  intro L18
  specialize h1 L18
  specialize h2 L18
  intro e
  specialize h1 e
  specialize h2 e
  intro Z20
  specialize h1 Z20
  specialize h2 Z20
  intro e
  specialize h1 e
  specialize h2 e
  intro I22
  specialize h1 I22
  specialize h2 I22
  intro e
  specialize h1 e
  specialize h2 e
  intro q23
  specialize h1 q23
  specialize h2 q23
  intro e
  specialize h1 e
  specialize h2 e
  intro Z24
  specialize h1 Z24
  specialize h2 Z24
  intro e
  specialize h1 e
  specialize h2 e
  intro I25
  specialize h1 I25
  specialize h2 I25
  intro e
  specialize h1 e
  specialize h2 e
  intro L26
  specialize h1 L26
  specialize h2 L26
  intro e
  specialize h1 e
  specialize h2 e
  intro Z28
  specialize h1 Z28
  specialize h2 Z28
  intro e
  specialize h1 e
  specialize h2 e
  intro q30
  specialize h1 q30
  specialize h2 q30
  intro e
  specialize h1 e
  specialize h2 e
  intro Z31
  specialize h1 Z31
  specialize h2 Z31
  intro e
  specialize h1 e
  specialize h2 e
  intro I32
  specialize h1 I32
  specialize h2 I32
  intro e
  specialize h1 e
  specialize h2 e
  intro L33
  specialize h1 L33
  specialize h2 L33
  intro e
  specialize h1 e
  specialize h2 e
  intro Z35
  specialize h1 Z35
  specialize h2 Z35
  intro e
  specialize h1 e
  specialize h2 e
  intro q37
  specialize h1 q37
  specialize h2 q37
  intro e
  specialize h1 e
  specialize h2 e
  intro Z38
  specialize h1 Z38
  specialize h2 Z38
  intro e
  specialize h1 e
  specialize h2 e
  intro I39
  specialize h1 I39
  specialize h2 I39
  intro e
  specialize h1 e
  specialize h2 e
  intro L40
  specialize h1 L40
  specialize h2 L40
  intro e
  specialize h1 e
  specialize h2 e
  intro Z42
  specialize h1 Z42
  specialize h2 Z42
  intro e
  specialize h1 e
  specialize h2 e
  intro q44
  specialize h1 q44
  specialize h2 q44
  intro e
  specialize h1 e
  specialize h2 e
  intro Z45
  specialize h1 Z45
  specialize h2 Z45
  intro e
  specialize h1 e
  specialize h2 e
  intro I46
  specialize h1 I46
  specialize h2 I46
  intro e
  specialize h1 e
  specialize h2 e
  intro L47
  specialize h1 L47
  specialize h2 L47
  intro e
  specialize h1 e
  specialize h2 e
  intro Z49
  specialize h1 Z49
  specialize h2 Z49
  intro e
  specialize h1 e
  specialize h2 e
  intro I51
  specialize h1 I51
  specialize h2 I51
  intro e
  specialize h1 e
  specialize h2 e
  intro I52
  specialize h1 I52
  specialize h2 I52
  intro e
  specialize h1 e
  specialize h2 e
  exact hq _ _ _ h1 h2
set_option maxHeartbeats 4000000 in
set_option maxRecDepth 100000 in
theorem cj_X0_init {v0 : Nat} {Z : jZ} {I : jI} {L : jL} {Q1 Q2 Q3 : jZ → jI → jL → Prop} (h1 : f_X0_init v0 Z I L Q1) (h2 : f_X0_init v0 Z I L Q2) (hq : ∀ (Z : jZ) (I : jI) (L : jL), Q1 Z I L → Q2 Z I L → Q3 Z I L) : f_X0_init v0 Z I L Q3 := by
  unfold f_X0_init at h1 h2 ⊢
  intro q1
  specialize h1 q1
  specialize h2 q1
  intro e
  specialize h1 e
  specialize h2 e
  intro Z2
  specialize h1 Z2
  specialize h2 Z2
  intro e
  specialize h1 e
  specialize h2 e
  intro I3
  specialize h1 I3
  specialize h2 I3
  intro e
  specialize h1 e
  specialize h2 e
  intro L4
  specialize h1 L4
  specialize h2 L4
  intro e
  specialize h1 e
  specialize h2 e
  refine cj_X7_init h1 h2 (fun _ _ _ h1 h2 => ?_)
  intro Z14
  specialize h1 Z14
  specialize h2 Z14
  intro e
  specialize h1 e
  specialize h2 e
  intro q16
  specialize h1 q16
  specialize h2 q16
  intro e
  specialize h1 e
  specialize h2 e
  intro Z17
  specialize h1 Z17
  specialize h2 Z17
  intro e
  specialize h1 e
  specialize h2 e
  intro I18
  specialize h1 I18
  specialize h2 I18
  intro e
  specialize h1 e
  specialize h2 e
  intro L19
  specialize h1 L19
  specialize h2 L19
  intro e
  specialize h1 e
  specialize h2 e
  intro Z21
  specialize h1 Z21
  specialize h2 Z21
  intro e
  specialize h1 e
  specialize h2 e
  intro L23
  specialize h1 L23
  specialize h2 L23
  intro e
  specialize h1 e
  specialize h2 e
  exact hq _ _ _ h1 h2
set_option maxHeartbeats 4000000 in
set_option maxRecDepth 100000 in
theorem cj_X1_init {v0 : Nat} {Z : jZ} {I : jI} {L : jL} {Q1 Q2 Q3 : jZ → jI → jL → Prop} (h1 : f_X1_init v0 Z I L Q1) (h2 : f_X1_init v0 Z I L Q2) (hq : ∀ (Z : jZ) (I : jI) (L : jL), Q1 Z I L → Q2 Z I L → Q3 Z I L) : f_X1_init v0 Z I L Q3 := by
  unfold f_X1_init at h1 h2 ⊢
  intro q1
  specialize h1 q1
  specialize h2 q1
  intro e
  specialize h1 e
  specialize h2 e
  intro Z2
  specialize h1 Z2
  specialize h2 Z2
  intro e
  specialize h1 e
  specialize h2 e
  intro I3
  specialize h1 I3
  specialize h2 I3
  intro e
  specialize h1 e
  specialize h2 e
  intro L4
  specialize h1 L4
  specialize h2 L4
  intro e
  specialize h1 e
  specialize h2 e
  intro Z6
  specialize h1 Z6
  specialize h2 Z6
  intro e
  specialize h1 e
  specialize h2 e
  intro q8
  specialize h1 q8
  specialize h2 q8
  intro e
  specialize h1 e
  specialize h2 e
  intro Z9
  specialize h1 Z9
  specialize h2 Z9
  intro e
  specialize h1 e
  specialize h2 e
  intro I10
  specialize h1 I10
  specialize h2 I10
  intro e
  specialize h1 e
  specialize h2 e
  intro L11
  specialize h1 L11
  specialize h2 L11
  intro e
  specialize h1 e
  specialize h2 e
  intro Z13
  specialize h1 Z13
  specialize h2 Z13
  intro e
  specialize h1 e
  specialize h2 e
  intro q15
  specialize h1 q15
  specialize h2 q15
  intro e
  specialize h1 e
  specialize h2 e
  intro Z16
  specialize h1 Z16
  specialize h2 Z16
  intro e
  specialize h1 e
  specialize h2 e
  intro I17
  specialize h1 I17
  specialize h2 I17
  intro e
  specialize h1 e
  specialize h2 e
  intro L18
  specialize h1 L18
  specialize h2 L18
  intro e
  specialize h1 e
  specialize h2 e
  intro Z20
  specialize h1 Z20
  specialize h2 Z20
  intro e
  specialize h1 e
  specialize h2 e
  intro q22
  specialize h1 q22
  specialize h2 q22
  intro e
  specialize h1 e
  specialize h2 e
  intro Z23
  specialize h1 Z23
  specialize h2 Z23
  intro e
  specialize h1 e
  specialize h2 e
  intro I24
  specialize h1 I24
  specialize h2 I24
  intro e
  specialize h1 e
  specialize h2 e
  intro L25
  specialize h1 L25
  specialize h2 L25
  intro e
  specialize h1 e
  specialize h2 e
  intro Z27
  specialize h1 Z27
  specialize h2 Z27
  intro e
  specialize h1 e
  specialize h2 e
  intro q29
  specialize h1 q29
  specialize h2 q29
  intro e
  specialize h1 e
  specialize h2 e
  intro Z30
  specialize h1 Z30
  specialize h2 Z30
  intro e
  specialize h1 e
  specialize h2 e
  intro I31
  specialize h1 I31
  specialize h2 I31
  intro e
  specialize h1 e
  specialize h2 e
  intro L32
  specialize h1 L32
  specialize h2 L32
  intro e
  specialize h1 e
  specialize h2 e
  intro Z34
  specialize h1 Z34
  specialize h2 Z34
  intro e
  specialize h1 e
  specialize h2 e
  intro q36
  specialize h1 q36
  specialize h2 q36
  intro e
  specialize h1 e
  specialize h2 e
  intro Z37
  specialize h1 Z37
  specialize h2 Z37
  intro e
  specialize h1 e
  specialize h2 e
  intro I38
  specialize h1 I38
  specialize h2 I38
  intro e
  specialize h1 e
  specialize h2 e
  intro L39
  specialize h1 L39
  specialize h2 L39
  intro e
  specialize h1 e
  specialize h2 e
  intro Z41
  specialize h1 Z41
  specialize h2 Z41
  intro e
  specialize h1 e
  specialize h2 e
  intro I43
  specialize h1 I43
  specialize h2 I43
  intro e
  specialize h1 e
  specialize h2 e
  intro I44
  specialize h1 I44
  specialize h2 I44
  intro e
  specialize h1 e
  specialize h2 e
  intro I45
  specialize h1 I45
  specialize h2 I45
  intro e
  specialize h1 e
  specialize h2 e
  intro I46
  specialize h1 I46
  specialize h2 I46
  intro e
  specialize h1 e
  specialize h2 e
  exact hq _ _ _ h1 h2
set_option maxHeartbeats 4000000 in
set_option maxRecDepth 100000 in
theorem cj_X2_init {v0 : Nat} {Z : jZ} {I : jI} {L : jL} {Q1 Q2 Q3 : jZ → jI → jL → Prop} (h1 : f_X2_init v0 Z I L Q1) (h2 : f_X2_init v0 Z I L Q2) (hq : ∀ (Z : jZ) (I : jI) (L : jL), Q1 Z I L → Q2 Z I L → Q3 Z I L) : f_X2_init v0 Z I L Q3 := by
  unfold f_X2_init at h1 h2 ⊢
  intro q1
  specialize h1 q1
  specialize h2 q1
  intro e
  specialize h1 e
  specialize h2 e
  intro Z2
  specialize h1 Z2
  specialize h2 Z2
  intro e
  specialize h1 e
  specialize h2 e
  intro I3
  specialize h1 I3
  specialize h2 I3
  intro e
  specialize h1 e
  specialize h2 e
  intro L4
  specialize h1 L4
  specialize h2 L4
  intro e
  specialize h1 e
  specialize h2 e
  intro Z6
  specialize h1 Z6
  specialize h2 Z6
  intro e
  specialize h1 e
  specialize h2 e
  intro q8
  specialize h1 q8
  specialize h2 q8
  intro e
  specialize h1 e
  specialize h2 e
  intro Z9
  specialize h1 Z9
  specialize h2 Z9
  intro e
  specialize h1 e
  specialize h2 e
  intro I10
  specialize h1 I10
  specialize h2 I10
  intro e
  specialize h1 e
  specialize h2 e
  intro L11
  specialize h1 L11
  specialize h2 L11
  intro e
  specialize h1 e
  specialize h2 e
  intro Z13
  specialize h1 Z13
  specialize h2 Z13
  intro e
  specialize h1 e
  specialize h2 e
  intro q15
  specialize h1 q15
  specialize h2 q15
  intro e
  specialize h1 e
  specialize h2 e
  intro Z16
  specialize h1 Z16
  specialize h2 Z16
  intro e
  specialize h1 e
  specialize h2 e
  intro I17
  specialize h1 I17
  specialize h2 I17
  intro e
  specialize h1 e
  specialize h2 e
  intro L18
  specialize h1 L18
  specialize h2 L18
  intro e
  specialize h1 e
  specialize h2 e
  intro Z20
  specialize h1 Z20
  specialize h2 Z20
  intro e
  specialize h1 e
  specialize h2 e
  intro q22
  specialize h1 q22
  specialize h2 q22
  intro e
  specialize h1 e
  specialize h2 e
  intro Z23
  specialize h1 Z23
  specialize h2 Z23
  intro e
  specialize h1 e
  specialize h2 e
  intro I24
  specialize h1 I24
  specialize h2 I24
  intro e
  specialize h1 e
  specialize h2 e
  intro L25
  specialize h1 L25
  specialize h2 L25
  intro e
  specialize h1 e
  specialize h2 e
  intro Z27
  specialize h1 Z27
  specialize h2 Z27
  intro e
  specialize h1 e
  specialize h2 e
  intro q29
  specialize h1 q29
  specialize h2 q29
  intro e
  specialize h1 e
  specialize h2 e
  intro Z30
  specialize h1 Z30
  specialize h2 Z30
  intro e
  specialize h1 e
  specialize h2 e
  intro I31
  specialize h1 I31
  specialize h2 I31
  intro e
  specialize h1 e
  specialize h2 e
  intro L32
  specialize h1 L32
  specialize h2 L32
  intro e
  specialize h1 e
  specialize h2 e
  intro Z34
  specialize h1 Z34
  specialize h2 Z34
  intro e
  specialize h1 e
  specialize h2 e
  intro q36
  specialize h1 q36
  specialize h2 q36
  intro e
  specialize h1 e
  specialize h2 e
  intro Z37
  specialize h1 Z37
  specialize h2 Z37
  intro e
  specialize h1 e
  specialize h2 e
  intro I38
  specialize h1 I38
  specialize h2 I38
  intro e
  specialize h1 e
  specialize h2 e
  intro L39
  specialize h1 L39
  specialize h2 L39
  intro e
  specialize h1 e
  specialize h2 e
  intro Z41
  specialize h1 Z41
  specialize h2 Z41
  intro e
  specialize h1 e
  specialize h2 e
  intro q43
  specialize h1 q43
  specialize h2 q43
  intro e
  specialize h1 e
  specialize h2 e
  intro Z44
  specialize h1 Z44
  specialize h2 Z44
  intro e
  specialize h1 e
  specialize h2 e
  intro I45
  specialize h1 I45
  specialize h2 I45
  intro e
  specialize h1 e
  specialize h2 e
  intro L46
  specialize h1 L46
  specialize h2 L46
  intro e
  specialize h1 e
  specialize h2 e
  intro Z48
  specialize h1 Z48
  specialize h2 Z48
  intro e
  specialize h1 e
  specialize h2 e
  intro I50
  specialize h1 I50
  specialize h2 I50
  intro e
  specialize h1 e
  specialize h2 e
  intro I51
  specialize h1 I51
  specialize h2 I51
  intro e
  specialize h1 e
  specialize h2 e
  exact hq _ _ _ h1 h2
set_option maxHeartbeats 4000000 in
set_option maxRecDepth 100000 in
theorem cj_X11_init {v0 : Nat} {Z : jZ} {I : jI} {L : jL} {Q1 Q2 Q3 : jZ → jI → jL → Prop} (h1 : f_X11_init v0 Z I L Q1) (h2 : f_X11_init v0 Z I L Q2) (hq : ∀ (Z : jZ) (I : jI) (L : jL), Q1 Z I L → Q2 Z I L → Q3 Z I L) : f_X11_init v0 Z I L Q3 := by
  unfold f_X11_init at h1 h2 ⊢
  intro q1
  specialize h1 q1
  specialize h2 q1
  intro e
  specialize h1 e
  specialize h2 e
  intro Z2
  specialize h1 Z2
  specialize h2 Z2
  intro e
  specialize h1 e
  specialize h2 e
  intro I3
  specialize h1 I3
  specialize h2 I3
  intro e
  specialize h1 e
  specialize h2 e
  intro L4
  specialize h1 L4
  specialize h2 L4
  intro e
  specialize h1 e
  specialize h2 e
  refine cj_X10_init h1 h2 (fun _ _ _ h1 h2 => ?_)
  intro Z14
  specialize h1 Z14
  specialize h2 Z14
  intro e
  specialize h1 e
  specialize h2 e
  intro q16
  specialize h1 q16
  specialize h2 q16
  intro e
  specialize h1 e
  specialize h2 e
  intro Z17
  specialize h1 Z17
  specialize h2 Z17
  intro e
  specialize h1 e
  specialize h2 e
  intro I18
  specialize h1 I18
  specialize h2 I18
  intro e
  specialize h1 e
  specialize h2 e
  intro L19
  specialize h1 L19
  specialize h2 L19
  intro e
  specialize h1 e
  specialize h2 e
  refine cj_X9_init h1 h2 (fun _ _ _ h1 h2 => ?_)
  intro Z29
  specialize h1 Z29
  specialize h2 Z29
  intro e
  specialize h1 e
  specialize h2 e
  intro q31
  specialize h1 q31
  specialize h2 q31
  intro e
  specialize h1 e
  specialize h2 e
  intro Z32
  specialize h1 Z32
  specialize h2 Z32
  intro e
  specialize h1 e
  specialize h2 e
  intro I33
  specialize h1 I33
  specialize h2 I33
  intro e
  specialize h1 e
  specialize h2 e
  intro L34
  specialize h1 L34
  specialize h2 L34
  intro e
  specialize h1 e
  specialize h2 e
  refine cj_X8_init h1 h2 (fun _ _ _ h1 h2 => ?_)
  intro Z44
  specialize h1 Z44
  specialize h2 Z44
  intro e
  specialize h1 e
  specialize h2 e
  intro q46
  specialize h1 q46
  specialize h2 q46
  intro e
  specialize h1 e
  specialize h2 e
  intro Z47
  specialize h1 Z47
  specialize h2 Z47
  intro e
  specialize h1 e
  specialize h2 e
  intro I48
  specialize h1 I48
  specialize h2 I48
  intro e
  specialize h1 e
  specialize h2 e
  intro L49
  specialize h1 L49
  specialize h2 L49
  intro e
  specialize h1 e
  specialize h2 e
  intro Z51
  specialize h1 Z51
  specialize h2 Z51
  intro e
  specialize h1 e
  specialize h2 e
  intro I53
  specialize h1 I53
  specialize h2 I53
  intro e
  specialize h1 e
  specialize h2 e
  intro q54
  specialize h1 q54
  specialize h2 q54
  intro e
  specialize h1 e
  specialize h2 e
  intro Z55
  specialize h1 Z55
  specialize h2 Z55
  intro e
  specialize h1 e
  specialize h2 e
  intro I56
  specialize h1 I56
  specialize h2 I56
  intro e
  specialize h1 e
  specialize h2 e
  intro L57
  specialize h1 L57
  specialize h2 L57
  intro e
  specialize h1 e
  specialize h2 e
  intro Z59
  specialize h1 Z59
  specialize h2 Z59
  intro e
  specialize h1 e
  specialize h2 e
  intro q61
  specialize h1 q61
  specialize h2 q61
  intro e
  specialize h1 e
  specialize h2 e
  intro Z62
  specialize h1 Z62
  specialize h2 Z62
  intro e
  specialize h1 e
  specialize h2 e
  intro I63
  specialize h1 I63
  specialize h2 I63
  intro e
  specialize h1 e
  specialize h2 e
  intro L64
  specialize h1 L64
  specialize h2 L64
  intro e
  specialize h1 e
  specialize h2 e
  intro Z66
  specialize h1 Z66
  specialize h2 Z66
  intro e
  specialize h1 e
  specialize h2 e
  intro q68
  specialize h1 q68
  specialize h2 q68
  intro e
  specialize h1 e
  specialize h2 e
  intro Z69
  specialize h1 Z69
  specialize h2 Z69
  intro e
  specialize h1 e
  specialize h2 e
  intro I70
  specialize h1 I70
  specialize h2 I70
  intro e
  specialize h1 e
  specialize h2 e
  intro L71
  specialize h1 L71
  specialize h2 L71
  intro e
  specialize h1 e
  specialize h2 e
  intro Z73
  specialize h1 Z73
  specialize h2 Z73
  intro e
  specialize h1 e
  specialize h2 e
  intro q75
  specialize h1 q75
  specialize h2 q75
  intro e
  specialize h1 e
  specialize h2 e
  intro Z76
  specialize h1 Z76
  specialize h2 Z76
  intro e
  specialize h1 e
  specialize h2 e
  intro I77
  specialize h1 I77
  specialize h2 I77
  intro e
  specialize h1 e
  specialize h2 e
  intro L78
  specialize h1 L78
  specialize h2 L78
  intro e
  specialize h1 e
  specialize h2 e
  intro q80
  specialize h1 q80
  specialize h2 q80
  intro e
  specialize h1 e
  specialize h2 e
  intro Z81
  specialize h1 Z81
  specialize h2 Z81
  intro e
  specialize h1 e
  specialize h2 e
  intro I82
  specialize h1 I82
  specialize h2 I82
  intro e
  specialize h1 e
  specialize h2 e
  intro L83
  specialize h1 L83
  specialize h2 L83
  intro e
  specialize h1 e
  specialize h2 e
  refine cj_X2_init h1 h2 (fun _ _ _ h1 h2 => ?_)
  intro Z97
  specialize h1 Z97
  specialize h2 Z97
  intro e
  specialize h1 e
  specialize h2 e
  intro q101
  specialize h1 q101
  specialize h2 q101
  intro e
  specialize h1 e
  specialize h2 e
  intro Z102
  specialize h1 Z102
  specialize h2 Z102
  intro e
  specialize h1 e
  specialize h2 e
  intro I103
  specialize h1 I103
  specialize h2 I103
  intro e
  specialize h1 e
  specialize h2 e
  intro L104
  specialize h1 L104
  specialize h2 L104
  intro e
  specialize h1 e
  specialize h2 e
  refine cj_X2_init h1 h2 (fun _ _ _ h1 h2 => ?_)
  intro Z118
  specialize h1 Z118
  specialize h2 Z118
  intro e
  specialize h1 e
  specialize h2 e
  intro Z122
  specialize h1 Z122
  specialize h2 Z122
  intro e
  specialize h1 e
  specialize h2 e
  intro q124
  specialize h1 q124
  specialize h2 q124
  intro e
  specialize h1 e
  specialize h2 e
  intro Z125
  specialize h1 Z125
  specialize h2 Z125
  intro e
  specialize h1 e
  specialize h2 e
  intro I126
  specialize h1 I126
  specialize h2 I126
  intro e
  specialize h1 e
  specialize h2 e
  intro L127
  specialize h1 L127
  specialize h2 L127
  intro e
  specialize h1 e
  specialize h2 e
  refine cj_X0_init h1 h2 (fun _ _ _ h1 h2 => ?_)
  intro Z137
  specialize h1 Z137
  specialize h2 Z137
  intro e
  specialize h1 e
  specialize h2 e
  intro q139
  specialize h1 q139
  specialize h2 q139
  intro e
  specialize h1 e
  specialize h2 e
  intro Z140
  specialize h1 Z140
  specialize h2 Z140
  intro e
  specialize h1 e
  specialize h2 e
  intro I141
  specialize h1 I141
  specialize h2 I141
  intro e
  specialize h1 e
  specialize h2 e
  intro L142
  specialize h1 L142
  specialize h2 L142
  intro e
  specialize h1 e
  specialize h2 e
  refine cj_X1_init h1 h2 (fun _ _ _ h1 h2 => ?_)
  intro Z152
  specialize h1 Z152
  specialize h2 Z152
  intro e
  specialize h1 e
  specialize h2 e
  intro q154
  specialize h1 q154
  specialize h2 q154
  intro e
  specialize h1 e
  specialize h2 e
  intro Z155
  specialize h1 Z155
  specialize h2 Z155
  intro e
  specialize h1 e
  specialize h2 e
  intro I156
  specialize h1 I156
  specialize h2 I156
  intro e
  specialize h1 e
  specialize h2 e
  intro L157
  specialize h1 L157
  specialize h2 L157
  intro e
  specialize h1 e
  specialize h2 e
  intro Z159
  specialize h1 Z159
  specialize h2 Z159
  intro e
  specialize h1 e
  specialize h2 e
  intro q161
  specialize h1 q161
  specialize h2 q161
  intro e
  specialize h1 e
  specialize h2 e
  intro Z162
  specialize h1 Z162
  specialize h2 Z162
  intro e
  specialize h1 e
  specialize h2 e
  intro I163
  specialize h1 I163
  specialize h2 I163
  intro e
  specialize h1 e
  specialize h2 e
  intro L164
  specialize h1 L164
  specialize h2 L164
  intro e
  specialize h1 e
  specialize h2 e
  intro Z166
  specialize h1 Z166
  specialize h2 Z166
  intro e
  specialize h1 e
  specialize h2 e
  intro q168
  specialize h1 q168
  specialize h2 q168
  intro e
  specialize h1 e
  specialize h2 e
  intro Z169
  specialize h1 Z169
  specialize h2 Z169
  intro e
  specialize h1 e
  specialize h2 e
  intro I170
  specialize h1 I170
  specialize h2 I170
  intro e
  specialize h1 e
  specialize h2 e
  intro L171
  specialize h1 L171
  specialize h2 L171
  intro e
  specialize h1 e
  specialize h2 e
  intro Z173
  specialize h1 Z173
  specialize h2 Z173
  intro e
  specialize h1 e
  specialize h2 e
  intro q175
  specialize h1 q175
  specialize h2 q175
  intro e
  specialize h1 e
  specialize h2 e
  intro Z176
  specialize h1 Z176
  specialize h2 Z176
  intro e
  specialize h1 e
  specialize h2 e
  intro I177
  specialize h1 I177
  specialize h2 I177
  intro e
  specialize h1 e
  specialize h2 e
  intro L178
  specialize h1 L178
  specialize h2 L178
  intro e
  specialize h1 e
  specialize h2 e
  intro Z180
  specialize h1 Z180
  specialize h2 Z180
  intro e
  specialize h1 e
  specialize h2 e
  intro q182
  specialize h1 q182
  specialize h2 q182
  intro e
  specialize h1 e
  specialize h2 e
  intro Z183
  specialize h1 Z183
  specialize h2 Z183
  intro e
  specialize h1 e
  specialize h2 e
  intro I184
  specialize h1 I184
  specialize h2 I184
  intro e
  specialize h1 e
  specialize h2 e
  intro L185
  specialize h1 L185
  specialize h2 L185
  intro e
  specialize h1 e
  specialize h2 e
  intro Z187
  specialize h1 Z187
  specialize h2 Z187
  intro e
  specialize h1 e
  specialize h2 e
  intro I189
  specialize h1 I189
  specialize h2 I189
  intro e
  specialize h1 e
  specialize h2 e
  exact hq _ _ _ h1 h2
set_option maxHeartbeats 4000000 in
set_option maxRecDepth 100000 in
theorem cj_X6_init {v0 : Nat} {v1 : Nat} {v2 : Int32} {v3 : Int32} {v4 : Int32} {Z : jZ} {I : jI} {L : jL} {Q1 Q2 Q3 : jZ → jI → jL → Prop} (h1 : f_X6_init v0 v1 v2 v3 v4 Z I L Q1) (h2 : f_X6_init v0 v1 v2 v3 v4 Z I L Q2) (hq : ∀ (Z : jZ) (I : jI) (L : jL), Q1 Z I L → Q2 Z I L → Q3 Z I L) : f_X6_init v0 v1 v2 v3 v4 Z I L Q3 := by
  unfold f_X6_init at h1 h2 ⊢
  intro q1
  specialize h1 q1
  specialize h2 q1
  intro e
  specialize h1 e
  specialize h2 e
  intro Z2
  specialize h1 Z2
  specialize h2 Z2
  intro e
  specialize h1 e
  specialize h2 e
  intro I3
  specialize h1 I3
  specialize h2 I3
  intro e
  specialize h1 e
  specialize h2 e
  intro L4
  specialize h1 L4
  specialize h2 L4
  intro e
  specialize h1 e
  specialize h2 e
  intro Z7
  specialize h1 Z7
  specialize h2 Z7
  intro e
  specialize h1 e
  specialize h2 e
  intro q10
  specialize h1 q10
  specialize h2 q10
  intro e
  specialize h1 e
  specialize h2 e
  intro Z11
  specialize h1 Z11
  specialize h2 Z11
  intro e
  specialize h1 e
  specialize h2 e
  intro I12
  specialize h1 I12
  specialize h2 I12
  intro e
  specialize h1 e
  specialize h2 e
  intro L13
  specialize h1 L13
  specialize h2 L13
  intro e
  specialize h1 e
  specialize h2 e
  intro Z16
  specialize h1 Z16
  specialize h2 Z16
  intro e
  specialize h1 e
  specialize h2 e
  intro q19
  specialize h1 q19
  specialize h2 q19
  intro e
  specialize h1 e
  specialize h2 e
  intro Z20
  specialize h1 Z20
  specialize h2 Z20
  intro e
  specialize h1 e
  specialize h2 e
  intro I21
  specialize h1 I21
  specialize h2 I21
  intro e
  specialize h1 e
  specialize h2 e
  intro L22
  specialize h1 L22
  specialize h2 L22
  intro e
  specialize h1 e
  specialize h2 e
  intro Z25
  specialize h1 Z25
  specialize h2 Z25
  intro e
  specialize h1 e
  specialize h2 e
  intro q28
  specialize h1 q28
  specialize h2 q28
  intro e
  specialize h1 e
  specialize h2 e
  intro Z29
  specialize h1 Z29
  specialize h2 Z29
  intro e
  specialize h1 e
  specialize h2 e
  intro I30
  specialize h1 I30
  specialize h2 I30
  intro e
  specialize h1 e
  specialize h2 e
  intro L31
  specialize h1 L31
  specialize h2 L31
  intro e
  specialize h1 e
  specialize h2 e
  intro Z34
  specialize h1 Z34
  specialize h2 Z34
  intro e
  specialize h1 e
  specialize h2 e
  intro q37
  specialize h1 q37
  specialize h2 q37
  intro e
  specialize h1 e
  specialize h2 e
  intro Z38
  specialize h1 Z38
  specialize h2 Z38
  intro e
  specialize h1 e
  specialize h2 e
  intro I39
  specialize h1 I39
  specialize h2 I39
  intro e
  specialize h1 e
  specialize h2 e
  intro L40
  specialize h1 L40
  specialize h2 L40
  intro e
  specialize h1 e
  specialize h2 e
  intro Z43
  specialize h1 Z43
  specialize h2 Z43
  intro e
  specialize h1 e
  specialize h2 e
  intro q46
  specialize h1 q46
  specialize h2 q46
  intro e
  specialize h1 e
  specialize h2 e
  intro Z47
  specialize h1 Z47
  specialize h2 Z47
  intro e
  specialize h1 e
  specialize h2 e
  intro I48
  specialize h1 I48
  specialize h2 I48
  intro e
  specialize h1 e
  specialize h2 e
  intro L49
  specialize h1 L49
  specialize h2 L49
  intro e
  specialize h1 e
  specialize h2 e
  refine cj_X7_init h1 h2 (fun _ _ _ h1 h2 => ?_)
  intro Z61
  specialize h1 Z61
  specialize h2 Z61
  intro e
  specialize h1 e
  specialize h2 e
  intro q64
  specialize h1 q64
  specialize h2 q64
  intro e
  specialize h1 e
  specialize h2 e
  intro Z65
  specialize h1 Z65
  specialize h2 Z65
  intro e
  specialize h1 e
  specialize h2 e
  intro I66
  specialize h1 I66
  specialize h2 I66
  intro e
  specialize h1 e
  specialize h2 e
  intro L67
  specialize h1 L67
  specialize h2 L67
  intro e
  specialize h1 e
  specialize h2 e
  refine cj_X7_init h1 h2 (fun _ _ _ h1 h2 => ?_)
  intro Z79
  specialize h1 Z79
  specialize h2 Z79
  intro e
  specialize h1 e
  specialize h2 e
  intro q82
  specialize h1 q82
  specialize h2 q82
  intro e
  specialize h1 e
  specialize h2 e
  intro Z83
  specialize h1 Z83
  specialize h2 Z83
  intro e
  specialize h1 e
  specialize h2 e
  intro I84
  specialize h1 I84
  specialize h2 I84
  intro e
  specialize h1 e
  specialize h2 e
  intro L85
  specialize h1 L85
  specialize h2 L85
  intro e
  specialize h1 e
  specialize h2 e
  intro Z88
  specialize h1 Z88
  specialize h2 Z88
  intro e
  specialize h1 e
  specialize h2 e
  intro q91
  specialize h1 q91
  specialize h2 q91
  intro e
  specialize h1 e
  specialize h2 e
  intro Z92
  specialize h1 Z92
  specialize h2 Z92
  intro e
  specialize h1 e
  specialize h2 e
  intro I93
  specialize h1 I93
  specialize h2 I93
  intro e
  specialize h1 e
  specialize h2 e
  intro L94
  specialize h1 L94
  specialize h2 L94
  intro e
  specialize h1 e
  specialize h2 e
  intro Z97
  specialize h1 Z97
  specialize h2 Z97
  intro e
  specialize h1 e
  specialize h2 e
  intro q100
  specialize h1 q100
  specialize h2 q100
  intro e
  specialize h1 e
  specialize h2 e
  intro Z101
  specialize h1 Z101
  specialize h2 Z101
  intro e
  specialize h1 e
  specialize h2 e
  intro I102
  specialize h1 I102
  specialize h2 I102
  intro e
  specialize h1 e
  specialize h2 e
  intro L103
  specialize h1 L103
  specialize h2 L103
  intro e
  specialize h1 e
  specialize h2 e
  intro Z106
  specialize h1 Z106
  specialize h2 Z106
  intro e
  specialize h1 e
  specialize h2 e
  intro I109
  specialize h1 I109
  specialize h2 I109
  intro e
  specialize h1 e
  specialize h2 e
  intro I110
  specialize h1 I110
  specialize h2 I110
  intro e
  specialize h1 e
  specialize h2 e
  intro Z111
  specialize h1 Z111
  specialize h2 Z111
  intro e
  specialize h1 e
  specialize h2 e
  intro I114
  specialize h1 I114
  specialize h2 I114
  intro e
  specialize h1 e
  specialize h2 e
  intro I115
  specialize h1 I115
  specialize h2 I115
  intro e
  specialize h1 e
  specialize h2 e
  intro I116
  specialize h1 I116
  specialize h2 I116
  intro e
  specialize h1 e
  specialize h2 e
  exact hq _ _ _ h1 h2
set_option maxHeartbeats 4000000 in
set_option maxRecDepth 100000 in
theorem cj_X5_init {v0 : Nat} {v1 : Nat} {v2 : Int32} {v3 : Int32} {v4 : Int32} {v5 : Int32} {Z : jZ} {I : jI} {L : jL} {Q1 Q2 Q3 : jZ → jI → jL → Prop} (h1 : f_X5_init v0 v1 v2 v3 v4 v5 Z I L Q1) (h2 : f_X5_init v0 v1 v2 v3 v4 v5 Z I L Q2) (hq : ∀ (Z : jZ) (I : jI) (L : jL), Q1 Z I L → Q2 Z I L → Q3 Z I L) : f_X5_init v0 v1 v2 v3 v4 v5 Z I L Q3 := by
  unfold f_X5_init at h1 h2 ⊢
  intro I1
  specialize h1 I1
  specialize h2 I1
  intro e
  specialize h1 e
  specialize h2 e
  intro I2
  specialize h1 I2
  specialize h2 I2
  intro e
  specialize h1 e
  specialize h2 e
  intro I3
  specialize h1 I3
  specialize h2 I3
  intro e
  specialize h1 e
  specialize h2 e
  intro I4
  specialize h1 I4
  specialize h2 I4
  intro e
  specialize h1 e
  specialize h2 e
  intro I5
  specialize h1 I5
  specialize h2 I5
  intro e
  specialize h1 e
  specialize h2 e
  intro I6
  specialize h1 I6
  specialize h2 I6
  intro e
  specialize h1 e
  specialize h2 e
  intro I7
  specialize h1 I7
  specialize h2 I7
  intro e
  specialize h1 e
  specialize h2 e
  intro I8
  specialize h1 I8
  specialize h2 I8
  intro e
  specialize h1 e
  specialize h2 e
  intro q9
  specialize h1 q9
  specialize h2 q9
  intro e
  specialize h1 e
  specialize h2 e
  intro Z10
  specialize h1 Z10
  specialize h2 Z10
  intro e
  specialize h1 e
  specialize h2 e
  intro I11
  specialize h1 I11
  specialize h2 I11
  intro e
  specialize h1 e
  specialize h2 e
  intro L12
  specialize h1 L12
  specialize h2 L12
  intro e
  specialize h1 e
  specialize h2 e
  refine cj_X6_init h1 h2 (fun _ _ _ h1 h2 => ?_)
  intro Z24
  specialize h1 Z24
  specialize h2 Z24
  intro e
  specialize h1 e
  specialize h2 e
  exact hq _ _ _ h1 h2
set_option maxHeartbeats 4000000 in
set_option maxRecDepth 100000 in
theorem cj_X12_init {v0 : Nat} {Z : jZ} {I : jI} {L : jL} {Q1 Q2 Q3 : jZ → jI → jL → Prop} (h1 : f_X12_init v0 Z I L Q1) (h2 : f_X12_init v0 Z I L Q2) (hq : ∀ (Z : jZ) (I : jI) (L : jL), Q1 Z I L → Q2 Z I L → Q3 Z I L) : f_X12_init v0 Z I L Q3 := by
  unfold f_X12_init at h1 h2 ⊢
  intro q1
  specialize h1 q1
  specialize h2 q1
  intro e
  specialize h1 e
  specialize h2 e
  intro Z2
  specialize h1 Z2
  specialize h2 Z2
  intro e
  specialize h1 e
  specialize h2 e
  intro I3
  specialize h1 I3
  specialize h2 I3
  intro e
  specialize h1 e
  specialize h2 e
  intro L4
  specialize h1 L4
  specialize h2 L4
  intro e
  specialize h1 e
  specialize h2 e
  intro Z6
  specialize h1 Z6
  specialize h2 Z6
  intro e
  specialize h1 e
  specialize h2 e
  intro q8
  specialize h1 q8
  specialize h2 q8
  intro e
  specialize h1 e
  specialize h2 e
  intro Z9
  specialize h1 Z9
  specialize h2 Z9
  intro e
  specialize h1 e
  specialize h2 e
  intro I10
  specialize h1 I10
  specialize h2 I10
  intro e
  specialize h1 e
  specialize h2 e
  intro L11
  specialize h1 L11
  specialize h2 L11
  intro e
  specialize h1 e
  specialize h2 e
  intro Z13
  specialize h1 Z13
  specialize h2 Z13
  intro e
  specialize h1 e
  specialize h2 e
  intro q15
  specialize h1 q15
  specialize h2 q15
  intro e
  specialize h1 e
  specialize h2 e
  intro Z16
  specialize h1 Z16
  specialize h2 Z16
  intro e
  specialize h1 e
  specialize h2 e
  intro I17
  specialize h1 I17
  specialize h2 I17
  intro e
  specialize h1 e
  specialize h2 e
  intro L18
  specialize h1 L18
  specialize h2 L18
  intro e
  specialize h1 e
  specialize h2 e
  intro Z20
  specialize h1 Z20
  specialize h2 Z20
  intro e
  specialize h1 e
  specialize h2 e
  intro q22
  specialize h1 q22
  specialize h2 q22
  intro e
  specialize h1 e
  specialize h2 e
  intro Z23
  specialize h1 Z23
  specialize h2 Z23
  intro e
  specialize h1 e
  specialize h2 e
  intro I24
  specialize h1 I24
  specialize h2 I24
  intro e
  specialize h1 e
  specialize h2 e
  intro L25
  specialize h1 L25
  specialize h2 L25
  intro e
  specialize h1 e
  specialize h2 e
  intro Z27
  specialize h1 Z27
  specialize h2 Z27
  intro e
  specialize h1 e
  specialize h2 e
  intro q29
  specialize h1 q29
  specialize h2 q29
  intro e
  specialize h1 e
  specialize h2 e
  intro Z30
  specialize h1 Z30
  specialize h2 Z30
  intro e
  specialize h1 e
  specialize h2 e
  intro I31
  specialize h1 I31
  specialize h2 I31
  intro e
  specialize h1 e
  specialize h2 e
  intro L32
  specialize h1 L32
  specialize h2 L32
  intro e
  specialize h1 e
  specialize h2 e
  intro Z34
  specialize h1 Z34
  specialize h2 Z34
  intro e
  specialize h1 e
  specialize h2 e
  intro q36
  specialize h1 q36
  specialize h2 q36
  intro e
  specialize h1 e
  specialize h2 e
  intro Z37
  specialize h1 Z37
  specialize h2 Z37
  intro e
  specialize h1 e
  specialize h2 e
  intro I38
  specialize h1 I38
  specialize h2 I38
  intro e
  specialize h1 e
  specialize h2 e
  intro L39
  specialize h1 L39
  specialize h2 L39
  intro e
  specialize h1 e
  specialize h2 e
  intro Z41
  specialize h1 Z41
  specialize h2 Z41
  intro e
  specialize h1 e
  specialize h2 e
  intro q43
  specialize h1 q43
  specialize h2 q43
  intro e
  specialize h1 e
  specialize h2 e
  intro Z44
  specialize h1 Z44
  specialize h2 Z44
  intro e
  specialize h1 e
  specialize h2 e
  intro I45
  specialize h1 I45
  specialize h2 I45
  intro e
  specialize h1 e
  specialize h2 e
  intro L46
  specialize h1 L46
  specialize h2 L46
  intro e
  specialize h1 e
  specialize h2 e
  intro Z48
  specialize h1 Z48
  specialize h2 Z48
  intro e
  specialize h1 e
  specialize h2 e
  intro q50
  specialize h1 q50
  specialize h2 q50
  intro e
  specialize h1 e
  specialize h2 e
  intro Z51
  specialize h1 Z51
  specialize h2 Z51
  intro e
  specialize h1 e
  specialize h2 e
  intro I52
  specialize h1 I52
  specialize h2 I52
  intro e
  specialize h1 e
  specialize h2 e
  intro L53
  specialize h1 L53
  specialize h2 L53
  intro e
  specialize h1 e
  specialize h2 e
  intro Z55
  specialize h1 Z55
  specialize h2 Z55
  intro e
  specialize h1 e
  specialize h2 e
  intro q57
  specialize h1 q57
  specialize h2 q57
  intro e
  specialize h1 e
  specialize h2 e
  intro Z58
  specialize h1 Z58
  specialize h2 Z58
  intro e
  specialize h1 e
  specialize h2 e
  intro I59
  specialize h1 I59
  specialize h2 I59
  intro e
  specialize h1 e
  specialize h2 e
  intro L60
  specialize h1 L60
  specialize h2 L60
  intro e
  specialize h1 e
  specialize h2 e
  intro Z62
  specialize h1 Z62
  specialize h2 Z62
  intro e
  specialize h1 e
  specialize h2 e
  intro q64
  specialize h1 q64
  specialize h2 q64
  intro e
  specialize h1 e
  specialize h2 e
  intro Z65
  specialize h1 Z65
  specialize h2 Z65
  intro e
  specialize h1 e
  specialize h2 e
  intro I66
  specialize h1 I66
  specialize h2 I66
  intro e
  specialize h1 e
  specialize h2 e
  intro L67
  specialize h1 L67
  specialize h2 L67
  intro e
  specialize h1 e
  specialize h2 e
  intro Z69
  specialize h1 Z69
  specialize h2 Z69
  intro e
  specialize h1 e
  specialize h2 e
  intro q71
  specialize h1 q71
  specialize h2 q71
  intro e
  specialize h1 e
  specialize h2 e
  intro Z72
  specialize h1 Z72
  specialize h2 Z72
  intro e
  specialize h1 e
  specialize h2 e
  intro I73
  specialize h1 I73
  specialize h2 I73
  intro e
  specialize h1 e
  specialize h2 e
  intro L74
  specialize h1 L74
  specialize h2 L74
  intro e
  specialize h1 e
  specialize h2 e
  intro Z76
  specialize h1 Z76
  specialize h2 Z76
  intro e
  specialize h1 e
  specialize h2 e
  intro q78
  specialize h1 q78
  specialize h2 q78
  intro e
  specialize h1 e
  specialize h2 e
  intro Z79
  specialize h1 Z79
  specialize h2 Z79
  intro e
  specialize h1 e
  specialize h2 e
  intro I80
  specialize h1 I80
  specialize h2 I80
  intro e
  specialize h1 e
  specialize h2 e
  intro L81
  specialize h1 L81
  specialize h2 L81
  intro e
  specialize h1 e
  specialize h2 e
  intro Z83
  specialize h1 Z83
  specialize h2 Z83
  intro e
  specialize h1 e
  specialize h2 e
  intro q85
  specialize h1 q85
  specialize h2 q85
  intro e
  specialize h1 e
  specialize h2 e
  intro Z86
  specialize h1 Z86
  specialize h2 Z86
  intro e
  specialize h1 e
  specialize h2 e
  intro I87
  specialize h1 I87
  specialize h2 I87
  intro e
  specialize h1 e
  specialize h2 e
  intro L88
  specialize h1 L88
  specialize h2 L88
  intro e
  specialize h1 e
  specialize h2 e
  intro Z90
  specialize h1 Z90
  specialize h2 Z90
  intro e
  specialize h1 e
  specialize h2 e
  intro q92
  specialize h1 q92
  specialize h2 q92
  intro e
  specialize h1 e
  specialize h2 e
  intro Z93
  specialize h1 Z93
  specialize h2 Z93
  intro e
  specialize h1 e
  specialize h2 e
  intro I94
  specialize h1 I94
  specialize h2 I94
  intro e
  specialize h1 e
  specialize h2 e
  intro L95
  specialize h1 L95
  specialize h2 L95
  intro e
  specialize h1 e
  specialize h2 e
  intro Z97
  specialize h1 Z97
  specialize h2 Z97
  intro e
  specialize h1 e
  specialize h2 e
  intro q99
  specialize h1 q99
  specialize h2 q99
  intro e
  specialize h1 e
  specialize h2 e
  intro Z100
  specialize h1 Z100
  specialize h2 Z100
  intro e
  specialize h1 e
  specialize h2 e
  intro I101
  specialize h1 I101
  specialize h2 I101
  intro e
  specialize h1 e
  specialize h2 e
  intro L102
  specialize h1 L102
  specialize h2 L102
  intro e
  specialize h1 e
  specialize h2 e
  intro Z104
  specialize h1 Z104
  specialize h2 Z104
  intro e
  specialize h1 e
  specialize h2 e
  intro q106
  specialize h1 q106
  specialize h2 q106
  intro e
  specialize h1 e
  specialize h2 e
  intro Z107
  specialize h1 Z107
  specialize h2 Z107
  intro e
  specialize h1 e
  specialize h2 e
  intro I108
  specialize h1 I108
  specialize h2 I108
  intro e
  specialize h1 e
  specialize h2 e
  intro L109
  specialize h1 L109
  specialize h2 L109
  intro e
  specialize h1 e
  specialize h2 e
  intro Z111
  specialize h1 Z111
  specialize h2 Z111
  intro e
  specialize h1 e
  specialize h2 e
  intro q113
  specialize h1 q113
  specialize h2 q113
  intro e
  specialize h1 e
  specialize h2 e
  intro Z114
  specialize h1 Z114
  specialize h2 Z114
  intro e
  specialize h1 e
  specialize h2 e
  intro I115
  specialize h1 I115
  specialize h2 I115
  intro e
  specialize h1 e
  specialize h2 e
  intro L116
  specialize h1 L116
  specialize h2 L116
  intro e
  specialize h1 e
  specialize h2 e
  intro Z118
  specialize h1 Z118
  specialize h2 Z118
  intro e
  specialize h1 e
  specialize h2 e
  intro q120
  specialize h1 q120
  specialize h2 q120
  intro e
  specialize h1 e
  specialize h2 e
  intro Z121
  specialize h1 Z121
  specialize h2 Z121
  intro e
  specialize h1 e
  specialize h2 e
  intro I122
  specialize h1 I122
  specialize h2 I122
  intro e
  specialize h1 e
  specialize h2 e
  intro L123
  specialize h1 L123
  specialize h2 L123
  intro e
  specialize h1 e
  specialize h2 e
  intro Z125
  specialize h1 Z125
  specialize h2 Z125
  intro e
  specialize h1 e
  specialize h2 e
  intro q128 q129 q127
  specialize h1 q128 q129 q127
  specialize h2 q128 q129 q127
  intro e
  specialize h1 e
  specialize h2 e
  intro e
  specialize h1 e
  specialize h2 e
  intro e
  specialize h1 e
  specialize h2 e
  intro Z130
  specialize h1 Z130
  specialize h2 Z130
  intro e
  specialize h1 e
  specialize h2 e
  intro I131
  specialize h1 I131
  specialize h2 I131
  intro e
  specialize h1 e
  specialize h2 e
  intro L132
  specialize h1 L132
  specialize h2 L132
  intro e
  specialize h1 e
  specialize h2 e
  intro Z134
  specialize h1 Z134
  specialize h2 Z134
  intro e
  specialize h1 e
  specialize h2 e
  intro q136
  specialize h1 q136
  specialize h2 q136
  intro e
  specialize h1 e
  specialize h2 e
  intro Z137
  specialize h1 Z137
  specialize h2 Z137
  intro e
  specialize h1 e
  specialize h2 e
  intro I138
  specialize h1 I138
  specialize h2 I138
  intro e
  specialize h1 e
  specialize h2 e
  intro L139
  specialize h1 L139
  specialize h2 L139
  intro e
  specialize h1 e
  specialize h2 e
  intro Z141
  specialize h1 Z141
  specialize h2 Z141
  intro e
  specialize h1 e
  specialize h2 e
  intro I143
  specialize h1 I143
  specialize h2 I143
  intro e
  specialize h1 e
  specialize h2 e
  intro q144
  specialize h1 q144
  specialize h2 q144
  intro e
  specialize h1 e
  specialize h2 e
  intro Z145
  specialize h1 Z145
  specialize h2 Z145
  intro e
  specialize h1 e
  specialize h2 e
  intro I146
  specialize h1 I146
  specialize h2 I146
  intro e
  specialize h1 e
  specialize h2 e
  intro L147
  specialize h1 L147
  specialize h2 L147
  intro e
  specialize h1 e
  specialize h2 e
  intro Z149
  specialize h1 Z149
  specialize h2 Z149
  intro e
  specialize h1 e
  specialize h2 e
  intro q151
  specialize h1 q151
  specialize h2 q151
  intro e
  specialize h1 e
  specialize h2 e
  intro Z152
  specialize h1 Z152
  specialize h2 Z152
  intro e
  specialize h1 e
  specialize h2 e
  intro I153
  specialize h1 I153
  specialize h2 I153
  intro e
  specialize h1 e
  specialize h2 e
  intro L154
  specialize h1 L154
  specialize h2 L154
  intro e
  specialize h1 e
  specialize h2 e
  intro Z156
  specialize h1 Z156
  specialize h2 Z156
  intro e
  specialize h1 e
  specialize h2 e
  intro q158
  specialize h1 q158
  specialize h2 q158
  intro e
  specialize h1 e
  specialize h2 e
  intro Z159
  specialize h1 Z159
  specialize h2 Z159
  intro e
  specialize h1 e
  specialize h2 e
  intro I160
  specialize h1 I160
  specialize h2 I160
  intro e
  specialize h1 e
  specialize h2 e
  intro L161
  specialize h1 L161
  specialize h2 L161
  intro e
  specialize h1 e
  specialize h2 e
  intro Z163
  specialize h1 Z163
  specialize h2 Z163
  intro e
  specialize h1 e
  specialize h2 e
  intro q165
  specialize h1 q165
  specialize h2 q165
  intro e
  specialize h1 e
  specialize h2 e
  intro Z166
  specialize h1 Z166
  specialize h2 Z166
  intro e
  specialize h1 e
  specialize h2 e
  intro I167
  specialize h1 I167
  specialize h2 I167
  intro e
  specialize h1 e
  specialize h2 e
  intro L168
  specialize h1 L168
  specialize h2 L168
  intro e
  specialize h1 e
  specialize h2 e
  intro Z170
  specialize h1 Z170
  specialize h2 Z170
  intro e
  specialize h1 e
  specialize h2 e
  intro I172
  specialize h1 I172
  specialize h2 I172
  intro e
  specialize h1 e
  specialize h2 e
  intro q173
  specialize h1 q173
  specialize h2 q173
  intro e
  specialize h1 e
  specialize h2 e
  intro Z174
  specialize h1 Z174
  specialize h2 Z174
  intro e
  specialize h1 e
  specialize h2 e
  intro I175
  specialize h1 I175
  specialize h2 I175
  intro e
  specialize h1 e
  specialize h2 e
  intro L176
  specialize h1 L176
  specialize h2 L176
  intro e
  specialize h1 e
  specialize h2 e
  intro Z178
  specialize h1 Z178
  specialize h2 Z178
  intro e
  specialize h1 e
  specialize h2 e
  intro q180
  specialize h1 q180
  specialize h2 q180
  intro e
  specialize h1 e
  specialize h2 e
  intro Z181
  specialize h1 Z181
  specialize h2 Z181
  intro e
  specialize h1 e
  specialize h2 e
  intro I182
  specialize h1 I182
  specialize h2 I182
  intro e
  specialize h1 e
  specialize h2 e
  intro L183
  specialize h1 L183
  specialize h2 L183
  intro e
  specialize h1 e
  specialize h2 e
  intro Z185
  specialize h1 Z185
  specialize h2 Z185
  intro e
  specialize h1 e
  specialize h2 e
  intro q187
  specialize h1 q187
  specialize h2 q187
  intro e
  specialize h1 e
  specialize h2 e
  intro Z188
  specialize h1 Z188
  specialize h2 Z188
  intro e
  specialize h1 e
  specialize h2 e
  intro I189
  specialize h1 I189
  specialize h2 I189
  intro e
  specialize h1 e
  specialize h2 e
  intro L190
  specialize h1 L190
  specialize h2 L190
  intro e
  specialize h1 e
  specialize h2 e
  intro Z192
  specialize h1 Z192
  specialize h2 Z192
  intro e
  specialize h1 e
  specialize h2 e
  intro q194
  specialize h1 q194
  specialize h2 q194
  intro e
  specialize h1 e
  specialize h2 e
  intro Z195
  specialize h1 Z195
  specialize h2 Z195
  intro e
  specialize h1 e
  specialize h2 e
  intro I196
  specialize h1 I196
  specialize h2 I196
  intro e
  specialize h1 e
  specialize h2 e
  intro L197
  specialize h1 L197
  specialize h2 L197
  intro e
  specialize h1 e
  specialize h2 e
  intro Z199
  specialize h1 Z199
  specialize h2 Z199
  intro e
  specialize h1 e
  specialize h2 e
  intro q201
  specialize h1 q201
  specialize h2 q201
  intro e
  specialize h1 e
  specialize h2 e
  intro Z202
  specialize h1 Z202
  specialize h2 Z202
  intro e
  specialize h1 e
  specialize h2 e
  intro I203
  specialize h1 I203
  specialize h2 I203
  intro e
  specialize h1 e
  specialize h2 e
  intro L204
  specialize h1 L204
  specialize h2 L204
  intro e
  specialize h1 e
  specialize h2 e
  intro Z206
  specialize h1 Z206
  specialize h2 Z206
  intro e
  specialize h1 e
  specialize h2 e
  intro q208
  specialize h1 q208
  specialize h2 q208
  intro e
  specialize h1 e
  specialize h2 e
  intro Z209
  specialize h1 Z209
  specialize h2 Z209
  intro e
  specialize h1 e
  specialize h2 e
  intro I210
  specialize h1 I210
  specialize h2 I210
  intro e
  specialize h1 e
  specialize h2 e
  intro L211
  specialize h1 L211
  specialize h2 L211
  intro e
  specialize h1 e
  specialize h2 e
  intro Z213
  specialize h1 Z213
  specialize h2 Z213
  intro e
  specialize h1 e
  specialize h2 e
  intro q215
  specialize h1 q215
  specialize h2 q215
  intro e
  specialize h1 e
  specialize h2 e
  intro Z216
  specialize h1 Z216
  specialize h2 Z216
  intro e
  specialize h1 e
  specialize h2 e
  intro I217
  specialize h1 I217
  specialize h2 I217
  intro e
  specialize h1 e
  specialize h2 e
  intro L218
  specialize h1 L218
  specialize h2 L218
  intro e
  specialize h1 e
  specialize h2 e
  intro Z220
  specialize h1 Z220
  specialize h2 Z220
  intro e
  specialize h1 e
  specialize h2 e
  intro q222
  specialize h1 q222
  specialize h2 q222
  intro e
  specialize h1 e
  specialize h2 e
  intro Z223
  specialize h1 Z223
  specialize h2 Z223
  intro e
  specialize h1 e
  specialize h2 e
  intro I224
  specialize h1 I224
  specialize h2 I224
  intro e
  specialize h1 e
  specialize h2 e
  intro L225
  specialize h1 L225
  specialize h2 L225
  intro e
  specialize h1 e
  specialize h2 e
  intro Z227
  specialize h1 Z227
  specialize h2 Z227
  intro e
  specialize h1 e
  specialize h2 e
  intro q229
  specialize h1 q229
  specialize h2 q229
  intro e
  specialize h1 e
  specialize h2 e
  intro Z230
  specialize h1 Z230
  specialize h2 Z230
  intro e
  specialize h1 e
  specialize h2 e
  intro I231
  specialize h1 I231
  specialize h2 I231
  intro e
  specialize h1 e
  specialize h2 e
  intro L232
  specialize h1 L232
  specialize h2 L232
  intro e
  specialize h1 e
  specialize h2 e
  intro Z234
  specialize h1 Z234
  specialize h2 Z234
  intro e
  specialize h1 e
  specialize h2 e
  intro q236
  specialize h1 q236
  specialize h2 q236
  intro e
  specialize h1 e
  specialize h2 e
  intro Z237
  specialize h1 Z237
  specialize h2 Z237
  intro e
  specialize h1 e
  specialize h2 e
  intro I238
  specialize h1 I238
  specialize h2 I238
  intro e
  specialize h1 e
  specialize h2 e
  intro L239
  specialize h1 L239
  specialize h2 L239
  intro e
  specialize h1 e
  specialize h2 e
  intro Z241
  specialize h1 Z241
  specialize h2 Z241
  intro e
  specialize h1 e
  specialize h2 e
  intro q243
  specialize h1 q243
  specialize h2 q243
  intro e
  specialize h1 e
  specialize h2 e
  intro Z244
  specialize h1 Z244
  specialize h2 Z244
  intro e
  specialize h1 e
  specialize h2 e
  intro I245
  specialize h1 I245
  specialize h2 I245
  intro e
  specialize h1 e
  specialize h2 e
  intro L246
  specialize h1 L246
  specialize h2 L246
  intro e
  specialize h1 e
  specialize h2 e
  intro Z248
  specialize h1 Z248
  specialize h2 Z248
  intro e
  specialize h1 e
  specialize h2 e
  intro q250
  specialize h1 q250
  specialize h2 q250
  intro e
  specialize h1 e
  specialize h2 e
  intro Z251
  specialize h1 Z251
  specialize h2 Z251
  intro e
  specialize h1 e
  specialize h2 e
  intro I252
  specialize h1 I252
  specialize h2 I252
  intro e
  specialize h1 e
  specialize h2 e
  intro L253
  specialize h1 L253
  specialize h2 L253
  intro e
  specialize h1 e
  specialize h2 e
  intro Z255
  specialize h1 Z255
  specialize h2 Z255
  intro e
  specialize h1 e
  specialize h2 e
  intro q257
  specialize h1 q257
  specialize h2 q257
  intro e
  specialize h1 e
  specialize h2 e
  intro Z258
  specialize h1 Z258
  specialize h2 Z258
  intro e
  specialize h1 e
  specialize h2 e
  intro I259
  specialize h1 I259
  specialize h2 I259
  intro e
  specialize h1 e
  specialize h2 e
  intro L260
  specialize h1 L260
  specialize h2 L260
  intro e
  specialize h1 e
  specialize h2 e
  intro Z262
  specialize h1 Z262
  specialize h2 Z262
  intro e
  specialize h1 e
  specialize h2 e
  intro q264
  specialize h1 q264
  specialize h2 q264
  intro e
  specialize h1 e
  specialize h2 e
  intro Z265
  specialize h1 Z265
  specialize h2 Z265
  intro e
  specialize h1 e
  specialize h2 e
  intro I266
  specialize h1 I266
  specialize h2 I266
  intro e
  specialize h1 e
  specialize h2 e
  intro L267
  specialize h1 L267
  specialize h2 L267
  intro e
  specialize h1 e
  specialize h2 e
  intro Z269
  specialize h1 Z269
  specialize h2 Z269
  intro e
  specialize h1 e
  specialize h2 e
  intro q271
  specialize h1 q271
  specialize h2 q271
  intro e
  specialize h1 e
  specialize h2 e
  intro Z272
  specialize h1 Z272
  specialize h2 Z272
  intro e
  specialize h1 e
  specialize h2 e
  intro I273
  specialize h1 I273
  specialize h2 I273
  intro e
  specialize h1 e
  specialize h2 e
  intro L274
  specialize h1 L274
  specialize h2 L274
  intro e
  specialize h1 e
  specialize h2 e
  intro Z276
  specialize h1 Z276
  specialize h2 Z276
  intro e
  specialize h1 e
  specialize h2 e
  exact hq _ _ _ h1 h2
