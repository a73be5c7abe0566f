/-! ===== constructors: from a world, cells are made and made whole ===== -/
/-- the shape of one cell, references not into U -/
def sh1 (Z : jZ) (U : List Nat) (a c : Nat) : Prop :=
  (∀ j k o, jsh c j = some (k, o) → ∃ b, jr Z a j = some b ∧ b ∉ U ∧ jk Z b k ∧ ∀ m, o = some m → jlen Z b = m)
  ∧ (c = 18 → ∀ i b, jr Z a i = some b → b ∉ U ∧ jk Z b 5)
  ∧ (c = 17 → ∀ i, i < jlen Z a → ∃ b, jr Z a i = some b ∧ b ∉ U ∧ jk Z b 2)
  ∧ (c = 19 → ∀ i, i < jlen Z a → ∃ b, jr Z a i = some b ∧ b ∉ U ∧ jk Z b 13 ∧ jlen Z b = 40)
theorem sh1_ext {Z Z' : jZ} {U U' : List Nat} {a c : Nat} (h : sh1 Z U a c) (hk : jk Z a c) (hx : jext Z Z') (hr : Z'.2.2.2 a = Z.2.2.2 a) (hU : ∀ b, b ∈ Z.1 → b ∉ U → b ∉ U') : sh1 Z' U' a c := by
  have er : ∀ i, jr Z' a i = jr Z a i := fun i => congrFun hr i
  refine ⟨fun j k o e => ?_, fun e i b hb => ?_, fun e i hi => ?_, fun e i hi => ?_⟩
  · obtain ⟨b, h1, h2, h3, h4⟩ := h.1 j k o e
    exact ⟨b, (er j).trans h1, hU b h3.1 h2, (hx b k h3).1, fun m hm => (hx b k h3).2.trans (h4 m hm)⟩
  · rw [er] at hb
    obtain ⟨h1, h2⟩ := h.2.1 e i b hb
    exact ⟨hU b h2.1 h1, (hx b 5 h2).1⟩
  · rw [(hx a c hk).2] at hi
    obtain ⟨b, h1, h2, h3⟩ := h.2.2.1 e i hi
    exact ⟨b, (er i).trans h1, hU b h3.1 h2, (hx b 2 h3).1⟩
  · rw [(hx a c hk).2] at hi
    obtain ⟨b, h1, h2, h3, h4⟩ := h.2.2.2 e i hi
    exact ⟨b, (er i).trans h1, hU b h3.1 h2, (hx b 13 h3).1, (hx b 13 h3).2.trans h4⟩
theorem jsh_arr {k j : Nat} (h : 13 ≤ k) : jsh k j = none := by
  unfold jsh
  split <;> first | rfl | omega
theorem jsh_no {k j k' : Nat} {o : Option Nat} {P : Prop} (h : 13 ≤ k) (e : jsh k j = some (k', o)) : P := by
  rw [jsh_arr h] at e
  cases e
theorem sh1_prim {Z : jZ} {U : List Nat} {a k : Nat} (h : 13 ≤ k) (h2 : k ≤ 16) : sh1 Z U a k :=
  ⟨fun _ _ _ e => jsh_no h e, fun e => by omega, fun e => by omega, fun e => by omega⟩
/-- from the base (Zs, Is): new cells, those of U not whole yet; at most x cells, y slots, z growth more -/
def CW (Zs : jZ) (Is : jI) (Z : jZ) (I : jI) (U : List Nat) (x y z : Nat) : Prop :=
  jext Zs Z ∧ (∀ a ∈ Zs.1, Z.2.2.2 a = Zs.2.2.2 a ∧ I a = Is a) ∧ (∀ a c, jk Z a c → a ∉ Zs.1 → a ∉ U → sh1 Z U a c) ∧ PW Z I ∧ (∀ u ∈ U, u ∈ Z.1 ∧ u ∉ Zs.1 ∧ NH Z u)
  ∧ (jcz Z ≤ jcz Zs + x ∧ jsz Z ≤ jsz Zs + y ∧ potc Z ≤ potc Zs + z) ∧ CP Zs Z
theorem CW_nw {Zs Z : jZ} {Is I : jI} {U : List Nat} {x y z q : Nat} (k m : Nat) (h : CW Zs Is Z I U x y z) (hq : q ∉ Z.1) : CW Zs Is (jnw Z q k m) (jz0 I q) (q :: U) (x + 1) (y + jcs k m) (z + if k = 7 then 2048 else 0) := by
  obtain ⟨h1, h2, h3, h4, h5, ⟨h6, h7, h8⟩, h9⟩ := h
  have hx : jext Z (jnw Z q k m) := jext_nw hq
  have hqs : q ∉ Zs.1 := fun e => hq (h1 q _ ⟨e, rfl⟩).1.1
  refine ⟨jext_trans h1 hx, fun a ha => ?_, fun a c ha hs hU => ?_, PW_nw h4 hq, fun u hu => ?_, ⟨?_, ?_, ?_⟩, fun r hr => (capN_nw hq).trans (h9 r hr)⟩
  · have hne : a ≠ q := fun e => hqs (e ▸ ha)
    exact ⟨(va_up_ne _ _ hne).trans (h2 a ha).1, (va_up_ne _ _ hne).trans (h2 a ha).2⟩
  · have hne : a ≠ q := fun e => hU (e ▸ List.mem_cons_self)
    refine sh1_ext (h3 a c (jk_old ha hne) hs (fun e => hU (List.mem_cons_of_mem _ e))) (jk_old ha hne) hx (va_up_ne _ _ hne) (fun b hb hbU e => ?_)
    rcases List.mem_cons.mp e with e | e
    · exact hq (e ▸ hb)
    · exact hbU e
  · rcases List.mem_cons.mp hu with e | e
    · subst e; exact ⟨jk_nw.1, hqs, NH_new h4.1 hq⟩
    · obtain ⟨g1, g2, g3⟩ := h5 u e
      exact ⟨List.mem_append_left _ g1, g2, NH_nw g3⟩
  · rw [jcz_nw]; omega
  · rw [jsz_nw hq]; omega
  · rw [potc_nw h4.1 hq]; omega
theorem CW_put {Zs Z : jZ} {Is I : jI} {U : List Nat} {x y z z' a c j b : Nat} (h : CW Zs Is Z I U x y z) (ha : a ∈ U) (ka : jk Z a c) (hn : jr Z a j = none) (hb : b ∈ Z.1) (hbU : b ∉ U) (hh : NH Z b ∨ jsr c j = true) (hA : jia (Z.2.1 b) = true → jsr c j = false → ∀ i, okA c j i (I b i))
    (hR : c = 7 → ∀ b0 b1 b2 b4, jr (jpR Z a j (some b)) a 0 = some b0 → jr (jpR Z a j (some b)) a 1 = some b1 → jr (jpR Z a j (some b)) a 2 = some b2 → jr (jpR Z a j (some b)) a 4 = some b4 → RI1 (jpR Z a j (some b)) I a b0 b1 b2 b4)
    (hP : potc (jpR Z a j (some b)) ≤ potc Zs + z') (hC : ∀ r, jk Zs r 7 → capN (jpR Z a j (some b)) r = capN Z r) : CW Zs Is (jpR Z a j (some b)) I U x y z' := by
  obtain ⟨h1, h2, h3, h4, h5, ⟨h6, h7, h8⟩, h9⟩ := h
  refine ⟨jext_trans h1 jext_putr, fun a' ha' => ?_, fun a' c' hk hs hU => ?_, PW_put h4 ka hn hb hh hA hR, fun u hu => ?_, ⟨h6, h7, hP⟩, fun r hr => (hC r hr).trans (h9 r hr)⟩
  · have hne : a' ≠ a := fun e => (h5 a ha).2.1 (e ▸ ha')
    exact ⟨(va_up_ne _ _ hne).trans (h2 a' ha').1, (h2 a' ha').2⟩
  · have hne : a' ≠ a := fun e => hU (e ▸ ha)
    exact sh1_ext (h3 a' c' hk hs hU) hk jext_putr (va_up_ne _ _ hne) (fun _ _ g => g)
  · obtain ⟨g1, g2, g3⟩ := h5 u hu
    exact ⟨g1, g2, NH_put g3 (fun e => hbU (e ▸ hu))⟩
theorem CW_int {Zs Z : jZ} {Is I : jI} {U : List Nat} {x y z a c j : Nat} {v : Int32} (h : CW Zs Is Z I U x y z) (ha : a ∈ U) (ka : jk Z a c) (hc : c < 13) (h7 : c ≠ 7) (ok : okF c j v) : CW Zs Is Z (jpI I a j v) U x y z := by
  obtain ⟨h1, h2, h3, ⟨p1, p2, p3⟩, h5, h6, h9⟩ := h
  have hna := (h5 a ha).2.2
  refine ⟨h1, fun a' ha' => ⟨(h2 a' ha').1, ?_⟩, h3, ⟨p1, ⟨fun a' c' j' hk hc' => ?_, fun a' c' j' b hk e kb hs i => ?_⟩, fun a' b0 b1 b2 b4 hk e0 e1 e2 e4 => ?_⟩, h5, h6, h9⟩
  · have hne : a' ≠ a := fun e => (h5 a ha).2.1 (e ▸ ha')
    rw [jpI_ne hne]; exact (h2 a' ha').2
  · by_cases e : a' = a
    · subst e
      cases ka.2.symm.trans hk.2
      by_cases ej : j' = j
      · subst ej; rw [jpI_at]; exact ok
      · rw [jpI_off ej]; exact p2.1 _ _ _ hk hc'
    · rw [jpI_ne e]; exact p2.1 _ _ _ hk hc'
  · have hne : b ≠ a := fun g => hna a' c' j' hk (g ▸ e)
    rw [jpI_ne hne]; exact p2.2 a' c' j' b hk e kb hs i
  · have r := p3 a' b0 b1 b2 b4 hk e0 e1 e2 e4
    unfold RI1 at r ⊢
    have n0 : a' ≠ a := fun g => h7 (ka.2.symm.trans (by rw [← g]; exact hk.2))
    have n1 : b1 ≠ a := fun g => hna a' 7 1 hk (g ▸ e1)
    have n2 : b2 ≠ a := fun g => hna a' 7 2 hk (g ▸ e2)
    have n4 : b4 ≠ a := fun g => hna a' 7 4 hk (g ▸ e4)
    rw [jpI_ne n0, jpI_ne n1, jpI_ne n2, jpI_ne n4]
    exact r
theorem CW_done {Zs Z : jZ} {Is I : jI} {U : List Nat} {x y z u c : Nat} (h : CW Zs Is Z I (u :: U) x y z) (ku : jk Z u c) (hs : sh1 Z U u c) : CW Zs Is Z I U x y z := by
  obtain ⟨h1, h2, h3, h4, h5, h6, h9⟩ := h
  refine ⟨h1, h2, fun a c' hk hs' hU => ?_, h4, fun w hw => h5 w (List.mem_cons_of_mem _ hw), h6, h9⟩
  by_cases e : a = u
  · subst e
    cases ku.2.symm.trans hk.2
    exact hs
  · exact sh1_ext (h3 a c' hk hs' (fun q => (List.mem_cons.mp q).elim e hU)) hk jext_rfl rfl (fun b _ hb q => hb (List.mem_cons_of_mem _ q))
/-- in the constructor of h0, of kind c, begun at (Zc, Ic): the fields J are done -/
def SW (Zs : jZ) (Is : jI) (Zc : jZ) (Ic : jI) (U : List Nat) (h0 c : Nat) (J : List Nat) (Z : jZ) (I : jI) (x y z : Nat) : Prop :=
  CW Zs Is Z I (h0 :: U) x y z ∧ jext Zc Z ∧ (∀ u ∈ Zc.1, u ≠ h0 → Z.2.2.2 u = Zc.2.2.2 u ∧ I u = Ic u) ∧ jk Z h0 c ∧ h0 ∉ U ∧ (∀ j, j ∉ J → jr Z h0 j = none)
  ∧ (∀ j ∈ J, ∀ k o, jsh c j = some (k, o) → ∃ b, jr Z h0 j = some b ∧ b ∉ h0 :: U ∧ jk Z b k ∧ ∀ m, o = some m → jlen Z b = m)
theorem SW_start {Zs Z : jZ} {Is I : jI} {U : List Nat} {h0 c x y z : Nat} (h : CW Zs Is Z I (h0 :: U) x y z) (hk : jk Z h0 c) (hU : h0 ∉ U) (hn : ∀ j, jr Z h0 j = none) : SW Zs Is Z I U h0 c [] Z I x y z :=
  ⟨h, jext_rfl, fun _ _ _ => ⟨rfl, rfl⟩, hk, hU, fun j _ => hn j, fun _ h => absurd h List.not_mem_nil⟩
theorem SW_int {Zs Zc Z : jZ} {Is Ic I : jI} {U : List Nat} {h0 c x y z : Nat} {J : List Nat} (j : Nat) {v : Int32} (h : SW Zs Is Zc Ic U h0 c J Z I x y z) (hc : c < 13 := by decide) (h7 : c ≠ 7 := by decide) (ok : okF c j v) : SW Zs Is Zc Ic U h0 c J Z (jpI I h0 j v) x y z := by
  obtain ⟨h1, h2, h3, h4, h5, h6, h7'⟩ := h
  exact ⟨CW_int h1 List.mem_cons_self h4 hc h7 ok, h2, fun u hu hne => ⟨(h3 u hu hne).1, by rw [jpI_ne hne]; exact (h3 u hu hne).2⟩, h4, h5, h6, h7'⟩
/-- a whole cell b goes to field j -/
theorem SW_ref {Zs Zc Z : jZ} {Is Ic I : jI} {U : List Nat} {h0 c x y z z' : Nat} {J : List Nat} (j : Nat) {b : Nat} (h : SW Zs Is Zc Ic U h0 c J Z I x y z) (hj : j ∉ J) (hb : b ∈ Z.1) (hbU : b ∉ h0 :: U) (hh : NH Z b ∨ jsr c j = true) (hA : jia (Z.2.1 b) = true → jsr c j = false → ∀ i, okA c j i (I b i))
    (hR : c = 7 → ∀ b0 b1 b2 b4, jr (jpR Z h0 j (some b)) h0 0 = some b0 → jr (jpR Z h0 j (some b)) h0 1 = some b1 → jr (jpR Z h0 j (some b)) h0 2 = some b2 → jr (jpR Z h0 j (some b)) h0 4 = some b4 → RI1 (jpR Z h0 j (some b)) I h0 b0 b1 b2 b4)
    (hP : potc (jpR Z h0 j (some b)) ≤ potc Zs + z') (hC : ∀ r, jk Zs r 7 → capN (jpR Z h0 j (some b)) r = capN Z r) (hs : ∀ k o, jsh c j = some (k, o) → jk Z b k ∧ ∀ m, o = some m → jlen Z b = m) : SW Zs Is Zc Ic U h0 c (j :: J) (jpR Z h0 j (some b)) I x y z' := by
  obtain ⟨h1, h2, h3, h4, h5, h6, h7⟩ := h
  refine ⟨CW_put h1 List.mem_cons_self h4 (h6 j hj) hb hbU hh hA hR hP hC, jext_trans h2 jext_putr, fun u hu hne => ⟨(va_up_ne _ _ hne).trans (h3 u hu hne).1, (h3 u hu hne).2⟩, h4, h5, fun i hi => ?_, fun i hi k o e => ?_⟩
  · have hne : i ≠ j := fun q => hi (q ▸ List.mem_cons_self)
    rw [jrR_off hne]; exact h6 i (fun q => hi (List.mem_cons_of_mem _ q))
  · by_cases hij : i = j
    · subst hij
      exact ⟨b, jrR_at, hbU, (hs k o e).1, (hs k o e).2⟩
    · obtain ⟨b', g1, g2, g3, g4⟩ := h7 i ((List.mem_cons.mp hi).resolve_left hij) k o e
      exact ⟨b', by rw [jrR_off hij]; exact g1, g2, g3, g4⟩
/-- a new cell, whole at once -/
theorem SW_new {Zs Zc Z : jZ} {Is Ic I : jI} {U : List Nat} {h0 c x y z q : Nat} {J : List Nat} (k m : Nat) (h : SW Zs Is Zc Ic U h0 c J Z I x y z) (hq : q ∉ Z.1) (hs : sh1 (jnw Z q k m) (h0 :: U) q k) (hk7 : k ≠ 7) : SW Zs Is Zc Ic U h0 c J (jnw Z q k m) (jz0 I q) (x + 1) (y + jcs k m) z ∧ q ∉ h0 :: U ∧ NH (jnw Z q k m) q := by
  obtain ⟨h1, h2, h3, h4, h5, h6, h7⟩ := h
  have g := CW_nw k m h1 hq
  rw [if_neg hk7] at g
  have hh0 : h0 ≠ q := fun e => hq (e ▸ h4.1)
  have hqU : q ∉ h0 :: U := fun e => hq (h1.2.2.2.2.1 q e).1
  have hx : jext Z (jnw Z q k m) := jext_nw hq
  refine ⟨⟨CW_done g jk_nw hs, jext_trans h2 hx, fun u hu hne => ?_, (hx _ _ h4).1, h5, fun j hj => by rw [jr_old hh0]; exact h6 j hj, fun j hj k' o e => ?_⟩, hqU, NH_new h1.2.2.2.1.1 hq⟩
  · have hne' : u ≠ q := fun e => hq (e ▸ (h2 u _ ⟨hu, rfl⟩).1.1)
    exact ⟨(va_up_ne _ _ hne').trans (h3 u hu hne).1, (va_up_ne _ _ hne').trans (h3 u hu hne).2⟩
  · obtain ⟨b, g1, g2, g3, g4⟩ := h7 j hj k' o e
    exact ⟨b, by rw [jr_old hh0]; exact g1, g2, (hx _ _ g3).1, fun m' hm => (hx _ _ g3).2.trans (g4 m' hm)⟩
theorem jcsA {k m : Nat} (h : 13 ≤ k) : jcs k m = m := if_neg (by omega)
/-- a new array of ints, longs, bytes or booleans goes to field j -/
theorem SW_arr {Zs Zc Z : jZ} {Is Ic I : jI} {U : List Nat} {h0 c x y z q : Nat} {J : List Nat} (j k m : Nat) (h : SW Zs Is Zc Ic U h0 c J Z I x y z) (hq : q ∉ Z.1) (hj : j ∉ J := by decide) (hk : 13 ≤ k := by decide) (hk2 : k ≤ 16 := by decide) (h7 : c ≠ 7 := by decide) (h00 : ¬ (c = 0 ∧ j = 0) := by decide) (hs : ∀ k' o, jsh c j = some (k', o) → k' = k ∧ ∀ m', o = some m' → m' = m) : SW Zs Is Zc Ic U h0 c (j :: J) (jpR (jnw Z q k m) h0 j (some q)) (jz0 I q) (x + 1) (y + m) z := by
  obtain ⟨g1, g2, g3⟩ := SW_new k m h hq (sh1_prim hk hk2) (by omega)
  rw [jcsA hk] at g1
  have In : jz0 I q q = fun _ => 0 := va_up_self _ _ _
  refine SW_ref j g1 hj jk_nw.1 g2 (Or.inl g3) (fun _ _ i => by rw [In]; exact okA0 _ _ _) (fun e => absurd e h7) (by rw [potc_put g1.2.2.2.1 h00 (fun e => h7 e.1)]; exact g1.1.2.2.2.2.2.1.2.2) (fun r _ => capN_put g1.2.2.2.1 h00) (fun k' o e => ?_)
  obtain ⟨e1, e2⟩ := hs k' o e
  subst e1
  exact ⟨jk_nw, fun m' hm => by rw [e2 m' hm]; exact jlen_nw⟩
/-- what a constructor does: x, y, z more; ez of the growth is its own -/
def CTWs (Zs : jZ) (c : Nat) (f : Nat → jZ → jI → jL → (jZ → jI → jL → Prop) → Prop) (dx dy ez dz : Nat) : Prop :=
  ∀ (Is : jI) (Z : jZ) (I : jI) (L : jL) (U : List Nat) (h0 x y z : Nat) (Q : jZ → jI → jL → Prop), CW Zs Is Z I (h0 :: U) x y (z + ez) → jk Z h0 c → h0 ∉ U → (∀ j, jr Z h0 j = none) → (∀ j, I h0 j = 0) →
    (∀ Z' I' L', CW Zs Is Z' I' U (x + dx) (y + dy) (z + dz) → jk Z' h0 c → NH Z' h0 → (c = 7 → klen Z' h0 = 64) → jext Z Z' → (∀ u ∈ Z.1, u ≠ h0 → Z'.2.2.2 u = Z.2.2.2 u ∧ I' u = I u) → Q Z' I' L') → f h0 Z I L Q
def CTW (c : Nat) (f : Nat → jZ → jI → jL → (jZ → jI → jL → Prop) → Prop) (dx dy ez dz : Nat) : Prop := ∀ Zs : jZ, CTWs Zs c f dx dy ez dz
theorem SW_end {Zs Zc Z : jZ} {Is Ic I : jI} {U : List Nat} {h0 c x y z : Nat} {J : List Nat} (h : SW Zs Is Zc Ic U h0 c J Z I x y z) (hc : c < 13) (hJ : ∀ j k o, jsh c j = some (k, o) → j ∈ J) : CW Zs Is Z I U x y z ∧ NH Z h0 := by
  obtain ⟨h1, h2, h3, h4, h5, h6, h7⟩ := h
  refine ⟨CW_done h1 h4 ⟨fun j k o e => ?_, fun e => by omega, fun e => by omega, fun e => by omega⟩, (h1.2.2.2.2.1 h0 List.mem_cons_self).2.2⟩
  obtain ⟨b, g1, g2, g3⟩ := h7 j (hJ j k o e) k o e
  exact ⟨b, g1, fun q => g2 (List.mem_cons_of_mem _ q), g3⟩
/-- a new object, made whole by its constructor -/
theorem SW_obj {Zs Zc Z Z1 : jZ} {Is Ic I I1 : jI} {L1 : jL} {U : List Nat} {h0 c x y z q : Nat} {J : List Nat} {k dx dy ez dz : Nat} (z1 : Nat) {f : Nat → jZ → jI → jL → (jZ → jI → jL → Prop) → Prop} (hf : CTWs Zs k f dx dy ez dz) (h : SW Zs Is Zc Ic U h0 c J Z I x y z) (hq : q ∉ Z.1) (eZ : Z1 = jnw Z q k 0) (eI : I1 = jz0 I q) (hz : z + (if k = 7 then 2048 else 0) = z1 + ez) {Q : jZ → jI → jL → Prop}
    (kk : ∀ Z' I' L', SW Zs Is Zc Ic U h0 c J Z' I' (x + 1 + dx) (y + jcs k 0 + dy) (z1 + dz) → jk Z' q k → q ∉ h0 :: U → NH Z' q → (k = 7 → klen Z' q = 64) → jext Z Z' → (∀ u ∈ Z.1, Z'.2.2.2 u = Z.2.2.2 u ∧ I' u = I u) → Q Z' I' L') : f q Z1 I1 L1 Q := by
  subst eZ; subst eI
  obtain ⟨h1, h2, h3, h4, h5, h6, h7⟩ := h
  have g := CW_nw k 0 h1 hq
  rw [hz] at g
  have hh0 : h0 ≠ q := fun e => hq (e ▸ h4.1)
  have hqU : q ∉ h0 :: U := fun e => hq (h1.2.2.2.2.1 q e).1
  have hx : jext Z (jnw Z q k 0) := jext_nw hq
  refine hf Is _ _ _ (h0 :: U) q _ _ _ _ g jk_nw hqU (fun j => jr_new) (fun j => congrFun (va_up_self _ _ _) j) (fun Z' I' L' c1 c2 c3 c4 c5 c6 => ?_)
  have old : ∀ u ∈ Z.1, Z'.2.2.2 u = Z.2.2.2 u ∧ I' u = I u := fun u hu => by
    have hne : u ≠ q := fun e => hq (e ▸ hu)
    obtain ⟨o1, o2⟩ := c6 u (List.mem_append_left _ hu) hne
    exact ⟨o1.trans (va_up_ne _ _ hne), o2.trans (va_up_ne _ _ hne)⟩
  have hxx := jext_trans hx c5
  refine kk Z' I' L' ⟨c1, jext_trans h2 hxx, fun u hu hne => ?_, (hxx _ _ h4).1, h5, fun j hj => (congrFun (old h0 h4.1).1 j).trans (h6 j hj), fun j hj k' o e => ?_⟩ c2 hqU c3 c4 hxx old
  · obtain ⟨o1, o2⟩ := old u (h2 u _ ⟨hu, rfl⟩).1.1
    exact ⟨o1.trans (h3 u hu hne).1, o2.trans (h3 u hu hne).2⟩
  · obtain ⟨b, g1, g2, g3, g4⟩ := h7 j hj k' o e
    exact ⟨b, (congrFun (old h0 h4.1).1 j).trans g1, g2, (hxx _ _ g3).1, fun m hm => (hxx _ _ g3).2.trans (g4 m hm)⟩
/-- an object goes to field j -/
theorem SW_put {Zs Zc Z : jZ} {Is Ic I : jI} {U : List Nat} {h0 c x y z b k : Nat} {J : List Nat} (j : Nat) (h : SW Zs Is Zc Ic U h0 c J Z I x y z) (kb : jk Z b k) (hbU : b ∉ h0 :: U) (hn : NH Z b) (hk : jia k = false) (hj : j ∉ J := by decide) (h7 : c ≠ 7 := by decide) (h00 : ¬ (c = 0 ∧ j = 0) := by decide) (hs : ∀ k' o, jsh c j = some (k', o) → k' = k ∧ ∀ m', o = some m' → jlen Z b = m') : SW Zs Is Zc Ic U h0 c (j :: J) (jpR Z h0 j (some b)) I x y z := by
  refine SW_ref j h hj kb.1 hbU (Or.inl hn) (fun e => by rw [kb.2, hk] at e; cases e) (fun e => absurd e h7) (by rw [potc_put h.2.2.2.1 h00 (fun e => h7 e.1)]; exact h.1.2.2.2.2.2.1.2.2) (fun r _ => capN_put h.2.2.2.1 h00) (fun k' o e => ?_)
  obtain ⟨e1, e2⟩ := hs k' o e
  subst e1
  exact ⟨kb, e2⟩
theorem jsh_big {c j : Nat} (h : 67 ≤ j) : jsh c j = none := by
  unfold jsh
  split <;> first | rfl | omega
theorem shJ {c : Nat} {J : List Nat} (h : ∀ j, j < 67 → (jsh c j).isSome = true → j ∈ J) : ∀ j k o, jsh c j = some (k, o) → j ∈ J := fun j k o e => by
  by_cases hj : j < 67
  · exact h j hj (by rw [e]; rfl)
  · rw [jsh_big (by omega)] at e; cases e
theorem shM {c j k m : Nat} (h : jsh c j = some (k, some m)) : ∀ k' o, jsh c j = some (k', o) → k' = k ∧ ∀ m', o = some m' → m' = m := fun k' o e => by
  rw [h] at e
  cases e
  exact ⟨rfl, fun m' hm => by cases hm; rfl⟩
theorem shMn {c j k m : Nat} (h : jsh c j = some (k, none)) : ∀ k' o, jsh c j = some (k', o) → k' = k ∧ ∀ m', o = some m' → m' = m := fun k' o e => by
  rw [h] at e
  cases e
  exact ⟨rfl, fun m' hm => by cases hm⟩
theorem shMo {Z : jZ} {b c j k : Nat} (h : jsh c j = some (k, none)) : ∀ k' o, jsh c j = some (k', o) → k' = k ∧ ∀ m', o = some m' → jlen Z b = m' := fun k' o e => by
  rw [h] at e
  cases e
  exact ⟨rfl, fun m' hm => by cases hm⟩
theorem shMl {Z : jZ} {b c j k m : Nat} (h : jsh c j = some (k, some m)) (hl : jlen Z b = m) : ∀ k' o, jsh c j = some (k', o) → k' = k ∧ ∀ m', o = some m' → jlen Z b = m' := fun k' o e => by
  rw [h] at e
  cases e
  exact ⟨rfl, fun m' hm => by cases hm; exact hl⟩
theorem RI1_zero {Z : jZ} {I : jI} {a b0 b1 b2 b4 : Nat} (hl : jlen Z b0 = 64) (h : ∀ j, I a j = 0) (h2 : ∀ i, I b2 i = 0) : RI1 Z I a b0 b1 b2 b4 := by
  have z0 : (0 : Int32).toInt = 0 := rfl
  unfold RI1
  rw [h 3, h 8, h 9, hl, z0]
  refine ⟨by omega, Or.inl rfl, ?_, fun p _ => ?_, by omega, fun p hp => by omega⟩
  · rcases capN_cases Z a with e | e <;> rw [e] <;> omega
  · rw [h2 p, z0]; omega
