/-! ===== cells are made: the world, but for shapes that aren't whole yet ===== -/
def NH (Z : jZ) (b : Nat) : Prop := ∀ a c j, jk Z a c → jr Z a j ≠ some b
def PW (Z : jZ) (I : jI) : Prop := UQ Z ∧ OK Z I ∧ RI Z I
theorem rg0 {lo hi : Int} (h1 : lo ≤ 0) (h2 : 0 ≤ hi) : rg lo hi 0 := ⟨h1, h2⟩
theorem okF0 (c j : Nat) : okF c j 0 := by
  unfold okF
  split <;> first | trivial | exact rg0 (by decide) (by decide)
theorem okA0 (c j i : Nat) : okA c j i 0 := by
  unfold okA
  split <;> first | trivial | exact rg0 (by decide) (by decide) | exact ⟨fun _ => rg0 (by decide) (by decide), fun _ => rg0 (by decide) (by decide), fun _ => rg0 (by decide) (by decide)⟩ | exact ⟨fun _ _ => rg0 (by decide) (by decide), fun _ _ => rg0 (by decide) (by decide), fun _ _ _ => rg0 (by decide) (by decide)⟩
theorem jk_old {Z : jZ} {q k m a c : Nat} (h : jk (jnw Z q k m) a c) (hne : a ≠ q) : jk Z a c := by
  refine ⟨?_, ?_⟩
  · rcases List.mem_append.mp h.1 with h1 | h1
    · exact h1
    · exact absurd (List.mem_singleton.mp h1) hne
  · have h2 : va_up Z.2.1 q k a = c := h.2
    rw [va_up_ne _ _ hne] at h2
    exact h2
theorem jr_old {Z : jZ} {q k m a j : Nat} (hne : a ≠ q) : jr (jnw Z q k m) a j = jr Z a j := congrFun (va_up_ne _ _ hne) j
theorem jr_new {Z : jZ} {q k m j : Nat} : jr (jnw Z q k m) q j = none := congrFun (va_up_self Z.2.2.2 q (fun _ => none)) j
theorem jlen_old {Z : jZ} {q k m a : Nat} (hne : a ≠ q) : jlen (jnw Z q k m) a = jlen Z a := va_up_ne _ _ hne
theorem capN_iff {Z Z' : jZ} {a : Nat} (h : (∃ r, jk Z' r 0 ∧ jr Z' r 0 = some a) ↔ (∃ r, jk Z r 0 ∧ jr Z r 0 = some a)) : capN Z' a = capN Z a := by
  unfold capN
  by_cases hh : ∃ r, jk Z r 0 ∧ jr Z r 0 = some a
  · rw [if_pos hh, if_pos (h.mpr hh)]
  · rw [if_neg hh, if_neg (fun g => hh (h.mp g))]
theorem capN_nw {Z : jZ} {q k m a : Nat} (hq : q ∉ Z.1) : capN (jnw Z q k m) a = capN Z a := by
  refine capN_iff ⟨fun ⟨r, h1, h2⟩ => ?_, fun ⟨r, h1, h2⟩ => ?_⟩
  · have hr : r ≠ q := fun e => by subst e; rw [jr_new] at h2; cases h2
    exact ⟨r, jk_old h1 hr, by rw [← jr_old (k := k) (m := m) hr]; exact h2⟩
  · have hr : r ≠ q := fun e => hq (e ▸ h1.1)
    exact ⟨r, (jext_nw hq r 0 h1).1, by rw [jr_old hr]; exact h2⟩
theorem capN_new {Z : jZ} {q : Nat} (uq : UQ Z) (hq : q ∉ Z.1) : capN Z q = 131072 := by
  unfold capN
  rw [if_neg (fun ⟨r, h1, h2⟩ => hq (uq.2.1 r 0 0 q h1 h2))]
theorem klen_old {Z : jZ} {q k m a c : Nat} (uq : UQ Z) (hq : q ∉ Z.1) (ha : jk Z a c) : klen (jnw Z q k m) a = klen Z a := by
  have hne : a ≠ q := fun e => hq (e ▸ ha.1)
  unfold klen
  rw [jr_old hne]
  cases e : jr Z a 0 with
  | none => rfl
  | some b => exact jlen_old (fun h => hq (h ▸ uq.2.1 a c 0 b ha e))
theorem potc_nw {Z : jZ} {q k m : Nat} (uq : UQ Z) (hq : q ∉ Z.1) : potc (jnw Z q k m) = potc Z + (if k = 7 then 2048 else 0) := by
  unfold potc
  show ((Z.1 ++ [q]).map _).sum = _
  rw [List.map_append, List.sum_append]
  have e1 : Z.1.map (fun a => if (jnw Z q k m).2.1 a = 7 then (capN (jnw Z q k m) a - klen (jnw Z q k m) a) / 64 else 0) = Z.1.map (fun a => if Z.2.1 a = 7 then (capN Z a - klen Z a) / 64 else 0) := by
    refine List.map_congr_left (fun a ha => ?_)
    have hne : a ≠ q := fun e => hq (e ▸ ha)
    rw [show (jnw Z q k m).2.1 a = Z.2.1 a from va_up_ne _ _ hne, capN_nw hq, klen_old uq hq ⟨ha, rfl⟩]
  rw [e1]
  congr 1
  simp only [List.map_cons, List.map_nil, List.sum_cons, List.sum_nil, Nat.add_zero]
  have kq : (jnw Z q k m).2.1 q = k := va_up_self _ _ _
  have cq : capN (jnw Z q k m) q = 131072 := by rw [capN_nw hq]; exact capN_new uq hq
  have lq : klen (jnw Z q k m) q = 0 := by unfold klen; rw [jr_new]
  by_cases hk : k = 7
  · rw [if_pos (kq.trans hk), if_pos hk, cq, lq, show (131072 - 0) / 64 = 2048 from rfl]
  · rw [if_neg (fun e => hk (kq.symm.trans e)), if_neg hk]
theorem UQ_nw {Z : jZ} {q k m : Nat} (uq : UQ Z) (hq : q ∉ Z.1) : UQ (jnw Z q k m) := by
  refine ⟨List.nodup_append.mpr ⟨uq.1, List.nodup_cons.mpr ⟨List.not_mem_nil, List.nodup_nil⟩, fun x hx y hy h => hq (by rw [← List.mem_singleton.mp hy, ← h]; exact hx)⟩, fun a c j b hk e => ?_, fun a c j a' c' j' b hk hk' e e' hs hs' => ?_⟩
  · have hne : a ≠ q := fun h => by subst h; rw [jr_new] at e; cases e
    rw [jr_old hne] at e
    exact List.mem_append_left _ (uq.2.1 a c j b (jk_old hk hne) e)
  · have hne : a ≠ q := fun h => by subst h; rw [jr_new] at e; cases e
    have hne' : a' ≠ q := fun h => by subst h; rw [jr_new] at e'; cases e'
    rw [jr_old hne] at e
    rw [jr_old hne'] at e'
    exact uq.2.2 a c j a' c' j' b (jk_old hk hne) (jk_old hk' hne') e e' hs hs'
theorem PW_nw {Z : jZ} {I : jI} {q k m : Nat} (h : PW Z I) (hq : q ∉ Z.1) : PW (jnw Z q k m) (jz0 I q) := by
  obtain ⟨uq, ok, ri⟩ := h
  have Io : ∀ a, a ≠ q → jz0 I q a = I a := fun a ha => va_up_ne _ _ ha
  have In : jz0 I q q = fun _ => 0 := va_up_self _ _ _
  have inP : ∀ a c j b, jk Z a c → jr Z a j = some b → b ≠ q := fun a c j b hk e h => hq (h ▸ uq.2.1 a c j b hk e)
  refine ⟨UQ_nw uq hq, ⟨fun a c j hk hc => ?_, fun a c j b hk e kb hs i => ?_⟩, fun a b0 b1 b2 b4 hk e0 e1 e2 e4 => ?_⟩
  · by_cases hne : a = q
    · subst hne; rw [In]; exact okF0 c j
    · rw [Io a hne]; exact ok.1 a c j (jk_old hk hne) hc
  · have hne : a ≠ q := fun h => by subst h; rw [jr_new] at e; cases e
    rw [jr_old hne] at e
    have hk' := jk_old hk hne
    have hb := inP a c j b hk' e
    rw [Io b hb]
    exact ok.2 a c j b hk' e (by rw [← show (jnw Z q k m).2.1 b = Z.2.1 b from va_up_ne _ _ hb]; exact kb) hs i
  · have hne : a ≠ q := fun h => by subst h; rw [jr_new] at e0; cases e0
    rw [jr_old hne] at e0 e1 e2 e4
    have hk' := jk_old hk hne
    have g := ri a b0 b1 b2 b4 hk' e0 e1 e2 e4
    unfold RI1 at g ⊢
    rw [Io a hne, Io b1 (inP a 7 1 b1 hk' e1), Io b2 (inP a 7 2 b2 hk' e2), Io b4 (inP a 7 4 b4 hk' e4), jlen_old (inP a 7 0 b0 hk' e0), capN_nw hq]
    exact g
/-- behind a reference put -/
theorem jrR_o {Z : jZ} {a j a' j' : Nat} {v : Option Nat} (h : ¬ (a' = a ∧ j' = j)) : jr (jpR Z a j v) a' j' = jr Z a' j' := by
  by_cases e : a' = a
  · subst e; exact jrR_off (fun q => h ⟨rfl, q⟩)
  · exact jrR_ne e
theorem UQ_put {Z : jZ} {a c j b : Nat} (uq : UQ Z) (ka : jk Z a c) (hb : b ∈ Z.1) (hn : NH Z b ∨ jsr c j = true) : UQ (jpR Z a j (some b)) := by
  refine ⟨uq.1, fun x d i y hk e => ?_, fun x d i x' d' i' y hk hk' e e' hs hs' => ?_⟩
  · by_cases h : x = a ∧ i = j
    · obtain ⟨rfl, rfl⟩ := h
      rw [jrR_at] at e; cases e; exact hb
    · rw [jrR_o h] at e; exact uq.2.1 x d i y hk e
  · by_cases h : x = a ∧ i = j
    · obtain ⟨rfl, rfl⟩ := h
      rw [jrR_at] at e; cases e
      by_cases h' : x' = x ∧ i' = i
      · exact ⟨h'.1.symm, h'.2.symm⟩
      · rw [jrR_o h'] at e'
        rcases hn with hn | hn
        · exact absurd e' (hn x' d' i' hk')
        · have hd : d = c := (show Z.2.1 x = d from hk.2).symm.trans ka.2
          rw [hd, hn] at hs; cases hs
    · rw [jrR_o h] at e
      by_cases h' : x' = a ∧ i' = j
      · obtain ⟨rfl, rfl⟩ := h'
        rw [jrR_at] at e'; cases e'
        rcases hn with hn | hn
        · exact absurd e (hn x d i hk)
        · have hd : d' = c := (show Z.2.1 x' = d' from hk'.2).symm.trans ka.2
          rw [hd, hn] at hs'; cases hs'
      · rw [jrR_o h'] at e'
        exact uq.2.2 x d i x' d' i' y hk hk' e e' hs hs'
theorem NH_put {Z : jZ} {a j b u : Nat} (h : NH Z u) (hu : u ≠ b) : NH (jpR Z a j (some b)) u := fun x d i hk e => by
  by_cases g : x = a ∧ i = j
  · obtain ⟨rfl, rfl⟩ := g
    rw [jrR_at] at e; cases e; exact hu rfl
  · rw [jrR_o g] at e; exact h x d i hk e
theorem NH_nw {Z : jZ} {q k m u : Nat} (h : NH Z u) : NH (jnw Z q k m) u := fun x d i hk e => by
  have hne : x ≠ q := fun g => by subst g; rw [jr_new] at e; cases e
  rw [jr_old hne] at e
  exact h x d i (jk_old hk hne) e
theorem NH_new {Z : jZ} {q k m : Nat} (uq : UQ Z) (hq : q ∉ Z.1) : NH (jnw Z q k m) q := fun x d i hk e => by
  have hne : x ≠ q := fun g => by subst g; rw [jr_new] at e; cases e
  rw [jr_old hne] at e
  exact hq (uq.2.1 x d i q (jk_old hk hne) e)
theorem capN_put {Z : jZ} {a c j b x : Nat} (ka : jk Z a c) (h0 : ¬ (c = 0 ∧ j = 0)) : capN (jpR Z a j (some b)) x = capN Z x := by
  have o : ∀ r, jk Z r 0 → ¬ (r = a ∧ 0 = j) := fun r hr h => h0 ⟨(ka.2.symm.trans (by rw [← h.1]; exact hr.2)), h.2.symm⟩
  exact capN_iff ⟨fun ⟨r, h1, h2⟩ => ⟨r, h1, by rw [← jrR_o (v := some b) (o r h1)]; exact h2⟩, fun ⟨r, h1, h2⟩ => ⟨r, h1, by rw [jrR_o (o r h1)]; exact h2⟩⟩
theorem capN_le {Z : jZ} {a j b x : Nat} (hn : jr Z a j = none) : capN Z x ≤ capN (jpR Z a j (some b)) x := by
  by_cases hh : ∃ r, jk Z r 0 ∧ jr Z r 0 = some x
  · have : ∃ r, jk (jpR Z a j (some b)) r 0 ∧ jr (jpR Z a j (some b)) r 0 = some x := by
      obtain ⟨r, h1, h2⟩ := hh
      refine ⟨r, h1, ?_⟩
      rw [jrR_o (fun h => ?_)]
      · exact h2
      · rw [h.1, h.2, hn] at h2; cases h2
    unfold capN
    rw [if_pos hh, if_pos this]
    exact Nat.le_refl _
  · rcases capN_cases (jpR Z a j (some b)) x with h | h <;> rw [h] <;> unfold capN <;> rw [if_neg hh] <;> omega
theorem klen_put {Z : jZ} {a j b x : Nat} (h : ¬ (x = a ∧ 0 = j)) : klen (jpR Z a j (some b)) x = klen Z x := by
  unfold klen
  rw [jrR_o h]
theorem potc_put {Z : jZ} {a c j b : Nat} (ka : jk Z a c) (h0 : ¬ (c = 0 ∧ j = 0)) (h7 : ¬ (c = 7 ∧ j = 0)) : potc (jpR Z a j (some b)) = potc Z := by
  unfold potc
  congr 1
  refine List.map_congr_left (fun x hx => ?_)
  show (if Z.2.1 x = 7 then (capN (jpR Z a j (some b)) x - klen (jpR Z a j (some b)) x) / 64 else 0) = _
  by_cases hk : Z.2.1 x = 7
  · rw [if_pos hk, if_pos hk, capN_put ka h0, klen_put (fun h => h7 ⟨by rw [← ka.2, ← h.1]; exact hk, h.2.symm⟩)]
  · rw [if_neg hk, if_neg hk]
theorem potc_put7 {Z : jZ} {a b : Nat} (uq : UQ Z) (ka : jk Z a 7) (hn : jr Z a 0 = none) (hl : jlen Z b = 64) : potc (jpR Z a 0 (some b)) + 1 = potc Z := by
  have h := sum_one (l := Z.1) (f := fun x => if Z.2.1 x = 7 then (capN (jpR Z a 0 (some b)) x - klen (jpR Z a 0 (some b)) x) / 64 else 0) (g := fun x => if Z.2.1 x = 7 then (capN Z x - klen Z x) / 64 else 0) (a := a) uq.1 ka.1 (fun x hx hne => by
    show (if Z.2.1 x = 7 then _ else 0) = (if Z.2.1 x = 7 then _ else 0)
    rw [capN_put ka (by omega), klen_put (fun h => hne h.1)])
  have k1 : klen (jpR Z a 0 (some b)) a = 64 := by
    unfold klen
    rw [jrR_at]
    exact hl
  have k0 : klen Z a = 0 := by
    unfold klen
    rw [hn]
  simp only [if_pos ka.2, k1, k0] at h
  rw [capN_put ka (by omega)] at h
  have e1 : potc (jpR Z a 0 (some b)) = (Z.1.map (fun x => if Z.2.1 x = 7 then (capN (jpR Z a 0 (some b)) x - klen (jpR Z a 0 (some b)) x) / 64 else 0)).sum := rfl
  have e2 : potc Z = (Z.1.map (fun x => if Z.2.1 x = 7 then (capN Z x - klen Z x) / 64 else 0)).sum := rfl
  rw [← e1, ← e2] at h
  rcases capN_cases Z a with hc | hc <;> rw [hc] at h <;> omega
theorem potc_put0 {Z : jZ} {a b : Nat} (uq : UQ Z) (ka : jk Z a 0) (hn : jr Z a 0 = none) (kb : jk Z b 7) (hb : NH Z b) (hl : klen Z b = 64) : potc (jpR Z a 0 (some b)) = potc Z + 14336 := by
  have hab : b ≠ a := fun e => by subst e; cases ka.2.symm.trans kb.2
  have h := sum_one (l := Z.1) (f := fun x => if Z.2.1 x = 7 then (capN (jpR Z a 0 (some b)) x - klen (jpR Z a 0 (some b)) x) / 64 else 0) (g := fun x => if Z.2.1 x = 7 then (capN Z x - klen Z x) / 64 else 0) (a := b) uq.1 kb.1 (fun x hx hne => by
    show (if Z.2.1 x = 7 then _ else 0) = (if Z.2.1 x = 7 then _ else 0)
    by_cases hk : Z.2.1 x = 7
    · rw [if_pos hk, if_pos hk]
      have hxa : x ≠ a := fun e => by subst e; cases ka.2.symm.trans hk
      rw [klen_put (fun h => hxa h.1)]
      have hcap : capN (jpR Z a 0 (some b)) x = capN Z x := by
        refine capN_iff ⟨fun g => ?_, fun g => ?_⟩
        · obtain ⟨r, h1, h2⟩ := g
          by_cases hr : r = a
          · subst hr
            rw [jrR_at] at h2; cases h2; exact absurd rfl hne
          · rw [jrR_ne hr] at h2; exact ⟨r, h1, h2⟩
        · obtain ⟨r, h1, h2⟩ := g
          have hr : r ≠ a := fun e => by subst e; rw [hn] at h2; cases h2
          exact ⟨r, h1, by rw [jrR_ne hr]; exact h2⟩
      rw [hcap]
    · rw [if_neg hk, if_neg hk])
  have c1 : capN (jpR Z a 0 (some b)) b = 1048576 := by
    unfold capN
    rw [if_pos ⟨a, ka, jrR_at⟩]
  have c0 : capN Z b = 131072 := by
    unfold capN
    rw [if_neg (fun ⟨r, h1, h2⟩ => hb r 0 0 h1 h2)]
  have k1 : klen (jpR Z a 0 (some b)) b = 64 := by rw [klen_put (fun h => hab h.1)]; exact hl
  simp only [if_pos kb.2, k1, hl, c1, c0] at h
  have e1 : potc (jpR Z a 0 (some b)) = (Z.1.map (fun x => if Z.2.1 x = 7 then (capN (jpR Z a 0 (some b)) x - klen (jpR Z a 0 (some b)) x) / 64 else 0)).sum := rfl
  have e2 : potc Z = (Z.1.map (fun x => if Z.2.1 x = 7 then (capN Z x - klen Z x) / 64 else 0)).sum := rfl
  rw [← e1, ← e2] at h
  omega
theorem PW_put {Z : jZ} {I : jI} {a c j b : Nat} (h : PW Z I) (ka : jk Z a c) (hn : jr Z a j = none) (hb : b ∈ Z.1) (hh : NH Z b ∨ jsr c j = true) (hA : jia (Z.2.1 b) = true → jsr c j = false → ∀ i, okA c j i (I b i))
    (hR : c = 7 → ∀ b0 b1 b2 b4, jr (jpR Z a j (some b)) a 0 = some b0 → jr (jpR Z a j (some b)) a 1 = some b1 → jr (jpR Z a j (some b)) a 2 = some b2 → jr (jpR Z a j (some b)) a 4 = some b4 → RI1 (jpR Z a j (some b)) I a b0 b1 b2 b4) : PW (jpR Z a j (some b)) I := by
  obtain ⟨uq, ok, ri⟩ := h
  refine ⟨UQ_put uq ka hb hh, ⟨ok.1, fun x d i y hk e kb hs n => ?_⟩, fun x b0 b1 b2 b4 hk e0 e1 e2 e4 => ?_⟩
  · by_cases g : x = a ∧ i = j
    · obtain ⟨rfl, rfl⟩ := g
      rw [jrR_at] at e; cases e
      have hd : d = c := (show Z.2.1 x = d from hk.2).symm.trans ka.2
      subst hd
      exact hA kb hs n
    · rw [jrR_o g] at e
      exact ok.2 x d i y hk e kb hs n
  · by_cases g : x = a
    · subst g
      exact hR (ka.2.symm.trans hk.2) b0 b1 b2 b4 e0 e1 e2 e4
    · rw [jrR_ne g] at e0 e1 e2 e4
      have r := ri x b0 b1 b2 b4 hk e0 e1 e2 e4
      exact ⟨r.1, r.2.1, Nat.le_trans r.2.2.1 (capN_le hn), r.2.2.2⟩
