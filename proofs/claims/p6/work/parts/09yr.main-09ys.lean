section
/-! ===== the class keeps who is MAIN ===== -/
def MAI (I : jI) (x0 x1 : Nat) : Prop := ∀ s, s < 24 → (I x1 s).toInt = (mnR (I x0) s : Int)
theorem amx_cg8 {r r' : Nat → Int} : ∀ k, (∀ i, i ≤ k → r' i = r i) → amx r' k = amx r k := by
  intro k
  induction k with
  | zero => intro _; rfl
  | succ k ih =>
    intro h
    have e := ih (fun i hi => h i (by omega))
    have la := amx_le r k
    show (if r' (amx r' k) < r' (k + 1) then k + 1 else amx r' k) = if r (amx r k) < r (k + 1) then k + 1 else amx r k
    rw [e, h _ (by omega), h (k + 1) (Nat.le_refl _)]
theorem mnR_cg {T T' : Nat → Int32} {s : Nat} (h : ∀ i, i < 8 → T' (8 * s + i) = T (8 * s + i)) : mnR T' s = mnR T s := amx_cg8 7 (fun i hi => by
  show (T' (8 * s + i)).toInt = (T (8 * s + i)).toInt
  rw [h i (by omega)])
theorem mnR_le {T : Nat → Int32} {s : Nat} : mnR T s ≤ 7 := amx_le _ 7
/-- the arrays of the shares -/
theorem shr_at {Z : jZ} {I : jI} {a : Nat} (w : WD Z I) (ka : jk Z a 4) : ∃ x0 x1 x2, jr Z a 0 = some x0 ∧ jr Z a 1 = some x1 ∧ jr Z a 2 = some x2 ∧ jk Z x0 14 ∧ jk Z x1 14 ∧ jk Z x2 14 ∧ jlen Z x0 = 192 ∧ jlen Z x1 = 24 ∧ jlen Z x2 = 1536 ∧ x0 ≠ x1 ∧ x0 ≠ x2 ∧ x1 ≠ x2 ∧ a ≠ x0 ∧ a ≠ x1 ∧ a ≠ x2 := by
  obtain ⟨x0, e0, k0, l0⟩ := sh_f w.1 ka (j := 0) (k := 14) (m := 192) rfl
  obtain ⟨x1, e1, k1, l1⟩ := sh_f w.1 ka (j := 1) (k := 14) (m := 24) rfl
  obtain ⟨x2, e2, k2, l2⟩ := sh_f w.1 ka (j := 2) (k := 14) (m := 1536) rfl
  have un : ∀ i j b b', jr Z a i = some b → jr Z a j = some b' → i ≠ j → b ≠ b' := fun i j b b' h1 h2 hn q => by
    subst q
    exact hn (w.2.1.2.2 a 4 i a 4 j b ka ka h1 h2 rfl rfl).2
  exact ⟨x0, x1, x2, e0, e1, e2, k0, k1, k2, l0, l1, l2, un 0 1 _ _ e0 e1 (by decide), un 0 2 _ _ e0 e2 (by decide), un 1 2 _ _ e1 e2 (by decide), ks_ne ka k0 (by decide), ks_ne ka k1 (by decide), ks_ne ka k2 (by decide)⟩
theorem mai_L4 {Z : jZ} {I : jI} {L : jL} (v0 x0 x1 : Nat) (h0 : jr Z v0 0 = some x0) (h1 : jr Z v0 1 = some x1) (v1 : Int32) (s : Nat) (e1 : v1.toInt = (s : Int)) (hs : s < 24) {Q : jI → jL → Prop} (hQ : ∀ r : Int32, r.toInt = (mnR (I x0) s : Int) → Q (jpI I x1 s r) L) :
    ∀ (n k : Nat) (v2 v3 : Int32), v3.toInt = ((k + 1 : Nat) : Int) → k ≤ 7 → v2.toInt = (amx (fun i => (I x0 (8 * s + i)).toInt) k : Int) → 8 ≤ n + k → f_X4_findMain_L4 Z Q n v0 v1 v2 v3 I L := by
  have e8 : (v1 * (8 : Int32)).toInt = (s : Int) * 8 := i_mul e1 (show (8 : Int32).toInt = 8 from rfl) (by omega) (by omega)
  intro n
  induction n with
  | zero => intro k v2 v3 e3 hk e2 hn; exfalso; omega
  | succ n ih =>
    intro k v2 v3 e3 hk e2 hn
    have la := amx_le (fun i => (I x0 (8 * s + i)).toInt) k
    unfold f_X4_findMain_L4
    refine ⟨fun c => ?_, fun c => ?_⟩
    · have c := (i_le (show (8 : Int32).toInt = 8 from rfl) e3).mp c
      have ek : k = 7 := by omega
      subst ek
      intro b hb
      cases h1.symm.trans hb
      refine ⟨vi_of e1 (by omega) (by omega), fun I5 e5 => ?_⟩
      have n1 := i_nat e1 (by omega)
      rw [e5, show v1.toNatClampNeg = s by omega]
      exact hQ v2 e2
    · have c := (not_congr (i_le (show (8 : Int32).toInt = 8 from rfl) e3)).mp c
      intro b3 hb3
      cases h0.symm.trans hb3
      have a3 : ((v1 * (8 : Int32)) + v3).toInt = (s : Int) * 8 + ((k + 1 : Nat) : Int) := i_add e8 e3 (by omega) (by omega)
      have a2 : ((v1 * (8 : Int32)) + v2).toInt = (s : Int) * 8 + (amx (fun i => (I x0 (8 * s + i)).toInt) k : Int) := i_add e8 e2 (by omega) (by omega)
      refine ⟨vi_of a3 (by omega) (by omega), ?_⟩
      intro b5 hb5
      cases h0.symm.trans hb5
      refine ⟨vi_of a2 (by omega) (by omega), ?_⟩
      have q3 : ((v1 * (8 : Int32)) + v3).toNatClampNeg = 8 * s + (k + 1) := by have := i_nat a3 (by omega); omega
      have q2 : ((v1 * (8 : Int32)) + v2).toNatClampNeg = 8 * s + amx (fun i => (I x0 (8 * s + i)).toInt) k := by have := i_nat a2 (by omega); omega
      rw [q3, q2]
      have st : ∀ y : Int32, y = v3 + 1 → y.toInt = ((k + 1 + 1 : Nat) : Int) := fun y e => by rw [e]; exact (i_add e3 (show (1 : Int32).toInt = 1 from rfl) (by omega) (by omega)).trans (by omega)
      refine ⟨fun c2 => ?_, fun c2 => ?_⟩
      · have c2 := (i_le rfl rfl).mp c2
        unfold f_X4_findMain_b40
        intro y ey
        refine ih (k + 1) v2 y (st y ey) (by omega) ?_ (by omega)
        show v2.toInt = ((if (I x0 (8 * s + amx (fun i => (I x0 (8 * s + i)).toInt) k)).toInt < (I x0 (8 * s + (k + 1))).toInt then k + 1 else amx (fun i => (I x0 (8 * s + i)).toInt) k : Nat) : Int)
        rw [if_neg (by omega)]
        exact e2
      · have c2 := (not_congr (i_le rfl rfl)).mp c2
        unfold f_X4_findMain_b40
        intro y ey
        refine ih (k + 1) v3 y (st y ey) (by omega) ?_ (by omega)
        show v3.toInt = ((if (I x0 (8 * s + amx (fun i => (I x0 (8 * s + i)).toInt) k)).toInt < (I x0 (8 * s + (k + 1))).toInt then k + 1 else amx (fun i => (I x0 (8 * s + i)).toInt) k : Nat) : Int)
        rw [if_pos (by omega)]
        exact e3
theorem s18_X4_findMain {Z : jZ} {I : jI} {L : jL} (v0 x0 x1 : Nat) (h0 : jr Z v0 0 = some x0) (h1 : jr Z v0 1 = some x1) (v1 : Int32) (s : Nat) (e1 : v1.toInt = (s : Int)) (hs : s < 24) {Q : jI → jL → Prop} (hQ : ∀ r : Int32, r.toInt = (mnR (I x0) s : Int) → Q (jpI I x1 s r) L) : f_X4_findMain v0 v1 Z I L Q := by
  unfold f_X4_findMain
  exact ⟨8, mai_L4 v0 x0 x1 h0 h1 v1 s e1 hs hQ 8 0 0 1 rfl (by omega) rfl (by omega)⟩
theorem mais_L2 {Z : jZ} {I0 : jI} {L : jL} (v0 x0 x1 : Nat) (h0 : jr Z v0 0 = some x0) (h1 : jr Z v0 1 = some x1) (n01 : x0 ≠ x1) {Q : jI → jL → Prop} (hQ : ∀ I' : jI, (∀ x, x ≠ x1 → I' x = I0 x) → MAI I' x0 x1 → Q I' L) :
    ∀ (n s : Nat) (v1 : Int32) (I : jI), v1.toInt = (s : Int) → s ≤ 24 → 25 ≤ n + s → (∀ x, x ≠ x1 → I x = I0 x) → (∀ t, t < s → (I x1 t).toInt = (mnR (I x0) t : Int)) → f_X4_findMains_L2 Z Q n v0 v1 I L := by
  have z24 : (24 : Int32).toInt = 24 := rfl
  intro n
  induction n with
  | zero => intro s v1 I e1 hs hn; omega
  | succ n ih =>
    intro s v1 I e1 hs hn hx hm
    unfold f_X4_findMains_L2
    refine ⟨fun c => ?_, fun c => ?_⟩
    · have c := (i_le z24 e1).mp c
      exact hQ I hx (fun t ht => hm t (by omega))
    · have c := (not_congr (i_le z24 e1)).mp c
      refine s18_X4_findMain v0 x0 x1 h0 h1 v1 s e1 (by omega) (fun r er => ?_)
      intro y ey
      refine ih (s + 1) y _ (by rw [ey]; exact (i_add e1 (show (1 : Int32).toInt = 1 from rfl) (by omega) (by omega)).trans (by omega)) (by omega) (by omega) (fun x hx1 => (jpI_ne hx1).trans (hx x hx1)) (fun t ht => ?_)
      rw [jpI_ne n01]
      by_cases c2 : t = s
      · rw [c2, jpI_at]; exact er
      · rw [jpI_off c2]; exact hm t (by omega)
theorem s18_X4_findMains {Z : jZ} {I : jI} {L : jL} (v0 x0 x1 : Nat) (h0 : jr Z v0 0 = some x0) (h1 : jr Z v0 1 = some x1) (n01 : x0 ≠ x1) {Q : jI → jL → Prop} (hQ : ∀ I' : jI, (∀ x, x ≠ x1 → I' x = I x) → MAI I' x0 x1 → Q I' L) : f_X4_findMains v0 Z I L Q := by
  unfold f_X4_findMains
  exact ⟨25, mais_L2 v0 x0 x1 h0 h1 n01 hQ 25 0 0 I rfl (by omega) (by omega) (fun _ _ => rfl) (fun t ht => by omega)⟩
theorem s18_X4_move {Z : jZ} {I : jI} {L : jL} (w : WD Z I) (v0 : Nat) (v1 v2 v3 v4 : Int32) (kv0 : jk Z v0 4) (x0 x1 : Nat) (h0 : jr Z v0 0 = some x0) (h1 : jr Z v0 1 = some x1) (hm : MAI I x0 x1) {Q : jI → jL → Prop} (hQ : ∀ (I' : jI), MAI I' x0 x1 → Q I' L) : f_X4_move v0 v1 v2 v3 v4 Z I L Q := by
  obtain ⟨y0, y1, y2, e0, e1, e2, k0, k1, k2, l0, l1, l2, n01, n02, n12, na0, na1, na2⟩ := shr_at w kv0
  cases h0.symm.trans e0; cases h1.symm.trans e1
  have z0 : (0 : Int32).toInt = 0 := rfl
  have z8 : (8 : Int32).toInt = 8 := rfl
  have z24 : (24 : Int32).toInt = 24 := rfl
  unfold f_X4_move
  refine ⟨fun _ => hQ I hm, fun c => ⟨fun _ => hQ I hm, fun c2 => ?_⟩⟩
  have c := (not_congr (i_lt rfl z0)).mp c
  have c2 := (not_congr (i_le z24 rfl)).mp c2
  refine s_X11_isFamily w v2 (fun r p => ⟨fun _ => hQ I hm, fun c3 => ?_⟩)
  have p2 : 0 ≤ v2.toInt ∧ v2.toInt ≤ 7 := by
    rcases p with p | p
    · exact p.2
    · exact absurd ((i_eq rfl z0).mpr p.1) c3
  refine s_X11_isFamily w v3 (fun r' p' => ⟨fun _ => hQ I hm, fun c4 => ?_⟩)
  have p3 : 0 ≤ v3.toInt ∧ v3.toInt ≤ 7 := by
    rcases p' with p | p
    · exact p.2
    · exact absurd ((i_eq rfl z0).mpr p.1) c4
  have a2 : ((v1 * (8 : Int32)) + v2).toInt = v1.toInt * 8 + v2.toInt := i_add (i_mul rfl z8 (by omega) (by omega)) rfl (by omega) (by omega)
  have a3 : ((v1 * (8 : Int32)) + v3).toInt = v1.toInt * 8 + v3.toInt := i_add (i_mul rfl z8 (by omega) (by omega)) rfl (by omega) (by omega)
  have m2 := i_nat a2 (by omega)
  have m3 := i_nat a3 (by omega)
  intro b hb
  cases h0.symm.trans hb
  refine ⟨vi_of a2 (by omega) (by omega), vi_of a2 (by omega) (by omega), fun I22 e22 => ?_⟩
  intro b hb
  cases h0.symm.trans hb
  refine ⟨vi_of a3 (by omega) (by omega), vi_of a3 (by omega) (by omega), fun I26 e26 => ?_⟩
  refine s18_X4_findMain v0 x0 x1 h0 h1 v1 v1.toInt.toNat (by omega) (by omega) (fun r er => hQ _ (fun s hs => ?_))
  rw [jpI_ne n01]
  by_cases c5 : s = v1.toInt.toNat
  · rw [c5, jpI_at]
    exact er
  · rw [jpI_off c5, e26, jpI_ne n01.symm, e22, jpI_ne n01.symm, hm s hs]
    congr 1
    refine (mnR_cg (fun i hi => ?_)).symm
    rw [jpI_off (by omega), jpI_off (by omega)]
theorem s18_X4_takeBack {Z : jZ} {I : jI} {L : jL} (w : WD Z I) (v0 : Nat) (kv0 : jk Z v0 4) (x0 x1 : Nat) (h0 : jr Z v0 0 = some x0) (h1 : jr Z v0 1 = some x1) (hm : MAI I x0 x1) (h3 : 0 ≤ (I v0 3).toInt ∧ (I v0 3).toInt ≤ 7) (h4 : 0 ≤ (I v0 4).toInt ∧ (I v0 4).toInt ≤ 8) {Q : Int32 → jI → jL → Prop} (hQ : ∀ (r : Int32) (I' : jI), MAI I' x0 x1 → Q r I' L) : f_X4_takeBack v0 Z I L Q := by
  obtain ⟨y0, y1, y2, e0, e1, e2, k0, k1, k2, l0, l1, l2, n01, n02, n12, na0, na1, na2⟩ := shr_at w kv0
  cases h0.symm.trans e0; cases h1.symm.trans e1
  have z0 : (0 : Int32).toInt = 0 := rfl
  have z1 : (1 : Int32).toInt = 1 := rfl
  unfold f_X4_takeBack
  refine ⟨fun c => ?_, fun _ => hQ 0 I hm⟩
  have c := (not_congr (i_eq rfl z0)).mp c
  intro I2 e2' x3 ex3 b hb
  cases e2.symm.trans hb
  intro b hb
  cases h0.symm.trans hb
  have t4 : (I2 v0 4).toInt = (I v0 4).toInt - 1 := by rw [e2', jpI_at]; exact i_sub rfl z1 (by omega) (by omega)
  have t3 : (I2 v0 3).toInt = (I v0 3).toInt := by rw [e2', jpI_off (by decide)]
  have tx : x3.toInt = ((I v0 3).toInt + ((I v0 4).toInt - 1)) % 8 := by
    rw [ex3]
    exact i_rem8 (i_add t3 t4 (by omega) (by omega)) (by omega)
  have t9 : (x3 * (192 : Int32)).toInt = ((I v0 3).toInt + ((I v0 4).toInt - 1)) % 8 * 192 := i_mul tx (show (192 : Int32).toInt = 192 from rfl) (by omega) (by omega)
  have q9 := i_nat t9 (by omega)
  have q0 : (0 : Int32).toNatClampNeg = 0 := rfl
  have q192 : (192 : Int32).toNatClampNeg = 192 := rfl
  refine ⟨⟨fun c9 => absurd ((i_lt t9 z0).mp c9) (by omega), by decide, by decide, by omega, by decide⟩, fun I7 e7 => ?_⟩
  exact s18_X4_findMains v0 x0 x1 h0 h1 n01 (fun I' _ hm' => hQ 1 I' hm')
theorem s18_X4_restore {Z : jZ} {I : jI} {L : jL} (w : WD Z I) (v0 v1 : Nat) (kv0 : jk Z v0 4) (x0 x1 : Nat) (h0 : jr Z v0 0 = some x0) (h1 : jr Z v0 1 = some x1) (p0 : jlen Z v1 = 192) {Q : jI → jL → Prop} (hQ : ∀ (I' : jI), MAI I' x0 x1 → Q I' L) : f_X4_restore v0 v1 Z I L Q := by
  obtain ⟨y0, y1, y2, e0, e1, e2, k0, k1, k2, l0, l1, l2, n01, n02, n12, na0, na1, na2⟩ := shr_at w kv0
  cases h0.symm.trans e0; cases h1.symm.trans e1
  unfold f_X4_restore
  intro b hb
  cases h0.symm.trans hb
  refine ⟨⟨by decide, by decide, by decide, by rw [p0]; decide, by decide⟩, fun I3 e3 I4 e4 => ?_⟩
  exact s18_X4_findMains v0 x0 x1 h0 h1 n01 (fun I' _ hm' => hQ I' hm')
theorem deal_L10 {Z : jZ} {L : jL} (v0 v1 x0 x1 : Nat) (h0 : jr Z v0 0 = some x0) (h1 : jr Z v0 1 = some x1) (n01 : x0 ≠ x1) (l1 : jlen Z v1 = 24) (v2 : Int32) {Q : jI → jL → Prop} (hQ : ∀ (I' : jI), MAI I' x0 x1 → Q I' L) (I0 : jI) (w0 : WD Z I0) :
    ∀ (n s : Nat) (v3 : Int32) (I : jI), v3.toInt = (s : Int) → s ≤ 24 → 25 ≤ n + s → f_X4_deal_L10 Z Q n v0 v1 v2 v3 I L := by
  have z0 : (0 : Int32).toInt = 0 := rfl
  have z8 : (8 : Int32).toInt = 8 := rfl
  have z24 : (24 : Int32).toInt = 24 := rfl
  intro n
  induction n with
  | zero => intro s v3 I e3 hs hn; omega
  | succ n ih =>
    intro s v3 I e3 hs hn
    have fin : f_X4_deal_b58 Z Q v0 I L := by
      unfold f_X4_deal_b58
      intro I1 e1
      exact s18_X4_findMains v0 x0 x1 h0 h1 n01 (fun I' _ hm' => hQ I' hm')
    have nx : ∀ I', s < 24 → f_X4_deal_b52 (f_X4_deal_L10 Z Q n) Z Q v0 v1 v2 v3 I' L := fun I' hs' => by
      unfold f_X4_deal_b52
      intro y ey
      exact ih (s + 1) y I' (by rw [ey]; exact (i_add e3 (show (1 : Int32).toInt = 1 from rfl) (by omega) (by omega)).trans (by omega)) (by omega) (by omega)
    unfold f_X4_deal_L10
    refine ⟨fun _ => fin, fun _ => ⟨fun _ => fin, fun _ => ⟨fun _ => fin, fun c3 => ?_⟩⟩⟩
    have c3 := (not_congr (i_le z24 e3)).mp c3
    have vi : vp_in v3 (jlen Z v1) := by rw [l1]; exact vi_of e3 (by omega) (by omega)
    refine ⟨vi, ?_⟩
    unfold f_X11_isFamily
    refine ⟨fun _ => ⟨fun _ => nx I (by omega), fun c => absurd rfl c⟩, fun c4 => ⟨fun _ => ⟨fun _ => nx I (by omega), fun c => absurd rfl c⟩, fun c5 => ⟨fun c => absurd c (by decide), fun _ => ?_⟩⟩⟩
    have c4 := (not_congr (i_lt rfl z0)).mp c4
    have c5 := (not_congr (i_le z8 rfl)).mp c5
    intro b hb
    cases h0.symm.trans hb
    have a3 : ((v3 * (8 : Int32)) + (I v1 v3.toNatClampNeg)).toInt = (s : Int) * 8 + (I v1 v3.toNatClampNeg).toInt := i_add (i_mul e3 z8 (by omega) (by omega)) rfl (by omega) (by omega)
    exact ⟨vi, vi_of a3 (by omega) (by omega), fun I24 e24 => nx I24 (by omega)⟩
theorem MAI_fr {W : List (Nat × Nat)} {Z Z' : jZ} {I I' : jI} {a x0 x1 : Nat} (w : WD Z I) (ka : jk Z a 4) (h0 : jr Z a 0 = some x0) (h1 : jr Z a 1 = some x1) (f : FR W Z I Z' I') (n0 : (4, 0) ∉ W) (n1 : (4, 1) ∉ W) (h : MAI I x0 x1) : MAI I' x0 x1 := by
  obtain ⟨y0, y1, y2, e0, e1, e2, k0, k1, k2, -⟩ := shr_at w ka
  cases h0.symm.trans e0; cases h1.symm.trans e1
  intro s hs
  rw [f.2.2.2 a 4 1 x1 ka h1 (by rw [k1.2]; rfl) rfl n1, f.2.2.2 a 4 0 x0 ka h0 (by rw [k0.2]; rfl) rfl n0]
  exact h s hs
theorem m18_X4_move {Z : jZ} {I : jI} {L : jL} (w : WD Z I) (v0 : Nat) (v1 v2 v3 v4 : Int32) (kv0 : jk Z v0 4) (x0 x1 : Nat) (h0 : jr Z v0 0 = some x0) (h1 : jr Z v0 1 = some x1) (hm : MAI I x0 x1) {Q : jI → jL → Prop} (hQ : ∀ (I' : jI) (L' : jL), WD Z I' → MAI I' x0 x1 → Q I' L') : f_X4_move v0 v1 v2 v3 v4 Z I L Q :=
  and_X4_move (Q1 := fun I' _ => WD Z I') (Q2 := fun I' _ => MAI I' x0 x1) (s_X4_move w v0 v1 v2 v3 v4 kv0 (fun I' L' w' _ => w')) (s18_X4_move w v0 v1 v2 v3 v4 kv0 x0 x1 h0 h1 hm (fun I' h => h)) (fun I' L' a b => hQ I' L' a b)
theorem in18_L30 {Z : jZ} (v0 : Nat) (kv0 : jk Z v0 4) (x0 x1 : Nat) (h0 : jr Z v0 0 = some x0) (h1 : jr Z v0 1 = some x1) (v1 v2 v3 v4 v5 : Int32) (h5 : ¬ v5 = 0) {Q : jI → jL → Prop} (hQ : ∀ (I' : jI) (L' : jL), WD Z I' → MAI I' x0 x1 → Q I' L') :
    ∀ (n s : Nat) (v6 v7 : Int32) (I : jI) (L : jL), v7.toInt = (s : Int) → s ≤ 8 → 9 ≤ n + s → WD Z I → MAI I x0 x1 → f_X4_inherit_L30 Z Q n v0 v1 v2 v3 v4 v5 v6 v7 I L := by
  have z8 : (8 : Int32).toInt = 8 := rfl
  intro n
  induction n with
  | zero => intro s v6 v7 I L e7 hs hn; omega
  | succ n ih =>
    intro s v6 v7 I L e7 hs hn w hm
    have nx : ∀ v6' I' L', s < 8 → WD Z I' → MAI I' x0 x1 → f_X4_inherit_b73 (f_X4_inherit_L30 Z Q n) Z Q v0 v1 v2 v3 v4 v5 v6' v7 I' L' := fun v6' I' L' hs' w' hm' => by
      unfold f_X4_inherit_b73
      intro y ey
      exact ih (s + 1) v6' y I' L' (by rw [ey]; exact (i_add e7 (show (1 : Int32).toInt = 1 from rfl) (by omega) (by omega)).trans (by omega)) (by omega) (by omega) w' hm'
    unfold f_X4_inherit_L30
    refine ⟨fun _ => hQ I L w hm, fun c => ?_⟩
    have c := (not_congr (i_le z8 e7)).mp c
    have go : ∀ s5 : Int32, f_X4_inherit_b66 (f_X4_inherit_L30 Z Q n) Z Q v0 v1 v2 v3 v4 v5 v6 v7 v0 v1 v2 v7 (v4 / v5) s5 I L := fun s5 => by
      unfold f_X4_inherit_b66
      refine m18_X4_move w v0 v1 v2 v7 _ kv0 x0 x1 h0 h1 hm (fun I' L' w' hm' => ?_)
      intro y ey
      exact nx y I' L' (by omega) w' hm'
    exact ⟨fun _ => nx v6 I L (by omega) w hm, fun _ => ⟨h5, fun _ => go 0, fun _ => go 1⟩⟩
theorem s18_X4_inherit {Z : jZ} {I : jI} {L : jL} (w : WD Z I) (v0 : Nat) (v1 v2 v3 : Int32) (kv0 : jk Z v0 4) (x0 x1 : Nat) (h0 : jr Z v0 0 = some x0) (h1 : jr Z v0 1 = some x1) (hm : MAI I x0 x1) {Q : jI → jL → Prop} (hQ : ∀ (I' : jI) (L' : jL), WD Z I' → MAI I' x0 x1 → Q I' L') : f_X4_inherit v0 v1 v2 v3 Z I L Q := by
  unfold f_X4_inherit
  refine s_X4_shareOf w v0 v1 v2 kv0 (fun r => ?_)
  refine s_J6_bitCount_0f7a4 w v3 (fun r26 p26 => ?_)
  refine ⟨fun c => ⟨c, fun x29 e29 => ?_⟩, fun _ => hQ I L w hm⟩
  exact ⟨9, in18_L30 v0 kv0 x0 x1 h0 h1 v1 v2 v3 _ _ c hQ 9 0 x29 0 I L rfl (by omega) (by omega) w hm⟩
/-- the class's shares, and who is MAIN -/
def PC1 (Z : jZ) (v0 uF uP x0 x1 : Nat) : Prop := jr Z v0 2 = some uF ∧ jk Z uF 8 ∧ jr Z uF 4 = some uP ∧ jk Z uP 4 ∧ jr Z uP 0 = some x0 ∧ jr Z uP 1 = some x1
theorem s18_X11_sells {Z : jZ} {I : jI} {L : jL} (w : WD Z I) (v0 : Nat) (v1 v2 v3 v4 v5 : Int32) (uF uP x0 x1 : Nat) (pc : PC1 Z v0 uF uP x0 x1) (hm : MAI I x0 x1) {Q : Int32 → jI → jL → Prop} (hQ : ∀ (r : Int32) (I' : jI) (L' : jL), MAI I' x0 x1 → Q r I' L') : f_X11_sells v0 v1 v2 v3 v4 v5 Z I L Q := by
  obtain ⟨huF, kF, huP, kP, h0, h1⟩ := pc
  unfold f_X11_sells
  intro b e
  cases huF.symm.trans e
  refine s_X8_has w uF v1 kF (fun r p => ⟨fun _ => hQ _ I L hm, fun _ => ?_⟩)
  refine s_X11_isFamily w v2 (fun r2 p2 => ⟨fun _ => hQ _ I L hm, fun _ => ?_⟩)
  refine s_X11_isFamily w v3 (fun r3 p3 => ⟨fun _ => hQ _ I L hm, fun _ => ?_⟩)
  refine ⟨fun _ => ⟨fun _ => hQ _ I L hm, fun c5 => ⟨fun _ => hQ _ I L hm, fun _ => ⟨fun c7 => ?_, fun _ => hQ _ I L hm⟩⟩⟩, fun _ => hQ _ I L hm⟩
  have c5 := (not_congr (i_lt (x := v4) (y := 1) rfl (show (1 : Int32).toInt = 1 from rfl))).mp c5
  have c7 := (i_le (x := v4) (y := v5) rfl rfl).mp c7
  intro b e
  cases huF.symm.trans e
  intro b e
  cases huP.symm.trans e
  refine s_X4_shareOf w uP v1 v2 kP (fun r => ?_)
  refine ⟨fun e => by have := congrArg Int32.toInt e; rw [show (0 : Int32).toInt = 0 from rfl] at this; omega, ?_⟩
  intro x40 e40
  refine ⟨fun _ => ?_, fun _ => hQ _ I L hm⟩
  intro b e
  cases huF.symm.trans e
  intro b e
  cases huP.symm.trans e
  refine s_X4_remember w uP kP (fun I1 L1 w1 f1 => ?_)
  intro b e
  cases huF.symm.trans e
  intro b e
  cases huP.symm.trans e
  exact m18_X4_move w1 uP v1 v2 v3 x40 kP x0 x1 h0 h1 (MAI_fr w kP h0 h1 f1 (by decide) (by decide) hm) (fun I' L' _ hm' => hQ _ I' L' hm')
theorem s18_X11_undo {Z : jZ} {I : jI} {L : jL} (w : WD Z I) (v0 : Nat) (uF uP x0 x1 : Nat) (pc : PC1 Z v0 uF uP x0 x1) (hm : MAI I x0 x1) {Q : Int32 → jI → jL → Prop} (hQ : ∀ (r : Int32) (I' : jI) (L' : jL), MAI I' x0 x1 → Q r I' L') : f_X11_undo v0 Z I L Q := by
  obtain ⟨huF, kF, huP, kP, h0, h1⟩ := pc
  unfold f_X11_undo
  intro b e
  cases huF.symm.trans e
  intro b e
  cases huP.symm.trans e
  refine s18_X4_takeBack w uP kP x0 x1 h0 h1 hm (w.fld 4 3 kP (by decide)) (w.fld 4 4 kP (by decide)) (fun r I' hm' => ⟨fun _ => hQ _ I' L hm', fun _ => ?_⟩)
  intro b e
  cases huF.symm.trans e
  intro b e
  cases huP.symm.trans e
  exact hQ _ I' L hm'
theorem d18_L58 {Z : jZ} (v0 : Nat) (uF uP x0 x1 : Nat) (pc : PC1 Z v0 uF uP x0 x1) (v1 v2 v3 : Int32) {Q : Int32 → jI → jL → Prop} (hQ : ∀ (r : Int32) (I' : jI) (L' : jL), MAI I' x0 x1 → Q r I' L') :
    ∀ (n s : Nat) (v4 : Int32) (I : jI) (L : jL), v4.toInt = (s : Int) → s ≤ 24 → 25 ≤ n + s → WD Z I → MAI I x0 x1 → f_X11_dies_L58 Z Q n v0 v1 v2 v3 v4 I L := by
  obtain ⟨huF, kF, huP, kP, h0, h1⟩ := pc
  intro n
  induction n with
  | zero => intro s v4 I L e4 hs hn; omega
  | succ n ih =>
    intro s v4 I L e4 hs hn w hm
    have t9 : 0 ≤ (I uF 9).toInt ∧ (I uF 9).toInt ≤ 24 := w.fld 8 9 kF (by decide)
    unfold f_X11_dies_L58
    intro b e
    cases huF.symm.trans e
    refine ⟨fun _ => hQ _ I L hm, fun c => ?_⟩
    have c := (not_congr (i_le rfl e4)).mp c
    intro b e
    cases huF.symm.trans e
    intro b e
    cases huP.symm.trans e
    refine s18_X4_inherit w uP v4 v1 v2 kP x0 x1 h0 h1 hm (fun I' L' w' hm' => ?_)
    intro y ey
    exact ih (s + 1) y I' L' (by rw [ey]; exact (i_add e4 (show (1 : Int32).toInt = 1 from rfl) (by omega) (by omega)).trans (by omega)) (by omega) (by omega) w' hm'
theorem s18_X11_dies {Z : jZ} {I : jI} {L : jL} (w : WD Z I) (v0 : Nat) (v1 v2 : Int32) (uF uP x0 x1 : Nat) (pc : PC1 Z v0 uF uP x0 x1) (hm : MAI I x0 x1) {Q : Int32 → jI → jL → Prop} (hQ : ∀ (r : Int32) (I' : jI) (L' : jL), MAI I' x0 x1 → Q r I' L') : f_X11_dies v0 v1 v2 Z I L Q := by
  have pcc := pc
  obtain ⟨huF, kF, huP, kP, h0, h1⟩ := pc
  unfold f_X11_dies
  refine s_X11_isFamily w v1 (fun r p => ⟨fun _ => hQ _ I L hm, fun _ => ⟨fun _ => hQ _ I L hm, fun _ => ⟨fun _ => hQ _ I L hm, fun _ => ⟨fun _ => ?_, fun _ => hQ _ I L hm⟩⟩⟩⟩)
  intro b e
  cases huF.symm.trans e
  intro b e
  cases huP.symm.trans e
  refine s_X4_sumOf w uP v1 kP (fun r => ⟨fun _ => hQ _ I L hm, fun _ => ?_⟩)
  intro b e
  cases huF.symm.trans e
  intro b e
  cases huP.symm.trans e
  refine s_X4_remember w uP kP (fun I1 L1 w1 f1 => ?_)
  exact ⟨25, d18_L58 v0 uF uP x0 x1 pcc v1 v2 r hQ 25 0 0 I1 L1 rfl (by omega) (by omega) w1 (MAI_fr w kP h0 h1 f1 (by decide) (by decide) hm)⟩
theorem s18_X4_deal {Z : jZ} {I : jI} {L : jL} (w : WD Z I) (v0 v1 : Nat) (v2 : Int32) (kv0 : jk Z v0 4) (l1 : jlen Z v1 = 24) (x0 x1 : Nat) (h0 : jr Z v0 0 = some x0) (h1 : jr Z v0 1 = some x1) {Q : jI → jL → Prop} (hQ : ∀ (I' : jI), MAI I' x0 x1 → Q I' L) : f_X4_deal v0 v1 v2 Z I L Q := by
  obtain ⟨y0, y1, y2, e0, e1, e2, k0, k1, k2, l0, l1', l2, n01, n02, n12, na0, na1, na2⟩ := shr_at w kv0
  cases h0.symm.trans e0; cases h1.symm.trans e1
  unfold f_X4_deal
  intro b hb
  cases h0.symm.trans hb
  refine fill_raw (by omega) (fun I28 _ _ => ?_)
  exact ⟨25, deal_L10 v0 v1 x0 x1 h0 h1 n01 l1 v2 hQ I w 25 0 0 I28 rfl (by omega) (by omega)⟩
theorem s18_X8_build {Z : jZ} {I : jI} {L : jL} (w : WD Z I) (v0 v1 : Nat) (kv0 : jk Z v0 8) (kv1 : jk Z v1 9) (uP x0 x1 : Nat) (huP : jr Z v0 4 = some uP) (kP : jk Z uP 4) (h0 : jr Z uP 0 = some x0) (h1 : jr Z uP 1 = some x1) {Q : jI → jL → Prop} (hQ : ∀ (I' : jI), MAI I' x0 x1 → Q I' L) : f_X8_build v0 v1 Z I L Q := by
  obtain ⟨b4, e4, k4, l4⟩ := sh_f w.1 kv1 (j := 4) (k := 14) (m := 24) rfl
  unfold f_X8_build
  intro I1 _ b2 _ b3 _
  refine ⟨⟨by decide, by decide, by decide, by decide, by decide⟩, fun I5 _ b6 _ b7 _ => ?_⟩
  refine ⟨⟨by decide, by decide, by decide, by decide, by decide⟩, fun I9 _ b10 _ b11 _ => ?_⟩
  refine ⟨⟨by decide, by decide, by decide, by decide, by decide⟩, fun I13 _ b14 _ b15 _ => ?_⟩
  refine ⟨⟨by decide, by decide, by decide, by decide, by decide⟩, fun I17 _ b18 e18 b19 e19 => ?_⟩
  cases huP.symm.trans e18
  cases e4.symm.trans e19
  -- the deal needs no more than the shape of the world
  obtain ⟨y0, y1, y2, g0, g1, g2, k0, k1, k2, l0, l1, l2, n01, n02, n12, na0, na1, na2⟩ := shr_at w kP
  cases h0.symm.trans g0; cases h1.symm.trans g1
  unfold f_X4_deal
  intro b hb
  cases h0.symm.trans hb
  refine fill_raw (by omega) (fun I28 _ _ => ?_)
  exact ⟨25, deal_L10 uP b4 x0 x1 h0 h1 n01 l4 _ hQ I w 25 0 0 I28 rfl (by omega) (by omega)⟩
theorem s18_X2_getStairs {Z : jZ} {I : jI} {L : jL} (w : WD Z I) (v0 v1 : Nat) (kv0 : jk Z v0 2) (uP x0 x1 : Nat) (huP : jr Z v1 4 = some uP) (kP : jk Z uP 4) (h0 : jr Z uP 0 = some x0) (h1 : jr Z uP 1 = some x1) {Q : jI → jL → Prop} (hQ : ∀ (I' : jI), MAI I' x0 x1 → Q I' L) : f_X2_getStairs v0 v1 Z I L Q := by
  obtain ⟨b2, e2, k2, l2⟩ := sh_f w.1 kv0 (j := 2) (k := 14) (m := 192) rfl
  obtain ⟨y0, y1, y2, g0, g1, g2, k0, k1, k2', l0, l1, l2', n01, n02, n12, na0, na1, na2⟩ := shr_at w kP
  cases h0.symm.trans g0; cases h1.symm.trans g1
  unfold f_X2_getStairs
  intro b1 _ b3 _
  refine ⟨⟨by decide, by decide, by decide, by decide, by decide⟩, fun I4 _ b5 _ b6 _ => ?_⟩
  refine ⟨⟨by decide, by decide, by decide, by decide, by decide⟩, fun I8 _ b9 e9 b10 e10 => ?_⟩
  cases huP.symm.trans e9
  cases e2.symm.trans e10
  unfold f_X4_restore
  intro b hb
  cases h0.symm.trans hb
  refine ⟨⟨by decide, by decide, by decide, by rw [l2]; decide, by decide⟩, fun I3 e3 I4' e4 => ?_⟩
  exact s18_X4_findMains uP x0 x1 h0 h1 n01 (fun I' _ hm' => hQ I' hm')
theorem MAI_eq {I I' : jI} {x0 x1 : Nat} (h0 : I' x0 = I x0) (h1 : I' x1 = I x1) (h : MAI I x0 x1) : MAI I' x0 x1 := fun s hs => by
  rw [h0, h1]
  exact h s hs
theorem ag18_L59 {Z : jZ} (v0 v2 : Nat) (kv0 : jk Z v0 11) (kv2 : jk Z v2 2) (uP x0 x1 : Nat) (kP : jk Z uP 4) (h0 : jr Z uP 0 = some x0) (h1 : jr Z uP 1 = some x1) {Q : Int32 → jI → jL → Prop} (hQ : ∀ (r : Int32) (I' : jI) (L' : jL), MAI I' x0 x1 → Q r I' L') :
    ∀ (n s : Nat) (v3 : Int32) (I : jI) (L : jL), v3.toInt = (s : Int) → s ≤ 6 → 7 ≤ n + s → WD Z I → MAI I x0 x1 → f_X11_again_L59 Z Q n v0 v2 v3 I L := by
  intro n
  induction n with
  | zero => intro s v3 I L e3 hs hn; omega
  | succ n ih =>
    intro s v3 I L e3 hs hn w hm
    have t4 : 0 ≤ (I v0 4).toInt ∧ (I v0 4).toInt ≤ 6 := w.fld 11 4 kv0 (by decide)
    have nx : ∀ I' L', s < 6 → WD Z I' → MAI I' x0 x1 → f_X11_again_b94 (f_X11_again_L59 Z Q n) Z Q v0 v2 v3 I' L' := fun I' L' hs' w' hm' => by
      unfold f_X11_again_b94
      intro y ey
      exact ih (s + 1) y I' L' (by rw [ey]; exact (i_add e3 (show (1 : Int32).toInt = 1 from rfl) (by omega) (by omega)).trans (by omega)) (by omega) (by omega) w' hm'
    unfold f_X11_again_L59
    refine ⟨fun _ => hQ _ I L hm, fun _ => ⟨fun _ => hQ _ I L hm, fun c => ?_⟩⟩
    have c := (not_congr (i_le rfl e3)).mp c
    refine s_X11_find w v0 v3 kv0 (fun r p => ⟨fun _ => nx I L (by omega) w hm, fun b e => ?_⟩)
    exact s_X2_getPilgrim w v2 v3 b kv2 (p.1 b e).1 (fun I' L' w' f' => nx I' L' (by omega) w' (MAI_fr w kP h0 h1 f' (by decide) (by decide) hm))
set_option maxHeartbeats 1000000 in
theorem s18_X11_again {Z : jZ} {I : jI} {L : jL} (w : WD Z I) (v0 : Nat) (v1 : Int32) (kv0 : jk Z v0 11) (uF uP x0 x1 : Nat) (pc : PC1 Z v0 uF uP x0 x1) (hm : MAI I x0 x1) {Q : Int32 → jI → jL → Prop} (hQ : ∀ (r : Int32) (I' : jI) (L' : jL), MAI I' x0 x1 → Q r I' L') : f_X11_again v0 v1 Z I L Q := by
  obtain ⟨huF, kF, huP, kP, h0, h1⟩ := pc
  obtain ⟨y0, y1, y2, g0, g1, g2, k0, k1, k2, -⟩ := shr_at w kP
  cases h0.symm.trans g0; cases h1.symm.trans g1
  have z0 : (0 : Int32).toInt = 0 := rfl
  have z2 : (2 : Int32).toInt = 2 := rfl
  unfold f_X11_again
  refine ⟨fun _ => hQ _ I L hm, fun c1 => ?_⟩
  have c1 := (not_congr (i_lt rfl z0)).mp c1
  intro b25 eb25
  obtain ⟨x26, ex26, kb25, lb25⟩ := sh_f w.1 kv0 (j := 8) (k := 17) (m := 2) rfl
  cases eb25.symm.trans ex26
  refine ⟨fun _ => hQ _ I L hm, fun c2 => ?_⟩
  have c2 := (not_congr (i_le z2 rfl)).mp c2
  intro b31 eb31
  obtain rfl : b25 = b31 := Option.some.inj (eb25.symm.trans eb31)
  have o32 : vp_in v1 2 := vi_of rfl (by omega) (by omega)
  refine ⟨o32, ?_⟩
  intro b33 eb33
  obtain ⟨x35, ex35, kb33⟩ := w.1.2.2.1 b25 kb25 _ (vp_lt (by rw [lb25]; exact o32))
  cases eb33.symm.trans ex35
  refine ⟨fun _ => ?_, fun _ => hQ _ I L hm⟩
  intro b38 eb38
  obtain rfl : b25 = b38 := Option.some.inj (eb25.symm.trans eb38)
  refine ⟨o32, ?_⟩
  intro b40 eb40
  cases eb33.symm.trans eb40
  intro b43 eb43
  cases huF.symm.trans eb43
  refine and_X2_getStairs (Q1 := fun I' _ => WD Z I') (Q2 := fun I' _ => MAI I' x0 x1) (s_X2_getStairs w b33 uF kb33 kF (fun I' L' w' _ => w')) (s18_X2_getStairs w b33 uF kb33 uP x0 x1 huP kP h0 h1 (fun I' h => h)) (fun I45 L46 w45 m45 => ?_)
  intro b48 eb48 b50 eb50
  obtain ⟨x51, ex51, kb50, lb50⟩ := sh_f w45.1 kv0 (j := 5) (k := 14) (m := 8) rfl
  cases eb50.symm.trans ex51
  have nx : ∀ x j, jr Z uP j = some x → b50 ≠ x := fun x j hj q => by
    subst q
    exact absurd (w.2.1.2.2 v0 11 5 uP 4 j b50 kv0 kP eb50 hj rfl rfl).1 (ks_ne kv0 kP (by decide))
  refine ⟨⟨by decide, by decide, by decide, by decide, by decide⟩, fun I58 e58 => ?_⟩
  have w58 : WD Z I58 := by rw [e58]; exact WD_cpy w45 11 5 kv0 eb50 kb50 rfl rfl (by decide) (fun _ _ _ => trivial)
  have m58 : MAI I58 x0 x1 := MAI_eq (by rw [e58]; exact va_up_ne _ _ (nx x0 0 h0).symm) (by rw [e58]; exact va_up_ne _ _ (nx x1 1 h1).symm) m45
  exact ⟨7, ag18_L59 v0 b33 kv0 kb33 uP x0 x1 kP h0 h1 hQ 7 0 0 I58 L46 rfl (by omega) (by omega) w58 m58⟩
theorem st18_L76 {Z : jZ} (v0 : Nat) (kv0 : jk Z v0 11) (x0 x1 : Nat) (k0 : jk Z x0 14) (k1 : jk Z x1 14) (v1 : Int32) {Q : Int32 → jI → jL → Prop} (hQ : ∀ (r : Int32) (I' : jI) (L' : jL), MAI I' x0 x1 → Q r I' L') :
    ∀ (n s : Nat) (v2 : Int32) (I : jI) (L : jL), v2.toInt = (s : Int) → s ≤ 2 → 3 ≤ n + s → WD Z I → MAI I x0 x1 → f_X11_stairs_L76 Z Q n v0 v1 v2 I L := by
  have z2 : (2 : Int32).toInt = 2 := rfl
  intro n
  induction n with
  | zero => intro s v2 I L e2 hs hn; omega
  | succ n ih =>
    intro s v2 I L e2 hs hn w hm
    unfold f_X11_stairs_L76
    intro b1 eb1
    obtain ⟨x26, ex26, kb1, lb1⟩ := sh_f w.1 kv0 (j := 8) (k := 17) (m := 2) rfl
    cases eb1.symm.trans ex26
    refine ⟨fun _ => hQ _ I L hm, fun c => ?_⟩
    have c := (not_congr (i_le z2 e2)).mp c
    intro b3 eb3
    obtain rfl : b1 = b3 := Option.some.inj (eb1.symm.trans eb3)
    have o : vp_in v2 2 := vi_of e2 (by omega) (by omega)
    refine ⟨o, ?_⟩
    intro b5 eb5
    obtain ⟨x35, ex35, kb5⟩ := w.1.2.2.1 b1 kb1 _ (vp_lt (by rw [lb1]; exact o))
    cases eb5.symm.trans ex35
    intro I6 e6 y ey
    refine ih (s + 1) y I6 L (by rw [ey]; exact (i_add e2 (show (1 : Int32).toInt = 1 from rfl) (by omega) (by omega)).trans (by omega)) (by omega) (by omega) ?_ (MAI_eq (by rw [e6, jpI_ne (ks_ne k0 kb5 (by decide))]) (by rw [e6, jpI_ne (ks_ne k1 kb5 (by decide))]) hm)
    rw [e6]
    exact WD_putF w 2 8 kb5 (by decide) (by decide) trivial
theorem st18_L38 {Z : jZ} (v0 : Nat) (kv0 : jk Z v0 11) (uP x0 x1 : Nat) (kP : jk Z uP 4) (h0 : jr Z uP 0 = some x0) (h1 : jr Z uP 1 = some x1) (k0 : jk Z x0 14) (k1 : jk Z x1 14) (v1 : Int32) {Q : Int32 → jI → jL → Prop} (hQ : ∀ (r : Int32) (I' : jI) (L' : jL), MAI I' x0 x1 → Q r I' L') :
    ∀ (n s : Nat) (v2 : Int32) (I : jI) (L : jL), v2.toInt = (s : Int) → s ≤ 6 → 7 ≤ n + s → WD Z I → MAI I x0 x1 → f_X11_stairs_L38 Z Q n v0 v1 v2 I L := by
  intro n
  induction n with
  | zero => intro s v2 I L e2 hs hn; omega
  | succ n ih =>
    intro s v2 I L e2 hs hn w hm
    have t4 : 0 ≤ (I v0 4).toInt ∧ (I v0 4).toInt ≤ 6 := w.fld 11 4 kv0 (by decide)
    have nx : ∀ I' L', s < 6 → WD Z I' → MAI I' x0 x1 → f_X11_stairs_b60 (f_X11_stairs_L38 Z Q n) Z Q v0 v1 v2 I' L' := fun I' L' hs' w' hm' => by
      unfold f_X11_stairs_b60
      intro y ey
      exact ih (s + 1) y I' L' (by rw [ey]; exact (i_add e2 (show (1 : Int32).toInt = 1 from rfl) (by omega) (by omega)).trans (by omega)) (by omega) (by omega) w' hm'
    unfold f_X11_stairs_L38
    refine ⟨fun _ => ?_, fun c => ?_⟩
    · intro b10 eb10
      obtain ⟨x51, ex51, kb10, lb10⟩ := sh_f w.1 kv0 (j := 5) (k := 14) (m := 8) rfl
      cases eb10.symm.trans ex51
      have nx' : ∀ x j, jr Z uP j = some x → x ≠ b10 := fun x j hj q => by
        subst q
        exact absurd (w.2.1.2.2 v0 11 5 uP 4 j x kv0 kP eb10 hj rfl rfl).1 (ks_ne kv0 kP (by decide))
      refine and_J7_fill_53178 (Q1 := fun I' _ => WD Z I') (Q2 := fun I' _ => MAI I' x0 x1) (s_J7_fill_53178 w b10 0 kb10 v0 11 5 kv0 eb10 (by decide) rfl (by omega) (fun _ => trivial) (fun I' L' w' _ => w')) (fill_raw (by omega) (fun I' hx _ => MAI_eq (hx x0 (nx' x0 0 h0)) (hx x1 (nx' x1 1 h1)) hm)) (fun I13 L14 w13 m13 => ?_)
      exact ⟨3, st18_L76 v0 kv0 x0 x1 k0 k1 v1 hQ 3 0 0 I13 L14 rfl (by omega) (by omega) w13 m13⟩
    have c := (not_congr (i_le rfl e2)).mp c
    refine s_X11_find w v0 v2 kv0 (fun r p => ⟨fun _ => nx I L (by omega) w hm, fun b e => ?_⟩)
    exact s_X5_startAnew w b (p.1 b e).1 (fun I' L' w' f' => nx I' L' (by omega) w' (MAI_fr w kP h0 h1 f' (by decide) (by decide) hm))
theorem s18_X11_stairs {Z : jZ} {I : jI} {L : jL} (w : WD Z I) (v0 : Nat) (kv0 : jk Z v0 11) (uF uP x0 x1 : Nat) (pc : PC1 Z v0 uF uP x0 x1) (hm : MAI I x0 x1) {Q : Int32 → jI → jL → Prop} (hQ : ∀ (r : Int32) (I' : jI) (L' : jL), MAI I' x0 x1 → Q r I' L') : f_X11_stairs v0 Z I L Q := by
  obtain ⟨huF, kF, huP, kP, h0, h1⟩ := pc
  obtain ⟨y0, y1, y2, g0, g1, g2, k0, k1, k2, -⟩ := shr_at w kP
  cases h0.symm.trans g0; cases h1.symm.trans g1
  obtain ⟨uN, eN, kN⟩ := sh_o w.1 kv0 (j := 1) (k := 9) rfl
  obtain ⟨uT, eT, kT⟩ := sh_o w.1 kv0 (j := 0) (k := 10) rfl
  unfold f_X11_stairs
  intro b e
  cases eN.symm.trans e
  intro b e
  cases eT.symm.trans e
  refine s_X9_read w uN uT kN kT (fun r I1 L1 w1 f1 => ?_)
  intro b e
  cases eT.symm.trans e
  refine s_X10_clear w1 uT kT (fun I2 L2 w2 f2 => ?_)
  have m2 : MAI I2 x0 x1 := MAI_fr w1 kP h0 h1 f2 (by decide) (by decide) (MAI_fr w kP h0 h1 f1 (by decide) (by decide) hm)
  refine ⟨fun _ => ?_, fun _ => hQ _ I2 L2 m2⟩
  intro b e
  cases huF.symm.trans e
  intro b e
  cases eN.symm.trans e
  refine and_X8_build (Q1 := fun I' _ => WD Z I') (Q2 := fun I' _ => MAI I' x0 x1) (s_X8_build w2 uF uN kF kN (fun I' L' w' _ => w')) (s18_X8_build w2 uF uN kF kN uP x0 x1 huP kP h0 h1 (fun I' h => h)) (fun I3 L3 w3 m3 => ?_)
  exact ⟨7, st18_L38 v0 kv0 uP x0 x1 kP h0 h1 k0 k1 r hQ 7 0 0 I3 L3 rfl (by omega) (by omega) w3 m3⟩
end
section
/-! ===== the reference reads a LAW: what it comes to under letters ===== -/
/-- two numbers and a sign -/
def joi (s : Int) (a b : Int32) : Int32 := if s = 42 then a * b else if s = 43 then a + b else if s = 45 then a - b else if s = 60 then (if a < b then 1 else 0) else if s = 61 then (if a = b then 1 else 0) else if s = 62 then (if b < a then 1 else 0) else if b = 0 then 0 else a / b
/-- one number, letter or sign is worked off -/
def ev1 (lt : Nat → Int32) (st : List Int32) (x : Int) : List Int32 := if x < 1000 then Int32.ofInt x :: st else if x < 2000 then lt (x - 1000).toNat :: st else if x = 2000 then (match st with | a :: s => (-a) :: s | s => s) else (match st with | b :: a :: s => joi (x - 2000) a b :: s | s => s)
def ev (lt : Nat → Int32) (c : List Int) (st : List Int32) : List Int32 := c.foldl (ev1 lt) st
theorem ev_app {lt : Nat → Int32} {c e : List Int} {st : List Int32} : ev lt (c ++ e) st = ev lt e (ev lt c st) := List.foldl_append
theorem ev_one {lt : Nat → Int32} {x : Int} {st : List Int32} : ev lt [x] st = ev1 lt st x := rfl
theorem ev_neg {lt : Nat → Int32} {a : Int32} {st : List Int32} : ev lt [2000] (a :: st) = (-a) :: st := by
  rw [ev_one]
  unfold ev1
  rw [if_neg (by omega), if_neg (by omega), if_pos rfl]
theorem ev_op {lt : Nat → Int32} {a b : Int32} {s : Int} {st : List Int32} (h : 0 < s) : ev lt [2000 + s] (b :: a :: st) = joi s a b :: st := by
  rw [ev_one]
  unfold ev1
  rw [if_neg (by omega), if_neg (by omega), if_neg (by omega)]
  show joi (2000 + s - 2000) a b :: st = _
  rw [show 2000 + s - 2000 = s by omega]
theorem ev_num {lt : Nat → Int32} {v : Int32} {x : Int} {st : List Int32} (h : v.toInt = x) (h1 : x < 1000) : ev lt [x] st = v :: st := by
  rw [ev_one]
  unfold ev1
  rw [if_pos h1, ← h, Int32.ofInt_toInt]
theorem ev_let {lt : Nat → Int32} {j : Int} {st : List Int32} (h : 0 ≤ j ∧ j ≤ 6) : ev lt [1000 + j] st = lt j.toNat :: st := by
  rw [ev_one]
  unfold ev1
  rw [if_neg (by omega), if_pos (by omega), show 1000 + j - 1000 = j by omega]
theorem joi_mul {a b : Int32} : joi 42 a b = a * b := rfl
theorem joi_div {a b : Int32} : joi 47 a b = if b = 0 then 0 else a / b := rfl
theorem joi_add {a b : Int32} : joi 43 a b = a + b := rfl
theorem joi_sub {a b : Int32} : joi 45 a b = a - b := rfl
theorem joi_lt {a b : Int32} : joi 60 a b = if a < b then 1 else 0 := rfl
theorem joi_eq {a b : Int32} : joi 61 a b = if a = b then 1 else 0 := rfl
theorem joi_gt {a b : Int32} : joi 62 a b = if b < a then 1 else 0 := rfl
def TMl (Z : jZ) (I0 : jI) (v0 uR : Nat) (sz : Int) : Prop := WD Z I0 ∧ jk Z v0 12 ∧ jr Z v0 23 = some uR ∧ jk Z uR 13 ∧ (0 ≤ sz ∧ sz ≤ 80 ∧ min sz 40 ≤ (jlen Z uR : Int)) ∧ (∀ I', FR Ws_R12 Z I0 Z I' → I' uR = I0 uR)
def ML (Z : jZ) (I0 : jI) (v0 : Nat) (sz : Int) (I : jI) (a F : Int) : Prop := WD Z I ∧ FR Ws_R12 Z I0 Z I ∧ (I v0 26).toInt = a ∧ (I v0 27).toInt = F ∧ (I v0 24).toInt = sz ∧ (I v0 25).toInt = 40
theorem ML_at {Z : jZ} {I0 I : jI} {v0 uR : Nat} {sz a F : Int} (t : TMl Z I0 v0 uR sz) (s : ML Z I0 v0 sz I a F) (h0 : 0 ≤ a ∧ a ≤ 100) : ML Z I0 v0 sz (jpI I v0 26 ((I v0 26) + (1 : Int32))) (a + 1) F := by
  obtain ⟨w0, k0, -⟩ := t
  refine ⟨WD_putF s.1 12 26 k0 (by decide) (by decide) trivial, s.2.1.trans w0.1 w0.2.1 (FR_putF k0 (by decide) (by decide)), ?_, ?_, ?_, ?_⟩
  · rw [jpI_at]; exact i_add s.2.2.1 (show (1 : Int32).toInt = 1 from rfl) (by omega) (by omega)
  · rw [jpI_o (by decide)]; exact s.2.2.2.1
  · rw [jpI_o (by decide)]; exact s.2.2.2.2.1
  · rw [jpI_o (by decide)]; exact s.2.2.2.2.2
theorem ML_flt {Z : jZ} {I0 I : jI} {v0 uR : Nat} {sz a F : Int} {y : Int32} (t : TMl Z I0 v0 uR sz) (s : ML Z I0 v0 sz I a F) : ML Z I0 v0 sz (jpI I v0 27 y) a y.toInt := by
  obtain ⟨w0, k0, -⟩ := t
  refine ⟨WD_putF s.1 12 27 k0 (by decide) (by decide) trivial, s.2.1.trans w0.1 w0.2.1 (FR_putF k0 (by decide) (by decide)), ?_, ?_, ?_, ?_⟩
  · rw [jpI_o (by decide)]; exact s.2.2.1
  · rw [jpI_at]
  · rw [jpI_o (by decide)]; exact s.2.2.2.2.1
  · rw [jpI_o (by decide)]; exact s.2.2.2.2.2
theorem n_here {Z : jZ} {I0 I : jI} {L : jL} {v0 uR : Nat} {sz a F : Int} {Q : Int32 → jI → jL → Prop} (t : TMl Z I0 v0 uR sz) (s : ML Z I0 v0 sz I a F) (h0 : 0 ≤ a) (h : ∀ r : Int32, r.toInt = GS (I0 uR) (min sz 40) a → Q r I L) : f_X12_here v0 Z I L Q := by
  obtain ⟨w0, k0, h23, kR, hz, hR⟩ := t
  have e := hR I s.2.1
  obtain ⟨w, f, sa, sF, s4, s5⟩ := s
  unfold f_X12_here
  refine ⟨fun c => h _ ?_, fun c => ⟨fun c1 => h _ ?_, fun c1 => ⟨uR, h23, kR, ?_, h _ ?_⟩⟩⟩
  · have := (i_le s4 sa).mp c
    rw [GS_out (by omega)]; rfl
  · have := (i_le s5 sa).mp c1
    rw [GS_out (by omega)]; rfl
  · have := (not_congr (i_le s4 sa)).mp c
    have := (not_congr (i_le s5 sa)).mp c1
    exact vi_of sa (by omega) (by omega)
  · have c := (not_congr (i_le s4 sa)).mp c
    have c1 := (not_congr (i_le s5 sa)).mp c1
    rw [e]
    have g := GS_in (f := I0 uR) (lim := min sz 40) (x := I v0 26) (by omega) (by omega)
    rw [sa] at g
    exact g
theorem n_fine {Z : jZ} {I0 I : jI} {L : jL} {v0 : Nat} {sz a F : Int} {Q : Int32 → jI → jL → Prop} (s : ML Z I0 v0 sz I a F) (h1 : F = -1 → Q 1 I L) (h2 : F ≠ -1 → Q 0 I L) : f_X12_fine v0 Z I L Q := by
  unfold f_X12_fine
  exact ⟨fun c => h2 ((not_congr (i_eq s.2.2.2.1 (show (-1 : Int32).toInt = -1 from rfl))).mp c), fun c => h1 ((i_eq s.2.2.2.1 (show (-1 : Int32).toInt = -1 from rfl)).mp c)⟩
theorem n_fault {Z : jZ} {I0 I : jI} {L : jL} {v0 uR : Nat} {sz a : Int} {y : Int32} {Q : jI → jL → Prop} (t : TMl Z I0 v0 uR sz) (s : ML Z I0 v0 sz I a (-1)) (h : ∀ I', ML Z I0 v0 sz I' a y.toInt → Q I' L) : f_X12_fault v0 y Z I L Q := by
  unfold f_X12_fault
  refine n_fine s (fun _ => ⟨fun c => absurd c (by decide), fun _ => ?_⟩) (fun c => absurd rfl c)
  intro I9 e9
  rw [e9]
  exact h _ (ML_flt t s)
theorem n_faultD {Z : jZ} {I0 I : jI} {L : jL} {v0 : Nat} {sz a F : Int} {y : Int32} {Q : jI → jL → Prop} (s : ML Z I0 v0 sz I a F) (hF : F ≠ -1) (h : Q I L) : f_X12_fault v0 y Z I L Q := by
  unfold f_X12_fault
  exact n_fine s (fun c => absurd c hF) (fun _ => ⟨fun _ => h, fun c => absurd rfl c⟩)
theorem n_pass {Z : jZ} {I0 I : jI} {L : jL} {v0 uR : Nat} {sz a : Int} {c : Int32} {k : Int} {Q : Int32 → jI → jL → Prop} (t : TMl Z I0 v0 uR sz) (s : ML Z I0 v0 sz I a (-1)) (h0 : 0 ≤ a ∧ a ≤ 100) (hk : c.toInt = k) (h1 : GS (I0 uR) (min sz 40) a = k → ∀ I', ML Z I0 v0 sz I' (a + 1) (-1) → Q 1 I' L) (h2 : GS (I0 uR) (min sz 40) a ≠ k → Q 0 I L) : f_X12_passes v0 c Z I L Q := by
  unfold f_X12_passes
  refine n_fine s (fun _ => ⟨fun c => absurd c (by decide), fun _ => ?_⟩) (fun c => absurd rfl c)
  refine n_here t s h0.1 (fun r hr => ⟨fun e => ?_, fun e => ?_⟩)
  · intro I17 e17
    rw [e17]
    have e := (i_eq rfl hk).mp e
    exact h1 (by omega) _ (ML_at t s h0)
  · have e := (not_congr (i_eq rfl hk)).mp e
    exact h2 (by omega)
theorem n_passD {Z : jZ} {I0 I : jI} {L : jL} {v0 : Nat} {sz a F : Int} {c : Int32} {Q : Int32 → jI → jL → Prop} (s : ML Z I0 v0 sz I a F) (hF : F ≠ -1) (h : Q 0 I L) : f_X12_passes v0 c Z I L Q := by
  unfold f_X12_passes
  exact n_fine s (fun c => absurd c hF) (fun _ => ⟨fun _ => h, fun c => absurd rfl c⟩)
theorem n_need {Z : jZ} {I0 I : jI} {L : jL} {v0 uR : Nat} {sz a : Int} {c : Int32} {k : Int} {Q : jI → jL → Prop} (t : TMl Z I0 v0 uR sz) (s : ML Z I0 v0 sz I a (-1)) (h0 : 0 ≤ a ∧ a ≤ 100) (hk : c.toInt = k) (h1 : GS (I0 uR) (min sz 40) a = k → ∀ I', ML Z I0 v0 sz I' (a + 1) (-1) → Q I' L) (h2 : GS (I0 uR) (min sz 40) a ≠ k → ∀ I', ML Z I0 v0 sz I' a a → Q I' L) : f_X12_need v0 c Z I L Q := by
  unfold f_X12_need
  refine n_pass t s h0 hk (fun g I' s' => ⟨fun _ => h1 g I' s', fun c => absurd c (by decide)⟩) (fun g => ⟨fun c => absurd rfl c, fun _ => ?_⟩)
  refine n_fault t s (fun I' s' => h2 g I' ?_)
  rw [s.2.2.1] at s'
  exact s'
theorem n_needD {Z : jZ} {I0 I : jI} {L : jL} {v0 : Nat} {sz a F : Int} {c : Int32} {Q : jI → jL → Prop} (s : ML Z I0 v0 sz I a F) (hF : F ≠ -1) (h : Q I L) : f_X12_need v0 c Z I L Q := by
  unfold f_X12_need
  exact n_passD s hF ⟨fun c => absurd rfl c, fun _ => n_faultD s hF h⟩
set_option maxHeartbeats 1000000 in
theorem n_num {Z : jZ} {I0 : jI} {L : jL} {v0 uR : Nat} {sz a : Int} {v4 : Int32} {Q : Int32 → jI → jL → Prop} (t : TMl Z I0 v0 uR sz) (e4 : v4.toInt = a) (h0 : 0 ≤ a ∧ a ≤ 40) (hd : 48 ≤ GS (I0 uR) (min sz 40) a ∧ GS (I0 uR) (min sz 40) a ≤ 57) (h : ∀ (v : Int32) I', v.toInt = nvd (GS (I0 uR) (min sz 40)) a (n3 (GS (I0 uR) (min sz 40)) a) → ML Z I0 v0 sz I' (a + n3 (GS (I0 uR) (min sz 40)) a) (-1) → Q v I' L) :
    ∀ (m : Nat) (v5 : Int32) (d : Nat) (I : jI), ML Z I0 v0 sz I (a + d) (-1) → N3 (GS (I0 uR) (min sz 40)) a d → v5.toInt = nvd (GS (I0 uR) (min sz 40)) a d → 4 ≤ m + d → f_X12_number_L18 Z Q m v0 3 0 999 v4 v5 I L := by
  have np := n3_pos hd
  have fin : ∀ (v5 : Int32) (d : Nat) (I : jI), ML Z I0 v0 sz I (a + d) (-1) → v5.toInt = nvd (GS (I0 uR) (min sz 40)) a d → n3 (GS (I0 uR) (min sz 40)) a = d → f_X12_number_b71 Z Q v0 0 999 v4 v5 I L := by
    intro v5 d I s e5 en
    have nv := N3_val (n3_is (g := GS (I0 uR) (min sz 40)) (a := a))
    rw [en] at nv np
    unfold f_X12_number_b71
    refine ⟨fun _ => ?_, fun c => ?_⟩
    · refine s_X12_in s.1 v5 0 999 (fun r16 p16 => ⟨fun g => ?_, fun g => ?_⟩)
      · unfold f_X12_number_b111
        exact n_fine s (fun _ => ⟨fun c => absurd c (by decide), fun _ => h v5 I (by rw [en]; exact e5) (by rw [en]; exact s)⟩) (fun c => absurd rfl c)
      · have g := (i_eq (x := r16) (y := 0) rfl (show (0 : Int32).toInt = 0 from rfl)).mp g
        rw [show (0 : Int32).toInt = 0 from rfl, show (999 : Int32).toInt = 999 from rfl] at p16
        omega
    · have c := (i_eq s.2.2.1 e4).mp c
      omega
  intro m
  induction m with
  | zero => intro v5 d I s hN e5 hm; have := hN.1; omega
  | succ m ih =>
    intro v5 d I s hN e5 hm
    have hd3 := hN.1
    have hv := N3_val hN
    have e43 : (v4 + (3 : Int32)).toInt = a + 3 := i_add e4 (show (3 : Int32).toInt = 3 from rfl) (by omega) (by omega)
    unfold f_X12_number_L18
    refine ⟨fun c => ?_, fun c => ?_⟩
    · have c := (i_le e43 s.2.2.1).mp c
      exact fin v5 d I s e5 (N3_end hN (Or.inl (by omega)))
    have c := (not_congr (i_le e43 s.2.2.1)).mp c
    refine n_here t s (by omega) (fun r hr => ?_)
    refine s_X12_in s.1 r 48 57 (fun r44 p44 => ?_)
    rw [show (48 : Int32).toInt = 48 from rfl, show (57 : Int32).toInt = 57 from rfl] at p44
    refine ⟨fun g => ?_, fun g => ?_⟩
    · have g := (i_eq (x := r44) (y := 0) rfl (show (0 : Int32).toInt = 0 from rfl)).mp g
      exact fin v5 d I s e5 (N3_end hN (Or.inr (by omega)))
    · have g := (not_congr (i_eq (x := r44) (y := 0) rfl (show (0 : Int32).toInt = 0 from rfl))).mp g
      refine n_here t s (by omega) (fun r2 hr2 => ?_)
      intro x53 e53 I54 e54
      rw [e54]
      have d53 : x53.toInt = nvd (GS (I0 uR) (min sz 40)) a (d + 1) := by
        show x53.toInt = nvd (GS (I0 uR) (min sz 40)) a d * 10 + GS (I0 uR) (min sz 40) (a + d) - 48
        rw [e53]
        exact (i_sub (i_add (i_mul (show (10 : Int32).toInt = 10 from rfl) e5 (by omega) (by omega)) hr2 (by omega) (by omega)) (show (48 : Int32).toInt = 48 from rfl) (by omega) (by omega)).trans (by omega)
      have s1 := ML_at t s (by omega)
      rw [show a + (d : Int) + 1 = a + ((d + 1 : Nat) : Int) by omega] at s1
      exact ih x53 (d + 1) _ s1 (N3_step hN (by omega) (by omega)) d53 (by omega)
theorem n_number {Z : jZ} {I0 I : jI} {L : jL} {v0 uR : Nat} {sz a : Int} {Q : Int32 → jI → jL → Prop} (t : TMl Z I0 v0 uR sz) (s : ML Z I0 v0 sz I a (-1)) (h0 : 0 ≤ a ∧ a ≤ 40) (hd : 48 ≤ GS (I0 uR) (min sz 40) a ∧ GS (I0 uR) (min sz 40) a ≤ 57) (h : ∀ (v : Int32) I', v.toInt = nvd (GS (I0 uR) (min sz 40)) a (n3 (GS (I0 uR) (min sz 40)) a) → ML Z I0 v0 sz I' (a + n3 (GS (I0 uR) (min sz 40)) a) (-1) → Q v I' L) : f_X12_number v0 3 0 999 Z I L Q := by
  unfold f_X12_number
  refine n_fine s (fun _ => ⟨fun _ => ?_, fun c => absurd c (by decide)⟩) (fun c => absurd rfl c)
  intro x63 e63
  have s0 : ML Z I0 v0 sz I (a + ((0 : Nat) : Int)) (-1) := by rw [show a + ((0 : Nat) : Int) = a by omega]; exact s
  exact ⟨4, n_num t (by rw [e63]; exact s.2.2.1) h0 hd h 4 0 0 I s0 N3_0 rfl (by omega)⟩
/-- what the letters say -/
def LTR (Z : jZ) (I0 : jI) (v0 : Nat) (sz : Int) (lt : Nat → Int32) : Prop := ∀ (F : FTR12) (c : Int32) (I : jI) (L : jL) (a : Int) (Q : Int32 → jI → jL → Prop), ML Z I0 v0 sz I a (-1) → 0 ≤ lix c.toInt → (∀ I' L', ML Z I0 v0 sz I' a (-1) → Q (lt (lix c.toInt).toNat) I' L') → ((¬ (I v0 31) = (-1 : Int32) → f_X12_letter v0 c Z I L Q) ∧ ((I v0 31) = (-1 : Int32) → Q (0 : Int32) I L))
/-- what each part of it does, by what the text says -/
def MC1 (Z : jZ) (I0 : jI) (v0 uR : Nat) (sz : Int) (lt : Nat → Int32) (d w cw : Nat) (sg : Int32 → Int32) : Prop := ∀ (D k : Nat) (a : Int) (r : Int × Int × List Int) (v1 : Int32) (I : jI) (L : jL) (Q : Int32 → jI → jL → Prop), PL (GS (I0 uR) (min sz 40)) d w k a = some r → ML Z I0 v0 sz I a (-1) → 0 ≤ a → a ≤ min sz 40 → v1.toInt = (k : Int) → k ≤ 4 → 4 * (4 - (k : Int)) + (4 - (cw : Int)) + (min sz 40 - a) ≤ (D : Int) → (∀ (v : Int32) I' L', ML Z I0 v0 sz I' r.1 r.2.1 → (r.2.1 = -1 → ∀ st, ev lt r.2.2 st = sg v :: st) → Q v I' L') → fR12 D cw v0 v1 Z I L Q
def MC6 (Z : jZ) (I0 : jI) (v0 uR : Nat) (sz : Int) (lt : Nat → Int32) (d : Nat) : Prop := ∀ (D k : Nat) (a : Int) (r : Int × Int × List Int) (v1 : Int32) (I : jI) (L : jL) (Q : Int32 → jI → jL → Prop), ¬ GS (I0 uR) (min sz 40) a = 45 → PL (GS (I0 uR) (min sz 40)) d 6 k a = some r → ML Z I0 v0 sz I a (-1) → 0 ≤ a → a ≤ min sz 40 → v1.toInt = (k : Int) → k ≤ 4 → 4 * (4 - (k : Int)) + (min sz 40 - a) ≤ (D : Int) → (∀ (v : Int32) I' L', ML Z I0 v0 sz I' r.1 r.2.1 → (r.2.1 = -1 → ∀ st, ev lt r.2.2 st = v :: st) → Q v I' L') → f_X12_thing (fR12 D) v0 v1 Z I L Q
def MC4 (Z : jZ) (I0 : jI) (v0 uR : Nat) (sz : Int) (lt : Nat → Int32) (d : Nat) : Prop := ∀ (D k m : Nat) (a : Int) (r : Int × Int × List Int) (v1 v2 : Int32) (I : jI) (L : jL) (Q : Int32 → jI → jL → Prop), PL (GS (I0 uR) (min sz 40)) d 4 k a = some r → ML Z I0 v0 sz I a (-1) → 0 ≤ a → a ≤ min sz 40 → v1.toInt = (k : Int) → k ≤ 4 → 4 * (4 - (k : Int)) + 1 + (min sz 40 - a) ≤ (D : Int) → min sz 40 - a < (m : Int) → (∀ (v : Int32) I' L', ML Z I0 v0 sz I' r.1 r.2.1 → (r.2.1 = -1 → ∀ st, ev lt r.2.2 (v2 :: st) = v :: st) → Q v I' L') → f_X12_sum_L6 (fR12 D) Z Q m v0 v1 v2 I L
def MC5 (Z : jZ) (I0 : jI) (v0 uR : Nat) (sz : Int) (lt : Nat → Int32) (d : Nat) : Prop := ∀ (D k m : Nat) (a : Int) (r : Int × Int × List Int) (v1 v2 : Int32) (I : jI) (L : jL) (Q : Int32 → jI → jL → Prop), PL (GS (I0 uR) (min sz 40)) d 5 k a = some r → ML Z I0 v0 sz I a (-1) → 0 ≤ a → a ≤ min sz 40 → v1.toInt = (k : Int) → k ≤ 4 → 4 * (4 - (k : Int)) + (min sz 40 - a) ≤ (D : Int) → min sz 40 - a < (m : Int) → (∀ (v : Int32) I' L', ML Z I0 v0 sz I' r.1 r.2.1 → (r.2.1 = -1 → ∀ st, ev lt r.2.2 (v2 :: st) = v :: st) → Q v I' L') → f_X12_product_L6 (fR12 D) Z Q m v0 v1 v2 I L
def MCa (Z : jZ) (I0 : jI) (v0 uR : Nat) (sz : Int) (lt : Nat → Int32) (d : Nat) : Prop := MC1 Z I0 v0 uR sz lt d 0 0 (fun v => v) ∧ MC1 Z I0 v0 uR sz lt d 1 1 (fun v => v) ∧ MC1 Z I0 v0 uR sz lt d 2 2 (fun v => v) ∧ MC1 Z I0 v0 uR sz lt d 3 3 (fun v => v) ∧ MC1 Z I0 v0 uR sz lt d 7 3 (fun v => -v) ∧ MC6 Z I0 v0 uR sz lt d ∧ MC4 Z I0 v0 uR sz lt d ∧ MC5 Z I0 v0 uR sz lt d
/-- the loops stop at a fault -/
theorem n_sumF {Z : jZ} {I0 I : jI} {L : jL} {D : FTR12} {v0 m : Nat} {sz a F : Int} {v1 v2 : Int32} {Q : Int32 → jI → jL → Prop} (s : ML Z I0 v0 sz I a F) (hF : F ≠ -1) (h : Q v2 I L) : f_X12_sum_L6 D Z Q (m + 1) v0 v1 v2 I L := by
  unfold f_X12_sum_L6
  exact n_fine s (fun g => absurd g hF) (fun _ => ⟨fun _ => h, fun e => absurd rfl e⟩)
theorem n_prodF {Z : jZ} {I0 I : jI} {L : jL} {D : FTR12} {v0 m : Nat} {sz a F : Int} {v1 v2 : Int32} {Q : Int32 → jI → jL → Prop} (s : ML Z I0 v0 sz I a F) (hF : F ≠ -1) (h : Q v2 I L) : f_X12_product_L6 D Z Q (m + 1) v0 v1 v2 I L := by
  unfold f_X12_product_L6
  exact n_fine s (fun g => absurd g hF) (fun _ => ⟨fun _ => h, fun e => absurd rfl e⟩)
set_option maxHeartbeats 4000000 in
theorem MC_held {Z : jZ} {I0 : jI} {v0 uR : Nat} {sz : Int} {lt : Nat → Int32} {d : Nat} (t : TMl Z I0 v0 uR sz) (ih : MCa Z I0 v0 uR sz lt d) : MC1 Z I0 v0 uR sz lt (d + 1) 0 0 (fun v => v) := by
  intro D k a r v1 I L Q hp s h0 h1 ek hk hD hQ
  obtain ⟨p, e, hp⟩ := PL_i0 hp
  obtain ⟨p1, p2, p3, p4⟩ := PL_ok GSx d 1 k a p (by omega) h0 h1 e
  cases D with
  | zero => omega
  | succ D =>
    show f_X12_held (fR12 D) v0 v1 Z I L Q
    unfold f_X12_held
    refine ih.2.1 D k a p v1 I L _ e s h0 h1 ek hk (by omega) (fun x I1 L1 s1 hx => ?_)
    by_cases b : p.2.1 = -1
    · rw [b] at s1
      have hx := hx b
      have go : ∀ (I2 : jI), ML Z I0 v0 sz I2 (p.1 + 1) (-1) → (GS (I0 uR) (min sz 40) p.1 = 60 ∨ GS (I0 uR) (min sz 40) p.1 = 62 ∨ GS (I0 uR) (min sz 40) p.1 = 61) → ∀ (Q' : Int32 → jI → jL → Prop), (∀ (y : Int32) I' L', (∀ (v : Int32), v = joi (GS (I0 uR) (min sz 40) p.1) x y → Q v I' L') → Q' y I' L') → fR12 D 1 v0 v1 Z I2 L1 Q' := by
        intro I2 s2 hg Q' hQ'
        rcases hp with ⟨-, -, t', e', hr⟩ | ⟨b2, -⟩
        · have l1 := GSlt (f := I0 uR) (lim := min sz 40) (x := p.1) (by omega)
          refine ih.2.1 D k (p.1 + 1) t' v1 I2 L1 Q' e' s2 (by omega) l1 ek hk (by omega) (fun y I3 L3 s3 hy => hQ' y I3 L3 (fun v ev0 => hQ v I3 L3 ?_ (fun q st => ?_)))
          · rw [hr]; exact s3
          · rw [hr] at q ⊢
            show ev lt (p.2.2 ++ t'.2.2 ++ [2000 + GS (I0 uR) (min sz 40) p.1]) st = v :: st
            rw [ev_app, ev_app, hx, hy q, ev_op (by omega), ev0]
        · exact absurd ⟨b, hg⟩ b2
      refine n_pass (k := 60) t s1 (by omega) rfl (fun g I2 s2 => ⟨fun q => absurd q (by decide), fun _ => ?_⟩) (fun g => ⟨fun _ => ?_, fun q => absurd rfl q⟩)
      · refine go I2 s2 (Or.inl g) _ (fun y I3 L3 hv => ?_)
        rw [g] at hv
        refine ⟨fun q => hv _ ?_, fun q => hv _ ?_⟩
        · have q := (i_le (x := y) (y := x) rfl rfl).mp q
          rw [joi_lt, if_neg (fun z => by have := (i_lt (x := x) (y := y) rfl rfl).mp z; omega)]
        · have q := (not_congr (i_le (x := y) (y := x) rfl rfl)).mp q
          rw [joi_lt, if_pos ((i_lt (x := x) (y := y) rfl rfl).mpr (by omega))]
      refine n_pass (k := 62) t s1 (by omega) rfl (fun g2 I2 s2 => ⟨fun q => absurd q (by decide), fun _ => ?_⟩) (fun g2 => ⟨fun _ => ?_, fun q => absurd rfl q⟩)
      · refine go I2 s2 (Or.inr (Or.inl g2)) _ (fun y I3 L3 hv => ?_)
        rw [g2] at hv
        refine ⟨fun q => hv _ ?_, fun q => hv _ ?_⟩
        · have q := (i_le (x := x) (y := y) rfl rfl).mp q
          rw [joi_gt, if_neg (fun z => by have := (i_lt (x := y) (y := x) rfl rfl).mp z; omega)]
        · have q := (not_congr (i_le (x := x) (y := y) rfl rfl)).mp q
          rw [joi_gt, if_pos ((i_lt (x := y) (y := x) rfl rfl).mpr (by omega))]
      refine n_pass (k := 61) t s1 (by omega) rfl (fun g3 I2 s2 => ⟨fun q => absurd q (by decide), fun _ => ?_⟩) (fun g3 => ⟨fun _ => ?_, fun q => absurd rfl q⟩)
      · refine go I2 s2 (Or.inr (Or.inr g3)) _ (fun y I3 L3 hv => ?_)
        rw [g3] at hv
        refine ⟨fun q => hv _ ?_, fun q => hv _ ?_⟩
        · rw [joi_eq, if_neg q]
        · rw [joi_eq, if_pos q]
      · rcases hp with ⟨-, b2, -⟩ | ⟨-, hr⟩
        · omega
        · rw [hr] at hQ
          exact hQ x I1 L1 (by rw [b]; exact s1) (fun _ => hx)
    · rcases hp with ⟨b2, -⟩ | ⟨-, hr⟩
      · exact absurd b2 b
      · rw [hr] at hQ
        exact n_passD s1 b ⟨fun _ => n_passD s1 b ⟨fun _ => n_passD s1 b ⟨fun _ => hQ x I1 L1 s1 (fun q => absurd q b), fun q => absurd rfl q⟩, fun q => absurd rfl q⟩, fun q => absurd rfl q⟩
set_option maxHeartbeats 4000000 in
theorem MC_sum {Z : jZ} {I0 : jI} {v0 uR : Nat} {sz : Int} {lt : Nat → Int32} {d : Nat} (t : TMl Z I0 v0 uR sz) (ih : MCa Z I0 v0 uR sz lt d) : MC1 Z I0 v0 uR sz lt (d + 1) 1 1 (fun v => v) := by
  intro D k a r v1 I L Q hp s h0 h1 ek hk hD hQ
  obtain ⟨p, e, hp⟩ := PL_i1 hp
  obtain ⟨p1, p2, p3, p4⟩ := PL_ok GSx d 2 k a p (by omega) h0 h1 e
  cases D with
  | zero => omega
  | succ D =>
    show f_X12_sum (fR12 D) v0 v1 Z I L Q
    unfold f_X12_sum
    refine ih.2.2.1 D k a p v1 I L _ e s h0 h1 ek hk (by omega) (fun x I1 L1 s1 hx => ⟨41 + 1, ?_⟩)
    rcases hp with ⟨b, t', e', hr⟩ | ⟨b, hr⟩
    · rw [b] at s1
      have hx := hx b
      refine ih.2.2.2.2.2.2.1 D k (41 + 1) p.1 t' v1 x I1 L1 Q e' s1 (by omega) p2 ek hk (by omega) (by omega) (fun v I' L' s' hv => hQ v I' L' ?_ (fun q st => ?_))
      · rw [hr]; exact s'
      · rw [hr] at q ⊢
        show ev lt (p.2.2 ++ t'.2.2) st = v :: st
        rw [ev_app, hx, hv q]
    · rw [hr] at hQ
      exact n_sumF s1 b (hQ x I1 L1 s1 (fun q => absurd q b))
set_option maxHeartbeats 4000000 in
theorem MC_prod {Z : jZ} {I0 : jI} {v0 uR : Nat} {sz : Int} {lt : Nat → Int32} {d : Nat} (t : TMl Z I0 v0 uR sz) (ih : MCa Z I0 v0 uR sz lt d) : MC1 Z I0 v0 uR sz lt (d + 1) 2 2 (fun v => v) := by
  intro D k a r v1 I L Q hp s h0 h1 ek hk hD hQ
  obtain ⟨p, e, hp⟩ := PL_i2 hp
  obtain ⟨p1, p2, p3, p4⟩ := PL_ok GSx d 3 k a p (by omega) h0 h1 e
  cases D with
  | zero => omega
  | succ D =>
    show f_X12_product (fR12 D) v0 v1 Z I L Q
    unfold f_X12_product
    refine ih.2.2.2.1 D k a p v1 I L _ e s h0 h1 ek hk (by omega) (fun x I1 L1 s1 hx => ⟨41 + 1, ?_⟩)
    rcases hp with ⟨b, t', e', hr⟩ | ⟨b, hr⟩
    · rw [b] at s1
      have hx := hx b
      refine ih.2.2.2.2.2.2.2 D k (41 + 1) p.1 t' v1 x I1 L1 Q e' s1 (by omega) p2 ek hk (by omega) (by omega) (fun v I' L' s' hv => hQ v I' L' ?_ (fun q st => ?_))
      · rw [hr]; exact s'
      · rw [hr] at q ⊢
        show ev lt (p.2.2 ++ t'.2.2) st = v :: st
        rw [ev_app, hx, hv q]
    · rw [hr] at hQ
      exact n_prodF s1 b (hQ x I1 L1 s1 (fun q => absurd q b))
set_option maxHeartbeats 4000000 in
theorem MC_l4 {Z : jZ} {I0 : jI} {v0 uR : Nat} {sz : Int} {lt : Nat → Int32} {d : Nat} (t : TMl Z I0 v0 uR sz) (ih : MCa Z I0 v0 uR sz lt d) : MC4 Z I0 v0 uR sz lt (d + 1) := by
  intro D k m a r v1 v2 I L Q hp s h0 h1 ek hk hD hm hQ
  cases m with
  | zero => omega
  | succ m =>
    unfold f_X12_sum_L6
    refine n_fine s (fun _ => ⟨fun q => absurd q (by decide), fun _ => ?_⟩) (fun q => absurd rfl q)
    have go : ∀ (o : Int) (b1 : Int32) (I2 : jI), GS (I0 uR) (min sz 40) a = o → (o = 43 ∧ b1 = 1 ∨ o = 45 ∧ b1 = 0) → ML Z I0 v0 sz I2 a (-1) → f_X12_sum_b45 (fR12 D) (f_X12_sum_L6 (fR12 D) Z Q m) Z Q v0 v1 v2 b1 I2 L := by
      intro o b1 I2 ho hb s2
      rcases PL_i4 hp with ⟨-, p, e, hp⟩ | ⟨b, -⟩
      · have l1 := GSlt (f := I0 uR) (lim := min sz 40) (x := a) (by omega)
        obtain ⟨p1, p2, p3, p4⟩ := PL_ok GSx d 2 k (a + 1) p (by omega) (by omega) l1 e
        unfold f_X12_sum_b45
        intro I3 e3
        rw [e3]
        refine ih.2.2.1 D k (a + 1) p v1 _ L _ e (ML_at t s2 (by omega)) (by omega) l1 ek hk (by omega) (fun x I4 L4 s4 hx => ?_)
        have fin : ∀ v : Int32, v = joi o v2 x → f_X12_sum_b78 (fR12 D) (f_X12_sum_L6 (fR12 D) Z Q m) Z Q v0 v1 v I4 L4 := by
          intro v hv
          unfold f_X12_sum_b78
          rcases hp with ⟨b, t', e', hr⟩ | ⟨b, hr⟩
          · rw [b] at s4
            have hx := hx b
            refine ih.2.2.2.2.2.2.1 D k m p.1 t' v1 v I4 L4 Q e' s4 (by omega) p2 ek hk (by have := (p4 b).1 (by omega) (by omega); omega) (by have := (p4 b).1 (by omega) (by omega); omega) (fun y I' L' s' hy => hQ y I' L' ?_ (fun q st => ?_))
            · rw [hr]; exact s'
            · rw [hr] at q ⊢
              show ev lt (p.2.2 ++ [2000 + GS (I0 uR) (min sz 40) a] ++ t'.2.2) (v2 :: st) = y :: st
              rw [ev_app, ev_app, hx, ho, ev_op (by omega), ← hv, hy q]
          · cases m with
            | zero => omega
            | succ m =>
              rw [hr] at hQ
              exact n_sumF s4 b (hQ v I4 L4 s4 (fun q => absurd q b))
        rcases hb with ⟨rfl, rfl⟩ | ⟨rfl, rfl⟩
        · exact ⟨fun q => absurd q (by decide), fun _ => fin _ joi_add.symm⟩
        · exact ⟨fun _ => fin _ joi_sub.symm, fun q => absurd rfl q⟩
      · omega
    refine n_here t s h0 (fun x hx => ⟨fun q => ?_, fun q => ?_⟩)
    · have q := (i_eq hx (show (43 : Int32).toInt = 43 from rfl)).mp q
      unfold f_X12_sum_b31
      refine n_here t s h0 (fun y hy => ⟨fun q2 => ?_, fun _ => go 43 1 I q (Or.inl ⟨rfl, rfl⟩) s⟩)
      exact absurd ((i_eq hy (show (43 : Int32).toInt = 43 from rfl)).mpr q) q2
    · have q := (not_congr (i_eq hx (show (43 : Int32).toInt = 43 from rfl))).mp q
      refine n_here t s h0 (fun y hy => ⟨fun q2 => ?_, fun q2 => ?_⟩)
      · have q2 := (not_congr (i_eq hy (show (45 : Int32).toInt = 45 from rfl))).mp q2
        rcases PL_i4 hp with ⟨b, -⟩ | ⟨-, hr⟩
        · omega
        · rw [hr] at hQ
          exact hQ v2 I L s (fun _ st => rfl)
      · have q2 := (i_eq hy (show (45 : Int32).toInt = 45 from rfl)).mp q2
        unfold f_X12_sum_b31
        refine n_here t s h0 (fun z hz => ⟨fun _ => go 45 0 I q2 (Or.inr ⟨rfl, rfl⟩) s, fun q3 => ?_⟩)
        exact absurd ((i_eq hz (show (43 : Int32).toInt = 43 from rfl)).mp q3) q
set_option maxHeartbeats 4000000 in
theorem MC_l5 {Z : jZ} {I0 : jI} {v0 uR : Nat} {sz : Int} {lt : Nat → Int32} {d : Nat} (t : TMl Z I0 v0 uR sz) (ih : MCa Z I0 v0 uR sz lt d) : MC5 Z I0 v0 uR sz lt (d + 1) := by
  intro D k m a r v1 v2 I L Q hp s h0 h1 ek hk hD hm hQ
  cases m with
  | zero => omega
  | succ m =>
    unfold f_X12_product_L6
    refine n_fine s (fun _ => ⟨fun q => absurd q (by decide), fun _ => ?_⟩) (fun q => absurd rfl q)
    have go : ∀ (o : Int) (b1 : Int32) (I2 : jI), GS (I0 uR) (min sz 40) a = o → (o = 42 ∧ b1 = 1 ∨ o = 47 ∧ b1 = 0) → ML Z I0 v0 sz I2 a (-1) → f_X12_product_b45 (fR12 D) (f_X12_product_L6 (fR12 D) Z Q m) Z Q v0 v1 v2 b1 I2 L := by
      intro o b1 I2 ho hb s2
      rcases PL_i5 hp with ⟨-, p, e, hp⟩ | ⟨b, -⟩
      · have l1 := GSlt (f := I0 uR) (lim := min sz 40) (x := a) (by omega)
        obtain ⟨p1, p2, p3, p4⟩ := PL_ok GSx d 3 k (a + 1) p (by omega) (by omega) l1 e
        unfold f_X12_product_b45
        intro I3 e3
        rw [e3]
        refine ih.2.2.2.1 D k (a + 1) p v1 _ L _ e (ML_at t s2 (by omega)) (by omega) l1 ek hk (by omega) (fun x I4 L4 s4 hx => ?_)
        have fin : ∀ v : Int32, v = joi o v2 x → f_X12_product_b87 (fR12 D) (f_X12_product_L6 (fR12 D) Z Q m) Z Q v0 v1 v I4 L4 := by
          intro v hv
          unfold f_X12_product_b87
          rcases hp with ⟨b, t', e', hr⟩ | ⟨b, hr⟩
          · rw [b] at s4
            have hx := hx b
            refine ih.2.2.2.2.2.2.2 D k m p.1 t' v1 v I4 L4 Q e' s4 (by omega) p2 ek hk (by have := (p4 b).1 (by omega) (by omega); omega) (by have := (p4 b).1 (by omega) (by omega); omega) (fun y I' L' s' hy => hQ y I' L' ?_ (fun q st => ?_))
            · rw [hr]; exact s'
            · rw [hr] at q ⊢
              show ev lt (p.2.2 ++ [2000 + GS (I0 uR) (min sz 40) a] ++ t'.2.2) (v2 :: st) = y :: st
              rw [ev_app, ev_app, hx, ho, ev_op (by omega), ← hv, hy q]
          · cases m with
            | zero => omega
            | succ m =>
              rw [hr] at hQ
              exact n_prodF s4 b (hQ v I4 L4 s4 (fun q => absurd q b))
        rcases hb with ⟨rfl, rfl⟩ | ⟨rfl, rfl⟩
        · exact ⟨fun q => absurd q (by decide), fun _ => fin _ joi_mul.symm⟩
        · refine ⟨fun _ => ⟨fun q => ⟨q, fin _ ?_⟩, fun q => fin _ ?_⟩, fun q => absurd rfl q⟩
          · rw [joi_div, if_neg q]
          · rw [joi_div, if_pos q]
      · omega
    refine n_here t s h0 (fun x hx => ⟨fun q => ?_, fun q => ?_⟩)
    · have q := (i_eq hx (show (42 : Int32).toInt = 42 from rfl)).mp q
      unfold f_X12_product_b31
      refine n_here t s h0 (fun y hy => ⟨fun q2 => ?_, fun _ => go 42 1 I q (Or.inl ⟨rfl, rfl⟩) s⟩)
      exact absurd ((i_eq hy (show (42 : Int32).toInt = 42 from rfl)).mpr q) q2
    · have q := (not_congr (i_eq hx (show (42 : Int32).toInt = 42 from rfl))).mp q
      refine n_here t s h0 (fun y hy => ⟨fun q2 => ?_, fun q2 => ?_⟩)
      · have q2 := (not_congr (i_eq hy (show (47 : Int32).toInt = 47 from rfl))).mp q2
        rcases PL_i5 hp with ⟨b, -⟩ | ⟨-, hr⟩
        · omega
        · rw [hr] at hQ
          exact hQ v2 I L s (fun _ st => rfl)
      · have q2 := (i_eq hy (show (47 : Int32).toInt = 47 from rfl)).mp q2
        unfold f_X12_product_b31
        refine n_here t s h0 (fun z hz => ⟨fun _ => go 47 0 I q2 (Or.inr ⟨rfl, rfl⟩) s, fun q3 => ?_⟩)
        exact absurd ((i_eq hz (show (42 : Int32).toInt = 42 from rfl)).mp q3) q
theorem ng_ng {v : Int32} : -(-v) = v := Int32.neg_neg
set_option maxHeartbeats 4000000 in
theorem MC_t3 {Z : jZ} {I0 : jI} {v0 uR : Nat} {sz : Int} {lt : Nat → Int32} {d : Nat} (t : TMl Z I0 v0 uR sz) (ih : MCa Z I0 v0 uR sz lt d) : MC1 Z I0 v0 uR sz lt (d + 1) 3 3 (fun v => v) := by
  intro D k a r v1 I L Q hp s h0 h1 ek hk hD hQ
  cases D with
  | zero => omega
  | succ D =>
    show f_X12_thing (fR12 D) v0 v1 Z I L Q
    rcases PL_i3 hp with ⟨b, e⟩ | ⟨b, e⟩
    · have l1 := GSlt (f := I0 uR) (lim := min sz 40) (x := a) (by omega)
      unfold f_X12_thing
      refine n_pass (k := 45) t s (by omega) rfl (fun _ I2 s2 => ⟨fun q => absurd q (by decide), fun _ => ?_⟩) (fun g => absurd b g)
      exact ih.2.2.2.2.1 D k (a + 1) r v1 I2 L _ e s2 (by omega) l1 ek hk (by omega) (fun v I' L' s' hv => hQ (-v) I' L' s' (fun q st => hv q st))
    · exact ih.2.2.2.2.2.1 D k a r v1 I L Q b e s h0 h1 ek hk (by omega) (fun v I' L' s' hv => hQ v I' L' s' hv)
set_option maxHeartbeats 4000000 in
theorem MC_t7 {Z : jZ} {I0 : jI} {v0 uR : Nat} {sz : Int} {lt : Nat → Int32} {d : Nat} (t : TMl Z I0 v0 uR sz) (ih : MCa Z I0 v0 uR sz lt d) : MC1 Z I0 v0 uR sz lt (d + 1) 7 3 (fun v => -v) := by
  intro D k a r v1 I L Q hp s h0 h1 ek hk hD hQ
  cases D with
  | zero => omega
  | succ D =>
    show f_X12_thing (fR12 D) v0 v1 Z I L Q
    rcases PL_i7 hp with ⟨b, e⟩ | ⟨b, p, e, hr⟩
    · have l1 := GSlt (f := I0 uR) (lim := min sz 40) (x := a) (by omega)
      unfold f_X12_thing
      refine n_pass (k := 45) t s (by omega) rfl (fun _ I2 s2 => ⟨fun q => absurd q (by decide), fun _ => ?_⟩) (fun g => absurd b g)
      exact ih.2.2.2.1 D k (a + 1) r v1 I2 L _ e s2 (by omega) l1 ek hk (by omega) (fun v I' L' s' hv => hQ (-v) I' L' s' (fun q st => by
        show ev lt r.2.2 st = (-(-v)) :: st
        rw [ng_ng]
        exact hv q st))
    · rw [hr] at hQ
      exact ih.2.2.2.2.2.1 D k a p v1 I L Q b e s h0 h1 ek hk (by omega) (fun v I' L' s' hv => hQ v I' L' s' (fun q st => by
        show ev lt (p.2.2 ++ [2000]) st = (-v) :: st
        rw [ev_app, hv q, ev_neg]))
set_option maxHeartbeats 4000000 in
theorem MC_t6 {Z : jZ} {I0 : jI} {v0 uR : Nat} {sz : Int} {lt : Nat → Int32} {d : Nat} (t : TMl Z I0 v0 uR sz) (hl : LTR Z I0 v0 sz lt) (ih : MCa Z I0 v0 uR sz lt d) : MC6 Z I0 v0 uR sz lt (d + 1) := by
  intro D k a r v1 I L Q ng hp s h0 h1 ek hk hD hQ
  have hp := PL_i6 hp
  unfold f_X12_thing
  refine n_pass (k := 45) t s (by omega) rfl (fun g => absurd g ng) (fun _ => ⟨fun _ => ?_, fun q => absurd rfl q⟩)
  refine n_fine s (fun _ => ⟨fun _ => ?_, fun q => absurd q (by decide)⟩) (fun q => absurd rfl q)
  refine n_here t s h0 (fun x hx => ?_)
  have oth : ¬ (GS (I0 uR) (min sz 40) a = 40 ∧ k < 4) → f_X12_thing_b67 (fR12 D) Z Q v0 x I L := by
    intro n4
    unfold f_X12_thing_b67
    refine s_X12_in s.1 x 48 57 (fun r16 p16 => ?_)
    rw [show (48 : Int32).toInt = 48 from rfl, show (57 : Int32).toInt = 57 from rfl] at p16
    refine ⟨fun g => ?_, fun g => ?_⟩
    · have g := (i_eq (x := r16) (y := 0) rfl (show (0 : Int32).toInt = 0 from rfl)).mp g
      have letr : 0 ≤ lix x.toInt → f_X12_thing_b140 (fR12 D) Z Q v0 x I L := by
        intro hlx
        have lr := lix_0 hlx
        rcases hp with ⟨b, -⟩ | ⟨-, -, hr⟩ | ⟨-, b, -⟩ | ⟨-, b, -⟩
        · omega
        · unfold f_X12_thing_b140
          intro I1 e1
          rw [e1]
          have s1 := ML_at t s (by omega)
          have e16 := u16_id (x := x) rfl (by omega) (by omega)
          rw [e16]
          have lg := lix_rng x.toInt
          refine hl (fR12 D) x _ L (a + 1) Q s1 hlx (fun I' L' s' => ?_)
          rw [hr] at hQ
          refine hQ _ I' L' s' (fun _ st => ?_)
          show ev lt [1000 + lix (GS (I0 uR) (min sz 40) a)] st = _
          rw [← hx, ev_let ⟨hlx, lg.2⟩]
        · rw [← hx] at b; exact absurd hlx b
        · rw [← hx] at b; exact absurd hlx b
      have nx : ∀ (c : Int32) (v : Int), c.toInt = v → ¬ x = c → ¬ x.toInt = v := fun c v hc q q2 => q ((i_eq rfl hc).mpr q2)
      have lt0 : ∀ (c : Int32) (v : Int), c.toInt = v → 0 ≤ lix v → x = c → f_X12_thing_b140 (fR12 D) Z Q v0 x I L := fun c v hc hv q => letr (by rw [(i_eq rfl hc).mp q]; exact hv)
      refine ⟨lt0 97 97 rfl (by decide), fun c1 => ⟨lt0 114 114 rfl (by decide), fun c2 => ⟨lt0 115 115 rfl (by decide), fun c3 => ⟨lt0 119 119 rfl (by decide), fun c4 => ⟨lt0 120 120 rfl (by decide), fun c5 => ⟨lt0 108 108 rfl (by decide), fun c6 => ⟨lt0 106 106 rfl (by decide), fun c7 => ?_⟩⟩⟩⟩⟩⟩⟩
      have hno : ¬ 0 ≤ lix x.toInt := by
        unfold lix
        rw [if_neg (nx 97 97 rfl c1), if_neg (nx 114 114 rfl c2), if_neg (nx 115 115 rfl c3), if_neg (nx 119 119 rfl c4), if_neg (nx 120 120 rfl c5), if_neg (nx 108 108 rfl c6), if_neg (nx 106 106 rfl c7)]
        decide
      rw [hx] at hno
      refine n_fault t s (fun I' s' => ?_)
      rw [s.2.2.1] at s'
      rcases hp with ⟨b, -⟩ | ⟨-, b, -⟩ | ⟨-, -, b, -⟩ | ⟨-, -, -, hr⟩
      · omega
      · exact absurd b hno
      · exact absurd b n4
      · rw [hr] at hQ
        exact hQ 0 I' L s' (fun q => by
          have q : a = -1 := q
          omega)
    · have g := (not_congr (i_eq (x := r16) (y := 0) rfl (show (0 : Int32).toInt = 0 from rfl))).mp g
      rcases hp with ⟨b, hr⟩ | ⟨b, -⟩ | ⟨b, -⟩ | ⟨b, -⟩
      · refine n_number t s (by omega) b (fun v I' hv s' => ?_)
        have nv := N3_val (n3_is (g := GS (I0 uR) (min sz 40)) (a := a))
        rw [hr] at hQ
        exact hQ v I' L s' (fun _ st => ev_num hv (by omega))
      · omega
      · omega
      · omega
  refine ⟨fun q => oth (fun g => ?_), fun q => ⟨fun q2 => oth (fun g => ?_), fun q2 => ?_⟩⟩
  · exact q ((i_eq hx (show (40 : Int32).toInt = 40 from rfl)).mpr g.1)
  · have q2 := (i_le (show (4 : Int32).toInt = 4 from rfl) ek).mp q2
    omega
  · have q := (i_eq hx (show (40 : Int32).toInt = 40 from rfl)).mp q
    have q2 := (not_congr (i_le (show (4 : Int32).toInt = 4 from rfl) ek)).mp q2
    have l1 := GSlt (f := I0 uR) (lim := min sz 40) (x := a) (by omega)
    intro I63 e63
    rw [e63]
    rcases hp with ⟨b, -⟩ | ⟨-, b, -⟩ | ⟨-, -, -, p, e, hp⟩ | ⟨-, -, b, -⟩
    · omega
    · have := lix_0 b
      omega
    · obtain ⟨p1, p2, p3, p4⟩ := PL_ok GSx d 0 (k + 1) (a + 1) p (by omega) (by omega) l1 e
      have ek1 : (v1 + (1 : Int32)).toInt = ((k + 1 : Nat) : Int) := (i_add ek (show (1 : Int32).toInt = 1 from rfl) (by omega) (by omega)).trans (by omega)
      refine ih.1 D (k + 1) (a + 1) p _ _ L _ e (ML_at t s (by omega)) (by omega) l1 ek1 (by omega) (by omega) (fun v I1 L1 s1 hv => ?_)
      by_cases b : p.2.1 = -1
      · rw [b] at s1
        refine n_need (k := 41) t s1 (by omega) rfl (fun g I2 s2 => ?_) (fun g I2 s2 => ?_)
        · rcases hp with ⟨-, -, hr⟩ | ⟨-, b2, -⟩ | ⟨b2, -⟩
          · rw [hr] at hQ; exact hQ v I2 L1 s2 (fun _ => hv b)
          · exact absurd g b2
          · exact absurd b b2
        · rcases hp with ⟨-, b2, -⟩ | ⟨-, -, hr⟩ | ⟨b2, -⟩
          · exact absurd b2 g
          · rw [hr] at hQ
            exact hQ v I2 L1 s2 (fun q9 => by
              have q9 : p.1 = -1 := q9
              omega)
          · exact absurd b b2
      · rcases hp with ⟨b2, -⟩ | ⟨b2, -⟩ | ⟨-, hr⟩
        · exact absurd b2 b
        · exact absurd b2 b
        · rw [hr] at hQ
          exact n_needD s1 b (hQ v I1 L1 s1 (fun q9 => absurd q9 b))
    · omega
theorem MC_all {Z : jZ} {I0 : jI} {v0 uR : Nat} {sz : Int} {lt : Nat → Int32} (t : TMl Z I0 v0 uR sz) (hl : LTR Z I0 v0 sz lt) : ∀ d, MCa Z I0 v0 uR sz lt d := by
  intro d
  induction d with
  | zero => exact ⟨fun _ _ _ _ _ _ _ _ h => (by cases h), fun _ _ _ _ _ _ _ _ h => (by cases h), fun _ _ _ _ _ _ _ _ h => (by cases h), fun _ _ _ _ _ _ _ _ h => (by cases h), fun _ _ _ _ _ _ _ _ h => (by cases h), fun _ _ _ _ _ _ _ _ _ h => (by cases h), fun _ _ _ _ _ _ _ _ _ _ h => (by cases h), fun _ _ _ _ _ _ _ _ _ _ h => (by cases h)⟩
  | succ d ih => exact ⟨MC_held t ih, MC_sum t ih, MC_prod t ih, MC_t3 t ih, MC_t7 t ih, MC_t6 t hl ih, MC_l4 t ih, MC_l5 t ih⟩
end
section
set_option maxHeartbeats 4000000 in
set_option maxRecDepth 100000 in
theorem l16_X3_read_L122 {Z : jZ} {I0 : jI} {Q : Int32 → jI → jL → Prop} (w0 : WD Z I0) (v0 : Nat) (v1 : Nat) (kv0 : jk Z v0 3) (kv1 : jk Z v1 10) (hQ : ∀ (I' : jI) (L' : jL), WD Z I' → FR Ws_X3_read Z I0 Z I' → Q (0 : Int32) I' L') : ∀ (n : Nat) (v2 : Int32) (I : jI) (L : jL), WD Z I → FR Ws_X3_read Z I0 Z I →   (0 ≤ v2.toInt ∧ v2.toInt ≤ 40) → 40 - v2.toInt < (n : Int) → fs_X3_read_L122  Z Q n v0 v2 I L := by
  intro n
  induction n with
  | zero =>
    intro v2 I L w_I q_I   li  me
    exfalso
    omega
  | succ n ih =>
    intro v2 I L w_I q_I   li  me
    unfold fs_X3_read_L122
    have rv2 := i_rng v2
    have t2 : 0 ≤ (I v0 3).toInt ∧ (I v0 3).toInt ≤ 40 := w_I.fld 3 3 kv0 (by decide)
    refine ⟨fun c3 => ?_, fun c3 => ?_⟩
    · skip
      first | (have t4 : (I v0 3).toInt ≤ v2.toInt := (i_le rfl rfl).mp c3) | (have t4 : (I v0 3).toInt ≤ v2.toInt := (i_le rfl rfl).mp c3) | skip
      have t5 : (0 : Int32).toInt = 0 := rfl
      exact hQ I L w_I q_I 
    · skip
      first | (have t6 : ¬ ((I v0 3).toInt ≤ v2.toInt) := (not_congr (i_le rfl rfl)).mp c3) | (have t6 : ¬ ((I v0 3).toInt ≤ v2.toInt) := (not_congr (i_le rfl rfl)).mp c3) | skip
      intro b7 eb7
      obtain ⟨x8, ex8, kb7, lb7⟩ := sh_f w_I.1 kv0 (j := 0) (k := 14) (m := 40) rfl
      cases eb7.symm.trans ex8
      have o9 : vp_in v2 40 := vi_of rfl (by omega) (by omega)
      refine ⟨o9, ?_⟩
      refine ⟨fun c10 => ?_, fun c10 => ?_⟩
      · skip
        first | (have t11 : (I b7 v2.toNatClampNeg).toInt < (1000) := (i_lt rfl (show (1000 : Int32).toInt = 1000 from rfl)).mp c10) | (have t11 : (I b7 v2.toNatClampNeg).toInt < (1000 : Int32).toInt := (i_lt rfl rfl).mp c10) | skip
        unfold fs_X3_read_b174
        unfold fs_X3_read_b175
        intro I12 eI12
        have w_I12 : WD Z I12 := by rw [eI12]; exact WD_putF w_I 3 4 kv0 (by decide) (by decide) trivial
        have f_I12 : FR [(3, 4)] Z I Z I12 := by rw [eI12]; exact FR_putF kv0 (by decide) List.mem_cons_self
        have q_I12 : FR Ws_X3_read Z I0 Z I12 := q_I.trans w0.1 w0.2.1 (f_I12.mono (by decide))
        have u13 : (I12 v0 3).toInt = (I v0 3).toInt := by rw [f_I12.2.2.1 v0 3 3 kv0 (by decide) (by decide)]
        first | (have u14 : (I12 v0 4).toInt = ((I v0 4) ||| (0 : Int32)).toInt := by (rw [eI12, show jpI I v0 4 ((I v0 4) ||| (0 : Int32)) v0 4 = ((I v0 4) ||| (0 : Int32)) from jpI_at] <;> exact rfl)) | skip
        intro x15 ex15
        have rx15 := i_rng x15
        first | (have tx15 : x15.toInt = v2.toInt + (1) := by (rw [ex15]; exact (i_add rfl (show (1 : Int32).toInt = 1 from rfl) (by omega) (by omega)))) | skip
        exact ih x15 I12 L w_I12 q_I12   (by omega)  (by omega)
      · skip
        first | (have t16 : ¬ ((I b7 v2.toNatClampNeg).toInt < (1000)) := (not_congr (i_lt rfl (show (1000 : Int32).toInt = 1000 from rfl))).mp c10) | (have t16 : ¬ ((I b7 v2.toNatClampNeg).toInt < (1000 : Int32).toInt) := (not_congr (i_lt rfl rfl)).mp c10) | skip
        intro b17 eb17
        obtain rfl : b7 = b17 := Option.some.inj (eb7.symm.trans eb17)
        have o18 : vp_in v2 40 := vi_of rfl (by omega) (by omega)
        refine ⟨o18, ?_⟩
        refine ⟨fun c19 => ?_, fun c19 => ?_⟩
        · skip
          first | (have t20 : (2000) ≤ (I b7 v2.toNatClampNeg).toInt := (i_le (show (2000 : Int32).toInt = 2000 from rfl) rfl).mp c19) | (have t20 : (2000 : Int32).toInt ≤ (I b7 v2.toNatClampNeg).toInt := (i_le rfl rfl).mp c19) | skip
          unfold fs_X3_read_b174
          unfold fs_X3_read_b175
          intro I21 eI21
          have w_I21 : WD Z I21 := by rw [eI21]; exact WD_putF w_I 3 4 kv0 (by decide) (by decide) trivial
          have f_I21 : FR [(3, 4)] Z I Z I21 := by rw [eI21]; exact FR_putF kv0 (by decide) List.mem_cons_self
          have q_I21 : FR Ws_X3_read Z I0 Z I21 := q_I.trans w0.1 w0.2.1 (f_I21.mono (by decide))
          have u22 : (I21 v0 3).toInt = (I v0 3).toInt := by rw [f_I21.2.2.1 v0 3 3 kv0 (by decide) (by decide)]
          first | (have u23 : (I21 v0 4).toInt = ((I v0 4) ||| (0 : Int32)).toInt := by (rw [eI21, show jpI I v0 4 ((I v0 4) ||| (0 : Int32)) v0 4 = ((I v0 4) ||| (0 : Int32)) from jpI_at] <;> exact rfl)) | skip
          intro x24 ex24
          have rx24 := i_rng x24
          first | (have tx24 : x24.toInt = v2.toInt + (1) := by (rw [ex24]; exact (i_add rfl (show (1 : Int32).toInt = 1 from rfl) (by omega) (by omega)))) | skip
          exact ih x24 I21 L w_I21 q_I21   (by omega)  (by omega)
        · skip
          first | (have t25 : ¬ ((2000) ≤ (I b7 v2.toNatClampNeg).toInt) := (not_congr (i_le (show (2000 : Int32).toInt = 2000 from rfl) rfl)).mp c19) | (have t25 : ¬ ((2000 : Int32).toInt ≤ (I b7 v2.toNatClampNeg).toInt) := (not_congr (i_le rfl rfl)).mp c19) | skip
          intro b26 eb26
          obtain rfl : b7 = b26 := Option.some.inj (eb7.symm.trans eb26)
          have o27 : vp_in v2 40 := vi_of rfl (by omega) (by omega)
          refine ⟨o27, ?_⟩
          unfold fs_X3_read_b175
          intro I28 eI28
          have w_I28 : WD Z I28 := by rw [eI28]; exact WD_putF w_I 3 4 kv0 (by decide) (by decide) trivial
          have f_I28 : FR [(3, 4)] Z I Z I28 := by rw [eI28]; exact FR_putF kv0 (by decide) List.mem_cons_self
          have q_I28 : FR Ws_X3_read Z I0 Z I28 := q_I.trans w0.1 w0.2.1 (f_I28.mono (by decide))
          have u29 : (I28 v0 3).toInt = (I v0 3).toInt := by rw [f_I28.2.2.1 v0 3 3 kv0 (by decide) (by decide)]
          first | (have u30 : (I28 v0 4).toInt = ((I v0 4) ||| ((1 : Int32) <<< (((I b7 v2.toNatClampNeg) - (1000 : Int32)) &&& 31))).toInt := by (rw [eI28, show jpI I v0 4 ((I v0 4) ||| ((1 : Int32) <<< (((I b7 v2.toNatClampNeg) - (1000 : Int32)) &&& 31))) v0 4 = ((I v0 4) ||| ((1 : Int32) <<< (((I b7 v2.toNatClampNeg) - (1000 : Int32)) &&& 31))) from jpI_at] <;> exact rfl)) | skip
          intro x31 ex31
          have rx31 := i_rng x31
          first | (have tx31 : x31.toInt = v2.toInt + (1) := by (rw [ex31]; exact (i_add rfl (show (1 : Int32).toInt = 1 from rfl) (by omega) (by omega)))) | skip
          exact ih x31 I28 L w_I28 q_I28   (by omega)  (by omega)
set_option maxHeartbeats 4000000 in
set_option maxRecDepth 100000 in
theorem l16_X12_law_L85 {B : Nat × Nat} {T : Nat} {Z0 : jZ} {I0 : jI} {Q : Int32 → jZ → jI → jL → Prop} (w0 : WD Z0 I0) (v0 : Nat) (v1 : Int32) (kv0 : jk Z0 v0 12) (v2 : Int32) (hQ : ∀ (Z' : jZ) (I' : jI) (L' : jL), WD Z' I' → BUD B Z' T → FR Ws_X12_law Z0 I0 Z' I' → CP Z0 Z' → (I' v0 19).toInt = 0 → Q (0 : Int32) Z' I' L') : ∀ (n : Nat) (v3 : Int32) (Z : jZ) (I : jI) (L : jL), WD Z I → BUD B Z T → FR Ws_X12_law Z0 I0 Z I → CP Z0 Z →   (0 ≤ v3.toInt ∧ v3.toInt ≤ 40 ∧ v2.toInt ≤ 40 ∧ 0 ≤ v2.toInt ∧ 0 ≤ v1.toInt ∧ v1.toInt ≤ 1 ∧ (I v0 19).toInt = 0) → 40 - v3.toInt < (n : Int) → f_X12_law_L85 B  Q n v0 v1 v2 v3 Z I L := by
  intro n
  induction n with
  | zero =>
    intro v3 Z I L w_I bd_Z q_I cp_Z   li  me
    exfalso
    omega
  | succ n ih =>
    intro v3 Z I L w_I bd_Z q_I cp_Z   li  me
    unfold f_X12_law_L85
    have rv3 := i_rng v3
    have rv2 := i_rng v2
    have rv1 := i_rng v1
    have kv0_0 := kv0
    have kv0 := (q_I.1 _ _ kv0).1
    have t1 : 0 ≤ (I v0 19).toInt ∧ (I v0 19).toInt ≤ 80 := w_I.fld 12 19 kv0 (by decide)
    have xq_I := q_I.1
    refine ⟨fun c2 => ?_, fun c2 => ?_⟩
    · skip
      first | (have t3 : v2.toInt ≤ v3.toInt := (i_le rfl rfl).mp c2) | (have t3 : v2.toInt ≤ v3.toInt := (i_le rfl rfl).mp c2) | skip
      intro b4 eb4
      obtain ⟨x5, ex5, kb4, lb4⟩ := sh_f w_I.1 kv0 (j := 30) (k := 14) (m := 2) rfl
      cases eb4.symm.trans ex5
      have o6 : vp_in v1 2 := vi_of rfl (by omega) (by omega)
      refine ⟨o6, ?_⟩
      intro I7 eI7
      have w_I7 : WD Z I7 := by rw [eI7]; exact WD_putA w_I 12 30 kv0 eb4 kb4 rfl rfl (by decide) (by constructor <;> omega)
      have f_I7 : FR [(12, 30)] Z I Z I7 := by rw [eI7]; exact FR_upA w_I.2.1 kv0 eb4 kb4 rfl rfl List.mem_cons_self
      have q_I7 : FR Ws_X12_law Z0 I0 Z I7 := q_I.trans w0.1 w0.2.1 (f_I7.mono (by decide))
      have u8 : (I7 v0 19).toInt = (I v0 19).toInt := by rw [f_I7.2.2.1 v0 12 19 kv0 (by decide) (by decide)]
      have t9 : (0 : Int32).toInt = 0 := rfl
      exact hQ Z I7 L w_I7 bd_Z q_I7 cp_Z (by omega)
    · skip
      first | (have t10 : ¬ (v2.toInt ≤ v3.toInt) := (not_congr (i_le rfl rfl)).mp c2) | (have t10 : ¬ (v2.toInt ≤ v3.toInt) := (not_congr (i_le rfl rfl)).mp c2) | skip
      intro b11 eb11
      obtain ⟨x12, ex12, kb11, lb11⟩ := sh_f w_I.1 kv0 (j := 29) (k := 19) (m := 2) rfl
      cases eb11.symm.trans ex12
      have o13 : vp_in v1 2 := vi_of rfl (by omega) (by omega)
      refine ⟨o13, ?_⟩
      intro b14 eb14
      obtain ⟨x16, ex16, kb14, lb14⟩ := w_I.1.2.2.2 b11 kb11 _ (vp_lt (by rw [lb11]; exact o13))
      cases eb14.symm.trans ex16
      intro b17 eb17
      obtain ⟨x18, ex18, kb17, lb17⟩ := sh_f w_I.1 kv0 (j := 18) (k := 13) (m := 80) rfl
      cases eb17.symm.trans ex18
      have o19 : vp_in v3 80 := vi_of rfl (by omega) (by omega)
      refine ⟨o19, ?_⟩
      have o20 : vp_in v3 40 := vi_of rfl (by omega) (by omega)
      refine ⟨o20, ?_⟩
      intro I21 eI21
      have w_I21 : WD Z I21 := by rw [eI21]; exact WD_putA w_I 19 v1.toNatClampNeg kb11 eb14 kb14 rfl (by simp [jsr]) (by decide) trivial
      have m_I21 : (19, v1.toNatClampNeg) ∈ Ws_X12_law := by (have h9 := i_nat (x := v1) rfl (by omega); rcases (show v1.toNatClampNeg = 0 ∨ v1.toNatClampNeg = 1 by omega) with h | h <;> rw [h] <;> decide)
      have f_I21 : FR Ws_X12_law Z I Z I21 := by rw [eI21]; exact FR_upA w_I.2.1 kb11 eb14 kb14 rfl (by simp [jsr]) m_I21
      have q_I21 : FR Ws_X12_law Z0 I0 Z I21 := q_I.trans w0.1 w0.2.1 f_I21
      have ut9 : (I21 v0 19).toInt = (I v0 19).toInt := by rw [eI21]; exact congrArg Int32.toInt ((FR_upA (W := [(19, v1.toNatClampNeg)]) w_I.2.1 kb11 eb14 kb14 rfl (by simp [jsr]) List.mem_cons_self).2.2.1 v0 12 19 kv0 (by decide) (by simp))
      intro x22 ex22
      have rx22 := i_rng x22
      first | (have tx22 : x22.toInt = v3.toInt + (1) := by (rw [ex22]; exact (i_add rfl (show (1 : Int32).toInt = 1 from rfl) (by omega) (by omega)))) | skip
      exact ih x22 Z I21 L w_I21 bd_Z q_I21 cp_Z   (by omega)  (by omega)
/-! ===== law() on both sides: the answer ===== -/
theorem lwA_cong {f g : Nat → Int32} {s : Int} (h : ∀ i : Nat, (i : Int) < s → f i = g i) : lwA f s = lwA g s := by
  unfold lwA lwR
  rw [GS_cong (lim := min s 40) (s := s) (by omega) h]
set_option maxHeartbeats 4000000 in
theorem s16_X3_read {Z : jZ} {I : jI} {L : jL} (w : WD Z I) (v0 v1 : Nat) (k0 : jk Z v0 3) (k1 : jk Z v1 10) (uB : Nat) (hB : jr Z v1 0 = some uB) (hb : BY (I uB)) {Q : Int32 → jI → jL → Prop} (hQ : ∀ (r : Int32) (I' : jI) (L' : jL), WD Z I' → FR Ws_X3_read Z I Z I' → r.toInt = lwA (I uB) (I v1 1).toInt → Q r I' L') : fs_X3_read v0 v1 Z I L Q := by
  obtain ⟨uD, hD, kD, lD⟩ := sh_f w.1 k0 (j := 1) (k := 14) (m := 40) rfl
  obtain ⟨uC, hC, kC, lC⟩ := sh_f w.1 k0 (j := 0) (k := 14) (m := 40) rfl
  obtain ⟨x, ex, kB, lB⟩ := sh_f w.1 k1 (j := 0) (k := 13) (m := 80) rfl
  cases hB.symm.trans ex
  have n10 : v1 ≠ v0 := ks_ne k1 k0 (by decide)
  have nB : uB ≠ v0 := ks_ne kB k0 (by decide)
  have sz : 0 ≤ (I v1 1).toInt ∧ (I v1 1).toInt ≤ 80 := w.fld 10 1 k1 (by decide)
  have b77 : ∀ (J : jI) (L1 : jL) (F : Int), WD Z J → FR Ws_X3_read Z I Z J → (J v0 8).toInt = F → -1 ≤ F → F ≤ 1000 → (F = -1 → lwA (I uB) (I v1 1).toInt = 0) → (F ≠ -1 → lwA (I uB) (I v1 1).toInt = -1 - F) → fs_X3_read_b77 Z Q v0 J L1 := by
    intro J L1 F wJ fJ e8 g1 g2 h1 h2
    unfold fs_X3_read_b77
    refine ⟨fun c => ?_, fun c => ?_⟩
    · have c := (i_eq e8 (show (-1 : Int32).toInt = -1 from rfl)).mp c
      intro b13 h13 b14 h14
      cases hD.symm.trans h13
      cases hC.symm.trans h14
      refine ⟨by decide, ?_⟩
      intro I16 e16 I17 e17 I18 e18
      have w16 : WD Z I16 := by rw [e16]; exact WD_cpy wJ 3 0 k0 hC kC rfl rfl (by decide) (fun _ _ _ => trivial)
      have f16 : FR Ws_X3_read Z I Z I16 := fJ.trans w.1 w.2.1 (by rw [e16]; exact FR_upA wJ.2.1 k0 hC kC rfl rfl (by decide))
      have w17 : WD Z I17 := by rw [e17]; exact WD_putF w16 3 3 k0 (by decide) (by decide) (w16.fld 3 5 k0 (by decide))
      have f17 : FR Ws_X3_read Z I Z I17 := f16.trans w.1 w.2.1 (by rw [e17]; exact FR_putF k0 (by decide) (by decide))
      have w18 : WD Z I18 := by rw [e18]; exact WD_putF w17 3 4 k0 (by decide) (by decide) trivial
      have f18 : FR Ws_X3_read Z I Z I18 := f17.trans w.1 w.2.1 (by rw [e18]; exact FR_putF k0 (by decide) (by decide))
      exact ⟨41, l16_X3_read_L122 w v0 v1 k0 k1 (fun I' L' a b => hQ 0 I' L' a b (by rw [h1 c]; rfl)) 41 0 I18 L1 w18 f18 ⟨by decide, by decide⟩ (by decide)⟩
    · have c := (not_congr (i_eq e8 (show (-1 : Int32).toInt = -1 from rfl))).mp c
      refine hQ _ J L1 wJ fJ ?_
      rw [h2 c]
      exact i_sub (show (-1 : Int32).toInt = -1 from rfl) e8 (by omega) (by omega)
  unfold fs_X3_read
  intro I21 e21 I22 e22 I23 e23 I24 e24
  have w21 : WD Z I21 := by rw [e21]; exact WD_putF w 3 5 k0 (by decide) (by decide) (show rg 0 40 _ from ⟨by decide, by decide⟩)
  have f21 : FR Ws_X3_read Z I Z I21 := by rw [e21]; exact FR_putF k0 (by decide) (by decide)
  have w22 : WD Z I22 := by rw [e22]; exact WD_putF w21 3 6 k0 (by decide) (by decide) trivial
  have f22 : FR Ws_X3_read Z I Z I22 := f21.trans w.1 w.2.1 (by rw [e22]; exact FR_putF k0 (by decide) (by decide))
  have w23 : WD Z I23 := by rw [e23]; exact WD_putF w22 3 8 k0 (by decide) (by decide) trivial
  have f23 : FR Ws_X3_read Z I Z I23 := f22.trans w.1 w.2.1 (by rw [e23]; exact FR_putF k0 (by decide) (by decide))
  have w24 : WD Z I24 := by rw [e24]; exact WD_putF w23 3 7 k0 (by decide) (by decide) trivial
  have f24 : FR Ws_X3_read Z I Z I24 := f23.trans w.1 w.2.1 (by rw [e24]; exact FR_putF k0 (by decide) (by decide))
  have y1 : I24 v1 = I v1 := by rw [e24, jpI_ne n10, e23, jpI_ne n10, e22, jpI_ne n10, e21, jpI_ne n10]
  have y3 : I23 v1 1 = I v1 1 := by rw [e23, jpI_ne n10, e22, jpI_ne n10, e21, jpI_ne n10]
  have yB : I24 uB = I uB := by rw [e24, jpI_ne nB, e23, jpI_ne nB, e22, jpI_ne nB, e21, jpI_ne nB]
  have t7 : (I24 v0 7).toInt = min (I v1 1).toInt 40 := by
    rw [e24, jpI_at, y3]
    by_cases c : (40 : Int32) < I v1 1
    · rw [if_pos c]
      have c := (i_lt (show (40 : Int32).toInt = 40 from rfl) (y := I v1 1) rfl).mp c
      show (40 : Int) = _
      omega
    · rw [if_neg c]
      have c := (not_congr (i_lt (show (40 : Int32).toInt = 40 from rfl) (y := I v1 1) rfl)).mp c
      omega
  have t8 : (I24 v0 8).toInt = -1 := by rw [e24, jpI_o (by decide), e23, jpI_at]; rfl
  have t6 : (I24 v0 6).toInt = 0 := by rw [e24, jpI_o (by decide), e23, jpI_o (by decide), e22, jpI_at]; rfl
  have t5 : (I24 v0 5).toInt = 0 := by rw [e24, jpI_o (by decide), e23, jpI_o (by decide), e22, jpI_o (by decide), e21, jpI_at]; rfl
  have ts : (I24 v1 1).toInt = (I v1 1).toInt := by rw [y1]
  refine ⟨fun c => ?_, fun c => ?_⟩
  · have c := (i_le ts (show (0 : Int32).toInt = 0 from rfl)).mp c
    refine b77 I24 L (-1) w24 f24 t8 (by omega) (by omega) (fun _ => ?_) (fun q => absurd rfl q)
    unfold lwA
    rw [if_pos c]
  have c := (not_congr (i_le ts (show (0 : Int32).toInt = 0 from rfl))).mp c
  obtain ⟨hp, o1, o2, o3, o4⟩ := lwR_is (f := I uB) (s := (I v1 1).toInt) sz.1
  have t : TLw Z I24 v0 v1 uB uD (min (I v1 1).toInt 40) := ⟨w24, k0, k1, hB, kB, ⟨by omega, by rw [ts]; omega, by rw [ts]; exact sz.2, by omega⟩, by rw [yB]; exact hb, hD, kD⟩
  have s0 : LSw Z I24 v0 uD (min (I v1 1).toInt 40) I24 0 (-1) [] := ⟨w24, FR.rf, t6, t8, t7, fun _ => ⟨t5, fun i hi => absurd hi (Nat.not_lt_zero i)⟩, fun _ _ _ => rfl⟩
  refine (LC_all t 300).1 30 0 0 (lwR (I uB) (I v1 1).toInt) [] 0 I24 L _ (by rw [yB]; exact hp) s0 (by omega) (by omega) (by show ((0 : Nat) : Int) ≤ 0; omega) rfl (by omega) (by omega) (fun I28 s28 => ?_)
  have f28 : FR Ws_X3_read Z I Z I28 := f24.trans w.1 w.2.1 (s28.2.1.mono (by decide))
  have u1 : (I28 v1 1).toInt = (I v1 1).toInt := by rw [s28.2.1.2.2.1 v1 10 1 k1 (by decide) (by decide)]; exact ts
  have b69 : (lwR (I uB) (I v1 1).toInt).2.1 = -1 → (lwR (I uB) (I v1 1).toInt).1 < (I v1 1).toInt → fs_X3_read_b69 Z Q v0 I28 L := by
    intro q1 q2
    unfold fs_X3_read_b69
    intro I20 e20
    have w20 : WD Z I20 := by rw [e20]; exact WD_putF s28.1 3 8 k0 (by decide) (by decide) trivial
    have f20 : FR Ws_X3_read Z I Z I20 := f28.trans w.1 w.2.1 (by rw [e20]; exact FR_putF k0 (by decide) (by decide))
    refine b77 I20 L (lwR (I uB) (I v1 1).toInt).1 w20 f20 (by rw [e20, jpI_at]; exact s28.2.2.1) (by omega) (by omega) (fun q => by omega) (fun _ => ?_)
    unfold lwA
    rw [if_neg (by omega), if_pos q1, if_pos q2]
  refine ⟨fun q => ?_, fun q => ⟨fun q2 => ?_, fun q2 => ⟨fun q3 => ?_, fun q3 => ?_⟩⟩⟩
  · have q := (not_congr (i_eq s28.2.2.2.1 (show (-1 : Int32).toInt = -1 from rfl))).mp q
    refine b77 I28 L _ s28.1 f28 s28.2.2.2.1 (by omega) (by omega) (fun g => absurd g q) (fun _ => ?_)
    unfold lwA
    rw [if_neg (by omega), if_neg q]
  · have q := (i_eq s28.2.2.2.1 (show (-1 : Int32).toInt = -1 from rfl)).mp q
    have q2 := (i_lt s28.2.2.1 s28.2.2.2.2.1).mp q2
    exact b69 q (by omega)
  · have q := (i_eq s28.2.2.2.1 (show (-1 : Int32).toInt = -1 from rfl)).mp q
    have q2 := (not_congr (i_lt s28.2.2.1 s28.2.2.2.2.1)).mp q2
    have q3 := (i_le u1 (show (40 : Int32).toInt = 40 from rfl)).mp q3
    refine b77 I28 L _ s28.1 f28 s28.2.2.2.1 (by omega) (by omega) (fun _ => ?_) (fun g => absurd q g)
    unfold lwA
    rw [if_neg (by omega), if_pos q, if_neg (by omega)]
  · have q := (i_eq s28.2.2.2.1 (show (-1 : Int32).toInt = -1 from rfl)).mp q
    have q3 := (not_congr (i_le u1 (show (40 : Int32).toInt = 40 from rfl))).mp q3
    exact b69 q (by omega)
def lwB (v : Int) (x : Int) : Int := if v = 0 ∨ v = 1 then x else -100
set_option maxHeartbeats 4000000 in
theorem s16_X11_law {Z : jZ} {I : jI} {L : jL} (w : WD Z I) (v0 : Nat) (v1 : Int32) (kv0 : jk Z v0 11) (uT : Nat) (huT : jr Z v0 0 = some uT) (uB : Nat) (huB : jr Z uT 0 = some uB) (hb : BY (I uB)) {Q : Int32 → jI → jL → Prop} (hQ : ∀ (r : Int32) (I' : jI) (L' : jL), WD Z I' → FR Ws_X11_law Z I Z I' → (I' uT 1).toInt = 0 → r.toInt = lwB v1.toInt (lwA (I uB) (I uT 1).toInt) → Q r I' L') : fs_X11_law v0 v1 Z I L Q := by
  obtain ⟨x, ex, kT⟩ := sh_o w.1 kv0 (j := 0) (k := 10) rfl
  cases huT.symm.trans ex
  have fin : ∀ (r : Int32) (J : jI) (L1 : jL), WD Z J → FR Ws_X11_law Z I Z J → r.toInt = lwB v1.toInt (lwA (I uB) (I uT 1).toInt) → fs_X11_law_b45 Z Q v0 r J L1 := by
    intro r J L1 wJ fJ er
    unfold fs_X11_law_b45
    intro b1 h1
    cases huT.symm.trans h1
    unfold f_X10_clear
    intro I1 e1
    refine hQ r I1 L1 ?_ ?_ ?_ er
    · rw [e1]; exact WD_putF wJ 10 1 kT (by decide) (by decide) (show rg 0 80 _ from ⟨by decide, by decide⟩)
    · exact fJ.trans w.1 w.2.1 (by rw [e1]; exact FR_putF kT (by decide) (by decide))
    · rw [e1, jpI_at]; rfl
  have rd : ∀ (b10 b11 b12 j : Nat), (j = 6 ∨ j = 7) → (v1.toInt = 0 ∨ v1.toInt = 1) → jr Z v0 2 = some b10 → jr Z b10 j = some b11 → jr Z v0 0 = some b12 → fs_X3_read b11 b12 Z I L (fun r I1 L1 => fs_X11_law_b45 Z Q v0 r I1 L1) := by
    intro b10 b11 b12 j hj hv h10 h11 h12
    cases huT.symm.trans h12
    obtain ⟨x, ex, kF⟩ := sh_o w.1 kv0 (j := 2) (k := 8) rfl
    cases h10.symm.trans ex
    have k3 : jk Z b11 3 := by
      rcases hj with rfl | rfl
      · obtain ⟨x, ex, k⟩ := sh_o w.1 kF (j := 6) (k := 3) rfl
        cases h11.symm.trans ex
        exact k
      · obtain ⟨x, ex, k⟩ := sh_o w.1 kF (j := 7) (k := 3) rfl
        cases h11.symm.trans ex
        exact k
    refine s16_X3_read w b11 uT k3 kT uB huB hb (fun r I1 L1 w1 f1 er => fin r I1 L1 w1 (f1.mono (by decide)) ?_)
    rw [er]
    unfold lwB
    rw [if_pos hv]
  unfold fs_X11_law
  refine ⟨fun c => ⟨fun c1 => ?_, fun c1 b10 h10 b11 h11 b12 h12 => ?_⟩, fun c b10 h10 b11 h11 b12 h12 => ?_⟩
  · have c := (not_congr (i_eq (x := v1) (y := 0) rfl (show (0 : Int32).toInt = 0 from rfl))).mp c
    have c1 := (not_congr (i_eq (x := v1) (y := 1) rfl (show (1 : Int32).toInt = 1 from rfl))).mp c1
    refine fin _ I L w FR.rf ?_
    unfold lwB
    rw [if_neg (by omega)]
    rfl
  · have c1 := (i_eq (x := v1) (y := 1) rfl (show (1 : Int32).toInt = 1 from rfl)).mp c1
    exact rd b10 b11 b12 7 (Or.inr rfl) (Or.inr c1) h10 h11 h12
  · have c := (i_eq (x := v1) (y := 0) rfl (show (0 : Int32).toInt = 0 from rfl)).mp c
    exact rd b10 b11 b12 6 (Or.inl rfl) (Or.inl c) h10 h11 h12
set_option maxHeartbeats 4000000 in
theorem s16_X12_law {B : Nat × Nat} {T : Nat} {Z : jZ} {I : jI} {L : jL} (w : WD Z I) (bd : BUD B Z T) (v0 : Nat) (v1 : Int32) (kv0 : jk Z v0 12) (uM : Nat) (huM : jr Z v0 18 = some uM) {Q : Int32 → jZ → jI → jL → Prop} (hQ : ∀ (r : Int32) (Z' : jZ) (I' : jI) (L' : jL), WD Z' I' → BUD B Z' T → FR Ws_X12_law Z I Z' I' → CP Z Z' → (I' v0 19).toInt = 0 → r.toInt = lwB v1.toInt (lwA (I uM) (I v0 19).toInt) → Q r Z' I' L') : f_X12_law B v0 v1 Z I L Q := by
  obtain ⟨b9, e9, kuM, l9⟩ := sh_f w.1 kv0 (j := 18) (k := 13) (m := 80) rfl
  cases huM.symm.trans e9
  have hne : uM ≠ v0 := ks_ne kuM kv0 (by decide)
  have sz : 0 ≤ (I v0 19).toInt ∧ (I v0 19).toInt ≤ 80 := w.fld 12 19 kv0 (by decide)
  unfold f_X12_law
  intro I1 e1 x23 e23 b eb
  cases huM.symm.trans eb
  have w1 : WD Z I1 := by rw [e1]; exact WD_putF w 12 22 kv0 (by decide) (by decide) trivial
  have f1 : FR Ws_X12_law Z I Z I1 := by rw [e1]; exact FR_putF kv0 (by decide) (by decide)
  have z1 : I1 v0 19 = I v0 19 := by rw [e1, jpI_o (by decide)]
  have b1 : I1 uM = I uM := by rw [e1, jpI_ne hne]
  have ex : x23.toInt = (I v0 19).toInt := by rw [e23, z1]
  refine s_X12_begin w1 bd v0 uM x23 40 kv0 kuM v0 12 18 kv0 huM (fun Z2 I2 L2 w2 bd2 f2 cp2 p2 => ?_)
  obtain ⟨r2, p24, p25, p26, p27⟩ := p2
  intro I3 e3
  have k2 : jk Z2 v0 12 := (f2.1 _ _ kv0).1
  have kM2 : jk Z2 uM 13 := (f2.1 _ _ kuM).1
  have lM2 : jlen Z2 uM = 80 := (f2.1 _ _ kuM).2.trans l9
  have h2M : jr Z2 v0 18 = some uM := (f2.2.1 v0 12 18 kv0 (by decide) (by decide)).trans huM
  have b2 : I2 uM = I1 uM := f2.2.2.2 v0 12 18 uM kv0 huM (by rw [kuM.2]; rfl) rfl (by decide)
  have w3 : WD Z2 I3 := by rw [e3]; exact WD_putF w2 12 19 k2 (by decide) (by decide) (show rg 0 80 _ from ⟨by decide, by decide⟩)
  have f2' : FR Ws_X12_law Z I Z2 I2 := f1.trans w.1 w.2.1 (f2.mono (by decide))
  have f3 : FR Ws_X12_law Z I Z2 I3 := f2'.trans w.1 w.2.1 (by rw [e3]; exact FR_putF k2 (by decide) (by decide))
  have b3 : I3 uM = I uM := by rw [e3, jpI_ne hne, b2, b1]
  have z3 : (I3 v0 19).toInt = 0 := by rw [e3, jpI_at]; rfl
  refine s_X12_in w3 v1 0 1 (fun r39 p39 => ?_)
  rw [show (0 : Int32).toInt = 0 from rfl, show (1 : Int32).toInt = 1 from rfl] at p39
  refine ⟨fun c => ?ok, fun c => ?no⟩
  case no =>
    have c := (i_eq (x := r39) (y := 0) rfl (show (0 : Int32).toInt = 0 from rfl)).mp c
    refine hQ _ Z2 I3 L2 w3 bd2 f3 cp2 z3 ?_
    unfold lwB
    rw [if_neg (by omega)]
    rfl
  have c := (not_congr (i_eq (x := r39) (y := 0) rfl (show (0 : Int32).toInt = 0 from rfl))).mp c
  have hv : v1.toInt = 0 ∨ v1.toInt = 1 := by omega
  have hv2 : 0 ≤ v1.toInt ∧ v1.toInt ≤ 1 := by omega
  have hB : lwB v1.toInt (lwA (I uM) (I v0 19).toInt) = lwA (I uM) (I v0 19).toInt := by unfold lwB; rw [if_pos hv]
  rw [hB] at hQ
  intro I41 e41
  have w41 : WD Z2 I41 := by rw [e41]; exact WD_putF w3 12 31 k2 (by decide) (by decide) trivial
  have f41 : FR Ws_X12_law Z I Z2 I41 := f3.trans w.1 w.2.1 (by rw [e41]; exact FR_putF k2 (by decide) (by decide))
  have b41 : I41 uM = I uM := by rw [e41, jpI_ne hne]; exact b3
  have z41 : (I41 v0 19).toInt = 0 := by rw [e41, jpI_o (by decide)]; exact z3
  have a41 : I41 v0 31 = (-1 : Int32) := by rw [e41, jpI_at]
  have b83 : ∀ (J : jI) (L1 : jL), WD Z2 J → FR Ws_X12_law Z I Z2 J → (J v0 19).toInt = 0 → (I v0 19).toInt ≤ 40 → lwA (I uM) (I v0 19).toInt = 0 → f_X12_law_b83 B Q v0 v1 x23 Z2 J L1 := by
    intro J L1 wJ fJ z19 h40 hA
    have z0 : (0 : Int32).toInt = 0 := rfl
    unfold f_X12_law_b83
    exact ⟨41, l16_X12_law_L85 w v0 v1 kv0 x23 (fun Z' I' L' a b c d e => hQ 0 Z' I' L' a b c d e (by rw [hA]; rfl)) 41 0 Z2 J L1 wJ bd2 fJ cp2 (by omega) (by omega)⟩
  refine ⟨fun c2 => ?_, fun c2 => ?_⟩
  · have c2 := (i_le ex (show (0 : Int32).toInt = 0 from rfl)).mp c2
    refine b83 I41 L2 w41 f41 z41 (by omega) ?_
    unfold lwA
    rw [if_pos c2]
  have c2 := (not_congr (i_le ex (show (0 : Int32).toInt = 0 from rfl))).mp c2
  have t : TMl Z2 I41 v0 uM (I v0 19).toInt := ⟨w41, k2, r2, kM2, ⟨sz.1, sz.2, by rw [lM2]; omega⟩, fun I' f => f.2.2.2 v0 12 18 uM k2 h2M (by rw [kM2.2]; rfl) rfl (by decide)⟩
  have s : ML Z2 I41 v0 (I v0 19).toInt I41 0 (-1) := by
    refine ⟨w41, FR.rf, ?_, ?_, ?_, ?_⟩
    · rw [e41, jpI_o (by decide), e3, jpI_o (by decide)]; exact p26
    · rw [e41, jpI_o (by decide), e3, jpI_o (by decide)]; exact p27
    · rw [e41, jpI_o (by decide), e3, jpI_o (by decide), p24]; exact ex
    · rw [e41, jpI_o (by decide), e3, jpI_o (by decide)]; exact p25
  have hl : LTR Z2 I41 v0 (I v0 19).toInt (fun _ => 0) := by
    intro F c I9 L9 a Q9 s9 _ hq
    have e31 : I9 v0 31 = (-1 : Int32) := by rw [s9.2.1.2.2.1 v0 12 31 k2 (by decide) (by decide)]; exact a41
    exact ⟨fun q => absurd e31 q, fun _ => hq I9 L9 s9⟩
  obtain ⟨hp, o1, o2, o3, o4⟩ := lwR_is (f := I uM) (s := (I v0 19).toInt) sz.1
  refine (MC_all t hl 300).1 100 0 0 (lwR (I uM) (I v0 19).toInt) 0 I41 L2 _ (by rw [b41]; exact hp) s (by omega) (by omega) rfl (by omega) (by omega) (fun v I45 L45 s45 _ => ?_)
  have f45 : FR Ws_X12_law Z I Z2 I45 := f41.trans w.1 w.2.1 (s45.2.1.mono (by decide))
  have z45 : (I45 v0 19).toInt = 0 := by rw [s45.2.1.2.2.1 v0 12 19 k2 (by decide) (by decide)]; exact z41
  have bad : ∀ (J : jI) (F : Int), ML Z2 I41 v0 (I v0 19).toInt J (lwR (I uM) (I v0 19).toInt).1 F → F ≠ -1 → 0 ≤ F → F ≤ 1000 → lwA (I uM) (I v0 19).toInt = -1 - F → f_X12_law_b69 B Q v0 v1 x23 Z2 J L45 := by
    intro J F sJ hF g1 g2 hA
    unfold f_X12_law_b69
    refine n_fine sJ (fun q => absurd q hF) (fun _ => ⟨fun q => absurd rfl q, fun _ => ?_⟩)
    refine hQ _ Z2 J L45 sJ.1 bd2 (f41.trans w.1 w.2.1 (sJ.2.1.mono (by decide))) cp2 ?_ ?_
    · rw [sJ.2.1.2.2.1 v0 12 19 k2 (by decide) (by decide)]; exact z41
    · rw [hA]
      exact i_sub (show (-1 : Int32).toInt = -1 from rfl) sJ.2.2.2.1 (by omega) (by omega)
  have hlw : ∀ x, (if (I v0 19).toInt ≤ 0 then (0 : Int) else x) = x := fun x => if_neg (by omega)
  by_cases q : (lwR (I uM) (I v0 19).toInt).2.1 = -1
  · refine ⟨fun c3 => ?_, fun c3 => ?_⟩
    · have c3 := (i_le ex s45.2.2.1).mp c3
      rw [q] at s45
      unfold f_X12_law_b69
      refine n_fine s45 (fun _ => ⟨fun _ => ?_, fun q9 => absurd q9 (by decide)⟩) (fun q9 => absurd rfl q9)
      refine b83 I45 L45 s45.1 f45 z45 (by omega) ?_
      unfold lwA
      rw [hlw, if_pos q, if_neg (by omega)]
    · have c3 := (not_congr (i_le ex s45.2.2.1)).mp c3
      rw [q] at s45
      refine n_fault t s45 (fun I9 s9 => bad I9 _ s9 ?_ ?_ ?_ ?_)
      · rw [s45.2.2.1]; omega
      · rw [s45.2.2.1]; omega
      · rw [s45.2.2.1]; omega
      · rw [s45.2.2.1]
        unfold lwA
        rw [hlw, if_pos q, if_pos (by omega)]
  · have hA : lwA (I uM) (I v0 19).toInt = -1 - (lwR (I uM) (I v0 19).toInt).2.1 := by
      unfold lwA
      rw [hlw, if_neg q]
    refine ⟨fun c3 => bad I45 _ s45 q (by omega) (by omega) hA, fun c3 => ?_⟩
    exact n_faultD s45 q (bad I45 _ s45 q (by omega) (by omega) hA)
end
section
/-! ===== the class: of how many STEPS each is MAIN ===== -/
def mnI (T : Nat → Int32) (t i : Nat) : Int := if mnR T t = i ∧ 0 < (T (8 * t + i)).toInt then 1 else 0
theorem mnI_rg {T : Nat → Int32} {i : Nat} : ∀ k, 0 ≤ shS (fun t => mnI T t i) k ∧ shS (fun t => mnI T t i) k ≤ (k : Int) := by
  intro k
  induction k with
  | zero => exact ⟨Int.le_refl _, Int.le_refl _⟩
  | succ k ih =>
    have e : 0 ≤ mnI T k i ∧ mnI T k i ≤ 1 := by
      unfold mnI
      split <;> omega
    show 0 ≤ shS (fun t => mnI T t i) k + mnI T k i ∧ shS (fun t => mnI T t i) k + mnI T k i ≤ ((k + 1 : Nat) : Int)
    omega
theorem ma_L7 {Z : jZ} {J : jI} (wJ : WD Z J) (uP : Nat) (kP : jk Z uP 4) (x0 x1 : Nat) (h0 : jr Z uP 0 = some x0) (h1 : jr Z uP 1 = some x1) (o : Nat) (ko : jk Z o 11) (d6 : Nat) (h6 : jr Z o 6 = some d6) (k6 : jk Z d6 14) (l6 : jlen Z d6 = 8) (hm : MAI J x0 x1) {Q : jI → jL → Prop}
    (hQ : ∀ (I : jI) (L : jL), WD Z I → FR [(11, 6)] Z J Z I → (∀ i, i < 8 → (I d6 i).toInt = shS (fun t => mnI (J x0) t i) 24) → Q I L) :
    ∀ (n s : Nat) (v2 : Int32) (I : jI) (L : jL), WD Z I → FR [(11, 6)] Z J Z I → v2.toInt = (s : Int) → s ≤ 24 → (∀ i, i < 8 → (I d6 i).toInt = shS (fun t => mnI (J x0) t i) s) → 25 ≤ n + s → f_X4_mainsInto_L7 Z Q n uP d6 v2 I L := by
  have zn : (nI (jlen Z d6)).toInt = 8 := by rw [l6]; exact i_nI (n := 8) (by omega)
  have z0 : (0 : Int32).toInt = 0 := rfl
  have z1 : (1 : Int32).toInt = 1 := rfl
  have z24 : (24 : Int32).toInt = 24 := rfl
  obtain ⟨y0, y1, y2, e0, e1, e2, k0, k1, k2, l0, l1, l2, n01, n02, n12, na0, na1, na2⟩ := shr_at wJ kP
  cases h0.symm.trans e0; cases h1.symm.trans e1
  intro n
  induction n with
  | zero => intro s v2 I L w fr e2v hs hD hn; omega
  | succ n ih =>
    intro s v2 I L w fr e2v hs hD hn
    have y0 : I x0 = J x0 := fr.2.2.2 uP 4 0 x0 kP h0 (by rw [k0.2]; rfl) rfl (by decide)
    have y1 : I x1 = J x1 := fr.2.2.2 uP 4 1 x1 kP h1 (by rw [k1.2]; rfl) rfl (by decide)
    have q2 : v2.toNatClampNeg = s := by have := i_nat e2v (by omega); omega
    have nx : ∀ x : Int32, x = v2 + 1 → x.toInt = ((s + 1 : Nat) : Int) := fun x ex => by rw [ex]; exact (i_add e2v z1 (by omega) (by omega)).trans (by omega)
    unfold f_X4_mainsInto_L7
    refine ⟨fun c => ?_, fun c => ?_⟩
    · have c := (i_le z24 e2v).mp c
      have es : s = 24 := by omega
      rw [es] at hD
      exact hQ I L w fr hD
    have c := (not_congr (i_le z24 e2v)).mp c
    intro b e
    cases h1.symm.trans e
    refine ⟨vi_of e2v (by omega) (by omega), fun x5 e5 => ?_⟩
    rw [q2, y1] at e5
    have t5 : x5.toInt = (mnR (J x0) s : Int) := by rw [e5]; exact hm s (by omega)
    have l7 := mnR_le (T := J x0) (s := s)
    generalize hg : mnR (J x0) s = m at t5 l7
    have q5 : x5.toNatClampNeg = m := by have := i_nat t5 (by omega); omega
    have more : ∀ i, shS (fun t => mnI (J x0) t i) (s + 1) = shS (fun t => mnI (J x0) t i) s + (if m = i ∧ 0 < (J x0 (8 * s + i)).toInt then 1 else 0) := fun i => by
      show shS (fun t => mnI (J x0) t i) s + mnI (J x0) s i = _
      unfold mnI
      rw [hg]
    refine ⟨fun c2 => ?_, fun _ => ?_⟩
    · have c2 := (i_le zn t5).mp c2
      omega
    refine s15_X4_shareOf w uP v2 x5 kP x0 h0 s m e2v t5 (by omega) (by omega) ⟨fun c3 => ?_, fun c3 => ⟨by rw [l6]; exact vi_of t5 (by omega) (by omega), by rw [l6]; exact vi_of t5 (by omega) (by omega), fun I17 e17 => ?_⟩⟩
    · have c3 := (i_le rfl z0).mp c3
      rw [y0] at c3
      unfold f_X4_mainsInto_b42
      intro x ex
      refine ih (s + 1) x I L w fr (nx x ex) (by omega) (fun i hi => ?_) (by omega)
      rw [more, if_neg (fun h => by rw [← h.1] at h; omega), hD i hi]
      exact (Int.add_zero _).symm
    · have c3 := (not_congr (i_le rfl z0)).mp c3
      rw [y0] at c3
      rw [q5] at e17
      unfold f_X4_mainsInto_b42
      intro x ex
      refine ih (s + 1) x I17 L ?_ ?_ (nx x ex) (by omega) (fun i hi => ?_) (by omega)
      · rw [e17]; exact WD_putA w 11 6 ko h6 k6 rfl rfl (by decide) trivial
      · refine fr.trans wJ.1 wJ.2.1 ?_
        rw [e17]; exact FR_upA w.2.1 ko h6 k6 rfl rfl List.mem_cons_self
      · rw [more, e17]
        have b := mnI_rg (T := J x0) (i := i) s
        by_cases c4 : i = m
        · rw [c4, jpI_at, if_pos ⟨rfl, by omega⟩]
          rw [c4] at b
          have dm := hD m (by omega)
          exact i_add dm z1 (by omega) (by omega)
        · rw [jpI_off c4, if_neg (fun h => c4 h.1.symm), hD i hi]
          exact (Int.add_zero _).symm
theorem s18_X4_mainsInto {Z : jZ} {J : jI} {L : jL} (wJ : WD Z J) (uP : Nat) (kP : jk Z uP 4) (x0 x1 : Nat) (h0 : jr Z uP 0 = some x0) (h1 : jr Z uP 1 = some x1) (o : Nat) (ko : jk Z o 11) (d6 : Nat) (h6 : jr Z o 6 = some d6) (k6 : jk Z d6 14) (l6 : jlen Z d6 = 8) (hm : MAI J x0 x1) {Q : jI → jL → Prop}
    (hQ : ∀ (I : jI) (L : jL), WD Z I → FR [(11, 6)] Z J Z I → (∀ i, i < 8 → (I d6 i).toInt = shS (fun t => mnI (J x0) t i) 24) → Q I L) : f_X4_mainsInto uP d6 Z J L Q := by
  obtain ⟨y0, y1, y2, e0, e1, e2, k0, k1, k2, l0, l1, l2, n01, n02, n12, na0, na1, na2⟩ := shr_at wJ kP
  cases h0.symm.trans e0; cases h1.symm.trans e1
  unfold f_X4_mainsInto
  refine and_J7_fill_53178 (Q1 := fun I' _ => WD Z I' ∧ FR [(11, 6)] Z J Z I') (Q2 := fun I' _ => ∀ i, i < 8 → I' d6 i = 0) (s_J7_fill_53178 wJ d6 0 k6 o 11 6 ko h6 (by decide) rfl (by omega) (fun _ => trivial) (fun I' L' w' f' => ⟨w', f'⟩)) (fill_raw (by omega) (fun I' _ hz i hi => hz i (by omega))) (fun I20 L21 h20 z20 => ?_)
  have y0 : I20 x0 = J x0 := h20.2.2.2.2 uP 4 0 x0 kP h0 (by rw [k0.2]; rfl) rfl (by decide)
  exact ⟨25, ma_L7 wJ uP kP x0 x1 h0 h1 o ko d6 h6 k6 l6 hm hQ 25 0 0 I20 L21 h20.1 h20.2 rfl (by omega) (fun i hi => by rw [z20 i hi]; rfl) (by omega)⟩
/-! what a set has, on both sides -/
theorem amx_top {r : Nat → Int} : ∀ k i, i ≤ k → r i ≤ r (amx r k) := by
  intro k
  induction k with
  | zero =>
    intro i hi
    have : i = 0 := by omega
    rw [this]
    exact Int.le_refl _
  | succ k ih =>
    intro i hi
    show r i ≤ r (if r (amx r k) < r (k + 1) then k + 1 else amx r k)
    by_cases c : r (amx r k) < r (k + 1)
    · rw [if_pos c]
      by_cases ci : i = k + 1
      · rw [ci]; exact Int.le_refl _
      · have := ih i (by omega)
        omega
    · rw [if_neg c]
      by_cases ci : i = k + 1
      · rw [ci]; omega
      · exact ih i (by omega)
theorem mn_pos {n : Nat} {T : Nat → Int32} (h : OWP n T) {s : Nat} (hs : s < n) : 0 < (T (8 * s + mnR T s)).toInt := by
  obtain ⟨h1, h2⟩ := h s hs
  refine Classical.byContradiction (fun q => ?_)
  have z : shS (fun g => (T (8 * s + g)).toInt) 8 = 0 := by
    have e : shS (fun g => (T (8 * s + g)).toInt) 8 = shS (fun _ => 0) 8 := shS_cg 8 (fun i hi => by
      have a := amx_top (r := fun i => (T (8 * s + i)).toInt) 7 i (by omega)
      have a : (T (8 * s + i)).toInt ≤ (T (8 * s + mnR T s)).toInt := a
      have b := h1 i hi
      show (T (8 * s + i)).toInt = 0
      omega)
    rw [e]
    rfl
  omega
theorem shS_one {c : Nat} {b : Nat → Bool} {p : Prop} [Decidable p] : ∀ k, shS (fun i => if b i = true then (if c = i ∧ p then (1 : Int) else 0) else 0) k = if c < k ∧ b c = true ∧ p then 1 else 0 := by
  intro k
  induction k with
  | zero => rw [if_neg (fun h => by omega)]; rfl
  | succ k ih =>
    show shS (fun i => if b i = true then (if c = i ∧ p then (1 : Int) else 0) else 0) k + (if b k = true then (if c = k ∧ p then (1 : Int) else 0) else 0) = _
    rw [ih]
    by_cases e : c = k
    · subst e
      rw [if_neg (fun h => by omega)]
      by_cases hb : b c = true
      · by_cases hp : p
        · rw [if_pos hb, if_pos ⟨rfl, hp⟩, if_pos ⟨by omega, hb, hp⟩]; rfl
        · rw [if_pos hb, if_neg (fun h => hp h.2), if_neg (fun h => hp h.2.2)]; rfl
      · rw [if_neg hb, if_neg (fun h => hb h.2.1)]; rfl
    · have e2 : (if b k = true then (if c = k ∧ p then (1 : Int) else 0) else 0) = 0 := by
        split
        · exact if_neg (fun h => e h.1)
        · rfl
      rw [e2, Int.add_zero]
      by_cases h : c < k ∧ b c = true ∧ p
      · rw [if_pos h, if_pos ⟨by omega, h.2⟩]
      · rw [if_neg h, if_neg (fun q => h ⟨by omega, q.2⟩)]
/-- the steps whose MAIN a set has, counted by families or by steps -/
theorem BS_mn {n : Nat} {P T : Nat → Int32} (hn : n ≤ 24) (h : PP n P T) (b : Int32) : BS (fun i => shS (fun t => mnI P t i) 24) b = shS (fun s => if hbt b (mnR T s) = true then 1 else 0) n := by
  obtain ⟨ha, hz, ho⟩ := h
  have mP : ∀ s, s < n → mnR P s = mnR T s := fun s hs => mnR_cg (fun i hi => ha (8 * s + i) (by omega))
  have e1 : BS (fun i => shS (fun t => mnI P t i) 24) b = shS (fun i => shS (fun t => if hbt b i = true then mnI P t i else 0) 24) 8 := by
    refine shS_cg 8 (fun i hi => ?_)
    show (if hbt b i = true then shS (fun t => mnI P t i) 24 else 0) = shS (fun t => if hbt b i = true then mnI P t i else 0) 24
    by_cases c : hbt b i = true
    · rw [if_pos c]
      exact shS_cg 24 (fun t ht => (if_pos c).symm)
    · rw [if_neg c]
      have e : shS (fun t => if hbt b i = true then mnI P t i else 0) 24 = shS (fun _ => 0) 24 := shS_cg 24 (fun t ht => if_neg c)
      rw [e]
      rfl
  rw [e1, shS_swap (g := fun t i => if hbt b i = true then mnI P t i else 0) (m := 8) 24]
  have e2 : ∀ t, t < 24 → shS (fun i => if hbt b i = true then mnI P t i else 0) 8 = if t < n then (if hbt b (mnR T t) = true then 1 else 0) else 0 := by
    intro t ht
    have l7 := mnR_le (T := P) (s := t)
    have e3 : shS (fun i => if hbt b i = true then mnI P t i else 0) 8 = shS (fun i => if hbt b i = true then (if mnR P t = i ∧ 0 < (P (8 * t + mnR P t)).toInt then (1 : Int) else 0) else 0) 8 := by
      refine shS_cg 8 (fun i hi => ?_)
      show (if hbt b i = true then mnI P t i else 0) = (if hbt b i = true then (if mnR P t = i ∧ 0 < (P (8 * t + mnR P t)).toInt then (1 : Int) else 0) else 0)
      have e9 : (if mnR P t = i ∧ 0 < (P (8 * t + i)).toInt then (1 : Int) else 0) = (if mnR P t = i ∧ 0 < (P (8 * t + mnR P t)).toInt then (1 : Int) else 0) := by
        by_cases c : mnR P t = i
        · rw [c]
        · rw [if_neg (fun h => c h.1), if_neg (fun h => c h.1)]
      unfold mnI
      rw [e9]
    rw [e3, shS_one (c := mnR P t) (b := fun i => hbt b i) (p := 0 < (P (8 * t + mnR P t)).toInt) 8]
    by_cases c : t < n
    · have hp : 0 < (P (8 * t + mnR P t)).toInt := by
        rw [mP t c, ha _ (by have := mnR_le (T := T) (s := t); omega)]
        exact mn_pos ho c
      rw [if_pos c, ← mP t c]
      by_cases d : hbt b (mnR P t) = true
      · rw [if_pos d, if_pos ⟨by omega, d, hp⟩]
      · rw [if_neg d, if_neg (fun h => d h.2.1)]
    · rw [if_neg c]
      refine if_neg (fun h => ?_)
      have := h.2.2
      rw [hz _ (by omega) (by omega)] at this
      exact absurd this (by decide)
  rw [shS_cg 24 e2]
  have e4 := shS_tail (g := fun t => if t < n then (if hbt b (mnR T t) = true then (1 : Int) else 0) else 0) (n := n) (24 - n) (fun i h1 h2 => if_neg (by omega))
  rw [show n + (24 - n) = 24 by omega] at e4
  rw [e4]
  exact shS_cg n (fun s hs => if_pos hs)
/-! ===== rules: the class; both sides tell the same ===== -/
/-- what a set has, to the class -/
def SC (P : Nat → Int32) (v1 v2 : Int32) (b : Int32) : Int := if v1 = 0 then BS (fun k => (P (8 * v2.toNatClampNeg + k)).toInt) b else BS (fun i => shS (fun t => mnI P t i) 24) b
def RULc (P : Nat → Int32) (n : Nat) (v1 v2 r : Int32) : Prop := (¬ RULo n v1 v2 ∧ r.toInt = -1) ∨ (RULo n v1 v2 ∧ r = bcV (fwC (SC P v1 v2) (if v1 = 0 then 720 else (n : Int)) 254))
set_option maxHeartbeats 1000000 in
theorem s18_X11_rules {Z : jZ} {I : jI} {L : jL} (w : WD Z I) (v0 : Nat) (v1 v2 : Int32) (kv0 : jk Z v0 11) (uF uP x0 x1 : Nat) (pc : PC1 Z v0 uF uP x0 x1) (hm : MAI I x0 x1) (n : Nat) (en : (I uF 9).toInt = (n : Int)) (hb : ∀ z, z < 192 → 0 ≤ (I x0 z).toInt ∧ (I x0 z).toInt ≤ 720) {Q : Int32 → jI → jL → Prop} (hQ : ∀ (r : Int32) (I' : jI) (L' : jL), WD Z I' → FR Ws_X11_rules Z I Z I' → RULc (I x0) n v1 v2 r → Q r I' L') : f_X11_rules v0 v1 v2 Z I L Q := by
  obtain ⟨huF, kF, huP, kP, h0, h1⟩ := pc
  obtain ⟨y0, y1, y2, g0, g1, g2, k0, k1, k2, l0, l1, l2, n01, n02, n12, na0, na1, na2⟩ := shr_at w kP
  cases h0.symm.trans g0; cases h1.symm.trans g1
  obtain ⟨d6, h6, k6, l6⟩ := sh_f w.1 kv0 (j := 6) (k := 14) (m := 8) rfl
  have t9 : 0 ≤ (I uF 9).toInt ∧ (I uF 9).toInt ≤ 24 := w.fld 8 9 kF (by decide)
  have z0 : (0 : Int32).toInt = 0 := rfl
  have z1 : (1 : Int32).toInt = 1 := rfl
  have bad : ∀ L', ¬ RULo n v1 v2 → Q (-1 : Int32) I L' := fun L' h => hQ _ I L' w FR.rf (Or.inl ⟨h, rfl⟩)
  -- from the division on
  have tail : ∀ (D : Nat → Int) (I1 : jI) (L1 : jL), 1 ≤ n → (0 ≤ v1.toInt ∧ v1.toInt ≤ 1) → (v1 = 0 → 0 ≤ v2.toInt ∧ v2.toInt < (n : Int)) → WD Z I1 → FR [(11, 6)] Z I Z I1 → (∀ i, i < 8 → (I1 d6 i).toInt = D i) → (∀ i, i < 8 → 0 ≤ D i ∧ D i ≤ 720) → BS D = SC (I x0) v1 v2 → f_X11_rules_b72 Z Q v0 v1 I1 L1 := by
    intro D I1 L1 a1 a2 a3 w1 f1 eD hD hS
    have fin : ∀ s1 : Int32, s1.toInt = (if v1 = 0 then 720 else (n : Int)) → f_X11_rules_b90 Z Q v0 v0 s1 I1 L1 := fun s1 e1 => by
      unfold f_X11_rules_b90
      refine s17_X11_fewestOver w1 v0 s1 d6 h6 D eD hD ?_
      refine s_X11_tellOne w1 v0 _ kv0 (fun I2 L2 w2 f2 => ?_)
      refine s_J6_bitCount_0f7a4 w2 _ (fun r p => ?_)
      refine hQ r I2 L2 w2 (FR.trans w.1 w.2.1 (f1.mono (by decide)) (f2.mono (by decide))) (Or.inr ⟨⟨a1, a2, a3⟩, ?_⟩)
      rw [p.1, hS, e1]
    unfold f_X11_rules_b72
    refine ⟨fun c => ?_, fun c => fin _ (by rw [if_pos c]; rfl)⟩
    intro b e
    cases huF.symm.trans e
    refine fin _ ?_
    rw [if_neg c, f1.2.2.1 uF 8 9 kF (by decide) (by decide)]
    exact en
  have go : 1 ≤ n → (0 ≤ v1.toInt ∧ v1.toInt ≤ 1) → (v1 = 0 → 0 ≤ v2.toInt ∧ v2.toInt < (n : Int)) → f_X11_rules_b36 Z Q v0 v1 v2 I L := by
    intro a1 a2 a3
    unfold f_X11_rules_b36
    refine ⟨fun c => ?_, fun c => ?_⟩
    · intro b e
      cases huF.symm.trans e
      intro b e
      cases huP.symm.trans e
      intro b e
      cases h6.symm.trans e
      refine s18_X4_mainsInto w uP kP x0 x1 h0 h1 v0 kv0 d6 h6 k6 l6 hm (fun I1 L1 w1 f1 hD => ?_)
      refine tail (fun i => shS (fun t => mnI (I x0) t i) 24) I1 L1 a1 a2 a3 w1 f1 hD (fun i hi => ?_) ?_
      · have := mnI_rg (T := I x0) (i := i) 24
        omega
      · funext b
        unfold SC
        rw [if_neg c]
    · intro b e
      cases huF.symm.trans e
      intro b e
      cases huP.symm.trans e
      intro b e
      cases h6.symm.trans e
      have a4 := a3 c
      have n2 := i_nat (x := v2) rfl a4.1
      unfold f_X4_shareInto
      refine ⟨9, si_L2 w uP kP x0 h0 k0 v0 kv0 d6 h6 k6 l6 v2 v2.toNatClampNeg n2.symm (by omega) (fun I1 L1 w1 f1 hD => ?_) 9 0 0 I L w FR.rf rfl (by omega) (fun i hi => by omega) (by omega)⟩
      refine tail (fun k => (I x0 (8 * v2.toNatClampNeg + k)).toInt) I1 L1 a1 a2 a3 w1 f1 (fun i hi => by rw [hD i hi]) (fun i hi => hb _ (by omega)) ?_
      funext b
      unfold SC
      rw [if_pos c]
  unfold f_X11_rules
  refine ⟨fun c => bad L (fun h => by have c := (i_lt rfl z0).mp c; have := h.2.1; omega), fun c => ⟨fun c2 => bad L (fun h => by have c2 := (i_lt z1 rfl).mp c2; have := h.2.1; omega), fun c2 => ?_⟩⟩
  have c := (not_congr (i_lt rfl z0)).mp c
  have c2 := (not_congr (i_lt z1 rfl)).mp c2
  intro b e
  cases huF.symm.trans e
  refine ⟨fun c3 => bad L (fun h => by have c3 := (i_eq rfl z0).mp c3; have := h.1; omega), fun c3 => ?_⟩
  have c3 := (not_congr (i_eq rfl z0)).mp c3
  refine ⟨fun c4 => go (by omega) (by omega) (fun e => absurd e c4), fun c4 => ?_⟩
  intro b e
  cases huF.symm.trans e
  refine s_X8_has w uF v2 kF (fun r p => ⟨fun c5 => ?_, fun c5 => bad L (fun h => ?_)⟩)
  · have c5 := nz c5
    exact go (by omega) (by omega) (fun _ => by omega)
  · have c5 := yz c5
    have := h.2.2 c4
    omega
theorem hbt_all : ∀ k : Nat, k < 8 → hbt (Int32.ofNat 255) k = true := by decide
theorem BS_all {D : Nat → Int} : BS D (Int32.ofNat 255) = shS D 8 := shS_cg 8 (fun i hi => if_pos (hbt_all i hi))
/-- both sides tell the same -/
theorem RUL_eq {n : Nat} {P T : Nat → Int32} {v1 v2 r1 r2 : Int32} (hn : n ≤ 24) (h : PP n P T) (c : RULc P n v1 v2 r1) (m : RULm T n v1 v2 r2) : r1.toInt = r2.toInt := by
  rcases c with ⟨c1, c2⟩ | ⟨c1, c2⟩
  · rcases m with ⟨m1, m2⟩ | ⟨m1, m2⟩
    · rw [c2, m2]
    · exact absurd m1 c1
  · rcases m with ⟨m1, m2⟩ | ⟨m1, m2⟩
    · exact absurd c1 m1
    · rw [c2, m2]
      obtain ⟨o1, o2, o3⟩ := c1
      have hS : ∀ b, SC P v1 v2 b = SM T n v1 v2 b := fun b => by
        unfold SC SM
        by_cases e : v1 = 0
        · rw [if_pos e, if_pos e]
          have a := o3 e
          have n2 := i_nat (x := v2) rfl a.1
          refine shS_cg 8 (fun i hi => ?_)
          show (if hbt b i = true then (P (8 * v2.toNatClampNeg + i)).toInt else 0) = (if hbt b i = true then (T (8 * v2.toNatClampNeg + i)).toInt else 0)
          rw [h.1 (8 * v2.toNatClampNeg + i) (by omega)]
        · rw [if_neg e, if_neg e]
          exact BS_mn hn h b
      have ha : (if v1 = 0 then (720 : Int) else (n : Int)) < 2 * SM T n v1 v2 (Int32.ofNat 255) := by
        unfold SM
        by_cases e : v1 = 0
        · rw [if_pos e, if_pos e, BS_all]
          have a := o3 e
          have n2 := i_nat (x := v2) rfl a.1
          have s := (h.2.2 v2.toNatClampNeg (by omega)).2
          rw [s]
          decide
        · rw [if_neg e, if_neg e]
          have s : shS (fun s => if hbt (Int32.ofNat 255) (mnR T s) = true then (1 : Int) else 0) n = (n : Int) := by
            have q : ∀ k, shS (fun s => if hbt (Int32.ofNat 255) (mnR T s) = true then (1 : Int) else 0) k = (k : Int) := by
              intro k
              induction k with
              | zero => rfl
              | succ k ih =>
                show shS (fun s => if hbt (Int32.ofNat 255) (mnR T s) = true then (1 : Int) else 0) k + (if hbt (Int32.ofNat 255) (mnR T k) = true then (1 : Int) else 0) = ((k + 1 : Nat) : Int)
                rw [ih, if_pos (hbt_all _ (by have := mnR_le (T := T) (s := k); omega))]
                rfl
            exact q n
          rw [s]
          omega
      rw [fw_eq (fun k _ _ => hS _) ha]
/-! ===== who is MAIN, over the calls ===== -/
theorem mnR_z {T : Nat → Int32} (h : ∀ z, T z = 0) (s : Nat) : mnR T s = 0 := by
  have e : mnR T s = amx (fun _ => (0 : Int)) 7 := amx_cg8 7 (fun i _ => by
    show (T (8 * s + i)).toInt = 0
    rw [h]
    rfl)
  rw [e]
  rfl
theorem MAI_frp {Z Z' : jZ} {I I' : jI} {a x0 x1 : Nat} (w : WD Z I) (ka : jk Z a 4) (h0 : jr Z a 0 = some x0) (h1 : jr Z a 1 = some x1) (f : FRp Z I Z' I') (h : MAI I x0 x1) : MAI I' x0 x1 := by
  obtain ⟨y0, y1, y2, e0, e1, e2, k0, k1, k2, -⟩ := shr_at w ka
  cases h0.symm.trans e0; cases h1.symm.trans e1
  exact MAI_eq (funext fun i => f.2 x0 14 i k0 (by omega)) (funext fun i => f.2 x1 14 i k1 (by omega)) h
theorem mj_X11_sells {v0 : Nat} {v1 v2 v3 v4 v5 : Int32} {Z : jZ} {I : jI} {L : jL} {Q2 Q3 : Int32 → jI → jL → Prop} (h2 : f_X11_sells v0 v1 v2 v3 v4 v5 Z I L Q2) (h1 : f_X11_sells v0 v1 v2 v3 v4 v5 Z I L (fun r I L => Q2 r I L → Q3 r I L)) : f_X11_sells v0 v1 v2 v3 v4 v5 Z I L Q3 := and_X11_sells h1 h2 (fun _ _ _ a b => a b)
theorem mj_X11_undo {v0 : Nat} {Z : jZ} {I : jI} {L : jL} {Q2 Q3 : Int32 → jI → jL → Prop} (h2 : f_X11_undo v0 Z I L Q2) (h1 : f_X11_undo v0 Z I L (fun r I L => Q2 r I L → Q3 r I L)) : f_X11_undo v0 Z I L Q3 := and_X11_undo h1 h2 (fun _ _ _ a b => a b)
theorem mj_X11_dies {v0 : Nat} {v1 v2 : Int32} {Z : jZ} {I : jI} {L : jL} {Q2 Q3 : Int32 → jI → jL → Prop} (h2 : f_X11_dies v0 v1 v2 Z I L Q2) (h1 : f_X11_dies v0 v1 v2 Z I L (fun r I L => Q2 r I L → Q3 r I L)) : f_X11_dies v0 v1 v2 Z I L Q3 := and_X11_dies h1 h2 (fun _ _ _ a b => a b)
theorem mj_X11_again {v0 : Nat} {v1 : Int32} {Z : jZ} {I : jI} {L : jL} {Q2 Q3 : Int32 → jI → jL → Prop} (h2 : f_X11_again v0 v1 Z I L Q2) (h1 : f_X11_again v0 v1 Z I L (fun r I L => Q2 r I L → Q3 r I L)) : f_X11_again v0 v1 Z I L Q3 := and_X11_again h1 h2 (fun _ _ _ a b => a b)
theorem mj_X11_stairs {v0 : Nat} {Z : jZ} {I : jI} {L : jL} {Q2 Q3 : Int32 → jI → jL → Prop} (h2 : f_X11_stairs v0 Z I L Q2) (h1 : f_X11_stairs v0 Z I L (fun r I L => Q2 r I L → Q3 r I L)) : f_X11_stairs v0 Z I L Q3 := and_X11_stairs h1 h2 (fun _ _ _ a b => a b)
end
