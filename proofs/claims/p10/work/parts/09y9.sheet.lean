/-! ===== sheet ===== -/
/-- an entry of the sheet -/
def shE (k v : Int32) : Int := max 0 (min 20 (if k = 0 then (v.toInt8.toInt32).toInt else if k = 1 then (v.toInt16.toInt32).toInt else v.toInt))
theorem shE_rg (k v : Int32) : 0 ≤ shE k v ∧ shE k v ≤ 20 := by
  unfold shE
  generalize (if k = 0 then (v.toInt8.toInt32).toInt else if k = 1 then (v.toInt16.toInt32).toInt else v.toInt) = z
  omega
/-- what a step asks by the sheet -/
def shG (k n f b : Int32) (i : Nat) : Int := if (i : Int) < n.toInt then shE k (f + Int32.ofNat i * b) else 0
theorem shG_rg (k n f b : Int32) (i : Nat) : 0 ≤ shG k n f b i ∧ shG k n f b i ≤ 20 := by
  unfold shG
  by_cases h : (i : Int) < n.toInt
  · rw [if_pos h]; exact shE_rg _ _
  · rw [if_neg h]; omega
def shS (g : Nat → Int) : Nat → Int
  | 0 => 0
  | i + 1 => shS g i + g i
theorem shS_rg {g : Nat → Int} (h : ∀ i, 0 ≤ g i ∧ g i ≤ 20) : ∀ i : Nat, 0 ≤ shS g i ∧ shS g i ≤ 20 * (i : Int) := by
  intro i
  induction i with
  | zero => exact ⟨by show (0 : Int) ≤ 0; omega, by show (0 : Int) ≤ 20 * ((0 : Nat) : Int); omega⟩
  | succ i ih =>
    have := h i
    constructor
    · show 0 ≤ shS g i + g i; omega
    · show shS g i + g i ≤ 20 * ((i + 1 : Nat) : Int); omega
/-- what sheet answers -/
def shetA (s : Int) (k n f b : Int32) : Int := if ¬ (0 ≤ k.toInt ∧ k.toInt ≤ 3 ∧ n.toInt ≤ 24) then -1 else if k.toInt = 3 then -3 else if n.toInt < 0 then -2 else shS (shG k n f b) s.toNat
theorem i32_st (f b : Int32) (i : Nat) : f + Int32.ofNat i * b + b = f + Int32.ofNat (i + 1) * b := by
  rw [Int32.ofNat_add, Int32.add_mul, show Int32.ofNat 1 * b = b from Int32.one_mul b, Int32.add_assoc]
theorem a_entryOf {Z : jZ} {I : jI} {L : jL} (v0 v1 : Int32) {Q : Int32 → jI → jL → Prop} (hQ : ∀ r : Int32, r.toInt = shE v0 v1 → Q r I L) : f_X11_entryOf v0 v1 Z I L Q := by
  have key : ∀ s0 : Int32, (s0.toInt = if v0 = 0 then (v1.toInt8.toInt32).toInt else if v0 = 1 then (v1.toInt16.toInt32).toInt else v1.toInt) → f_X11_entryOf_b20 Z Q s0 I L := fun s0 e => by
    unfold f_X11_entryOf_b20
    refine hQ _ ?_
    unfold shE
    rw [← e]
    exact i_max (show (0 : Int32).toInt = 0 from rfl) (i_min (show (20 : Int32).toInt = 20 from rfl) rfl)
  unfold f_X11_entryOf
  refine ⟨fun c => ⟨fun c1 => key _ ?_, fun c1 => key _ ?_⟩, fun c => key _ ?_⟩
  · rw [if_neg c, if_neg c1]
  · rw [if_neg c, if_pos c1]
  · rw [if_pos c]
theorem a_sumOfAsks {Z : jZ} {I : jI} {L : jL} {v0 uA : Nat} {g : Nat → Int} {s : Nat} (hA : jr Z v0 2 = some uA) (es : (I v0 9).toInt = (s : Int)) (hs : s ≤ 24) (hg : ∀ i, 0 ≤ g i ∧ g i ≤ 20) (ha : ∀ q, q < s → (I uA q).toInt = g q) {Q : Int32 → jI → jL → Prop} (hQ : ∀ r : Int32, r.toInt = shS g s → Q r I L) : f_X8_sumOfAsks v0 Z I L Q := by
  have key : ∀ (m i : Nat) (v1 v2 : Int32), v1.toInt = shS g i → v2.toInt = (i : Int) → i ≤ s → 25 ≤ m + i → f_X8_sumOfAsks_L4 Z Q m v0 v1 v2 I L := by
    intro m
    induction m with
    | zero => intro i v1 v2 e1 e2 h1 h2; exfalso; omega
    | succ m ih =>
      intro i v1 v2 e1 e2 h1 h2
      unfold f_X8_sumOfAsks_L4
      refine ⟨fun c => ?_, fun c => ?_⟩
      · have c := (i_le es e2).mp c
        have ei : i = s := by omega
        rw [ei] at e1
        exact hQ v1 e1
      have c := (not_congr (i_le es e2)).mp c
      intro b2 eb2
      cases hA.symm.trans eb2
      have n2 := i_nat e2 (by omega)
      have r1 := shS_rg hg i
      have r2 := hg i
      have a1 : (I uA v2.toNatClampNeg).toInt = g i := by rw [show v2.toNatClampNeg = i by omega]; exact ha i (by omega)
      refine ⟨vi_of e2 (by omega) (by omega), ?_⟩
      intro x4 e4 x5 e5
      exact ih (i + 1) x4 x5 (by rw [e4]; exact (i_add e1 a1 (by omega) (by omega)).trans (by show shS g i + g i = _; rfl)) (by rw [e5]; exact (i_add e2 (show (1 : Int32).toInt = 1 from rfl) (by omega) (by omega)).trans (by omega)) (by omega) (by omega)
  unfold f_X8_sumOfAsks
  exact ⟨25, key 25 0 0 0 rfl rfl (by omega) (by omega)⟩
theorem a_sheet {Z : jZ} {I0 : jI} {v0 uF uA : Nat} {v1 v3 v4 v5 v6 : Int32} {s : Nat} {Q : Int32 → jI → jL → Prop} (w0 : WD Z I0) (hF : jr Z v0 2 = some uF) (kF : jk Z uF 8) (hA : jr Z uF 2 = some uA) (kA : jk Z uA 14) (lA : jlen Z uA = 24) (hs : s ≤ 24)
    (hQ : ∀ (r : Int32) (I' : jI) (L' : jL), WD Z I' → FR Ws_X11_sheet Z I0 Z I' → ((v5 = 0 ∧ r.toInt = shS (shG v1 v6 v3 v4) s) ∨ (¬ v5 = 0 ∧ r.toInt = -3)) → Q r I' L') :
    ∀ (m i : Nat) (v7 : Int32) (I : jI) (L : jL), WD Z I → FR Ws_X11_sheet Z I0 Z I → (I uF 9).toInt = (s : Int) → v7.toInt = (i : Int) → i ≤ s → (∀ q, q < i → (I uA q).toInt = shG v1 v6 v3 v4 q) → 25 ≤ m + i → f_X11_sheet_L56 Z Q m v0 v1 v3 v4 v5 v6 v7 I L := by
  intro m
  induction m with
  | zero => intro i v7 I L w f e1 e2 h1 h2 h3; exfalso; omega
  | succ m ih =>
    intro i v7 I L w f e1 e2 h1 h2 h3
    unfold f_X11_sheet_L56
    intro b4 eb4
    cases hF.symm.trans eb4
    refine ⟨fun c => ?_, fun c => ?_⟩
    · have c := (i_le e1 e2).mp c
      have ei : i = s := by omega
      rw [ei] at h2
      refine ⟨fun c5 => ?_, fun c5 => hQ _ I L w f (Or.inr ⟨c5, rfl⟩)⟩
      intro b7 eb7
      cases hF.symm.trans eb7
      exact a_sumOfAsks hA e1 hs (shG_rg v1 v6 v3 v4) h2 (fun r er => hQ r I L w f (Or.inl ⟨c5, er⟩))
    have c := (not_congr (i_le e1 e2)).mp c
    have n7 := i_nat e2 (by omega)
    intro b15 eb15
    cases hF.symm.trans eb15
    intro b16 eb16
    cases hA.symm.trans eb16
    have key : ∀ s2 : Int32, s2.toInt = shG v1 v6 v3 v4 i → f_X11_sheet_b99 (f_X11_sheet_L56 Z Q m) Z Q v0 v1 v3 v4 v5 v6 v7 uA v7 s2 I L := by
      intro s2 es
      have rg2 := shG_rg v1 v6 v3 v4 i
      unfold f_X11_sheet_b99
      refine ⟨vi_of e2 (by omega) (by rw [lA]; omega), ?_⟩
      intro I2 eI2 x3 e3
      have w2 : WD Z I2 := by rw [eI2]; exact WD_putA w 8 2 kF hA kA rfl rfl (by decide) (by constructor <;> omega)
      have f2 : FR Ws_X11_sheet Z I Z I2 := by rw [eI2]; exact FR_upA w.2.1 kF hA kA rfl rfl (by decide)
      refine ih (i + 1) x3 I2 L w2 (f.trans w0.1 w0.2.1 f2) ?_ ?_ (by omega) (fun q hq => ?_) (by omega)
      · rw [f2.2.2.1 uF 8 9 kF (by decide) (by decide)]; exact e1
      · rw [e3]; exact (i_add e2 (show (1 : Int32).toInt = 1 from rfl) (by omega) (by omega)).trans (by omega)
      · rw [eI2]
        by_cases h : q = i
        · rw [h, show v7.toNatClampNeg = i by omega, jpI_at]; exact es
        · rw [jpI_off (by omega)]; exact h2 q (by omega)
    refine ⟨fun c6 => key 0 ?_, fun c6 => ?_⟩
    · have c6 := (i_le rfl e2).mp c6
      unfold shG; rw [if_neg (by omega)]; rfl
    have c6 := (not_congr (i_le rfl e2)).mp c6
    have ev7 : v7 = Int32.ofNat i := (i_eq e2 (i_nI (n := i) (by omega))).mpr rfl
    refine a_entryOf _ _ (fun r er => key r ?_)
    unfold shG; rw [if_pos (by omega), ← ev7]; exact er
theorem s9_X11_sheet {Z : jZ} {I : jI} {L : jL} (w : WD Z I) (v0 : Nat) (v1 v2 v3 v4 : Int32) (kv0 : jk Z v0 11) (uF : Nat) (huF : jr Z v0 2 = some uF) {Q : Int32 → jI → jL → Prop} (hQ : ∀ (r : Int32) (I' : jI) (L' : jL), WD Z I' → FR Ws_X11_sheet Z I Z I' → r.toInt = shetA (I uF 9).toInt v1 v2 v3 v4 → Q r I' L') : f_X11_sheet v0 v1 v2 v3 v4 Z I L Q := by
  have kF : jk Z uF 8 := by obtain ⟨b9, e9, k9⟩ := sh_o w.1 kv0 (j := 2) (k := 8) rfl; cases huF.symm.trans e9; exact k9
  have sz : 0 ≤ (I uF 9).toInt ∧ (I uF 9).toInt ≤ 24 := w.fld 8 9 kF (by decide)
  obtain ⟨uA, hA, kA, lA⟩ := sh_f w.1 kF (j := 2) (k := 14) (m := 24) rfl
  have go : ∀ v5 v6 : Int32, ((v5 = 0 ∧ v6 = v2 ∧ 0 ≤ v2.toInt ∧ ¬ v1.toInt = 3) ∨ (¬ v5 = 0 ∧ v1.toInt = 3)) → (0 ≤ v1.toInt ∧ v1.toInt ≤ 3 ∧ v2.toInt ≤ 24) → f_X11_sheet_b51 Z Q v0 v1 v3 v4 v5 v6 I L := by
    intro v5 v6 hh hr
    unfold f_X11_sheet_b51
    refine ⟨25, a_sheet (s := (I uF 9).toInt.toNat) w huF kF hA kA lA (by omega) (fun r I' L' w' f' p => hQ r I' L' w' f' ?_) 25 0 0 I L w FR.rf (by omega) rfl (by omega) (fun q hq => absurd hq (Nat.not_lt_zero q)) (by omega)⟩
    unfold shetA
    rw [if_neg (fun h => h hr)]
    rcases p with ⟨p1, p2⟩ | ⟨p1, p2⟩
    · rcases hh with ⟨h1, h2, h3, h4⟩ | ⟨h1, -⟩
      · rw [if_neg h4, if_neg (by omega), p2, h2]
      · exact absurd p1 h1
    · rcases hh with ⟨h1, -⟩ | ⟨h1, h2⟩
      · exact absurd h1 p1
      · rw [if_pos h2]; exact p2
  have bad : ¬ (0 ≤ v1.toInt ∧ v1.toInt ≤ 3 ∧ v2.toInt ≤ 24) → Q (-1 : Int32) I L := fun h => hQ _ I L w FR.rf (by unfold shetA; rw [if_pos h]; rfl)
  unfold f_X11_sheet
  refine ⟨fun c => bad (by have c := (i_lt (x := v1) (y := 0) rfl (show (0 : Int32).toInt = 0 from rfl)).mp c; omega), fun c => ⟨fun c1 => bad (by have c1 := (i_lt (x := 3) (y := v1) (show (3 : Int32).toInt = 3 from rfl) rfl).mp c1; omega), fun c1 => ⟨fun c2 => ?_, fun c2 => bad (by have c2 := (not_congr (i_le (x := v2) (y := 24) rfl (show (24 : Int32).toInt = 24 from rfl))).mp c2; omega)⟩⟩⟩
  have c := (not_congr (i_lt (x := v1) (y := 0) rfl (show (0 : Int32).toInt = 0 from rfl))).mp c
  have c1 := (not_congr (i_lt (x := 3) (y := v1) (show (3 : Int32).toInt = 3 from rfl) rfl)).mp c1
  have c2 := (i_le (x := v2) (y := 24) rfl (show (24 : Int32).toInt = 24 from rfl)).mp c2
  have hr : 0 ≤ v1.toInt ∧ v1.toInt ≤ 3 ∧ v2.toInt ≤ 24 := by omega
  refine ⟨fun c3 => ?_, fun c3 => ?_⟩
  · have c3 : ¬ v1.toInt = 3 := (not_congr (i_eq rfl (show (3 : Int32).toInt = 3 from rfl))).mp c3
    unfold f_X11_sheet_b27
    refine ⟨fun h => absurd rfl h, fun _ => ⟨fun c4 => ?_, fun c4 => ?_⟩⟩
    · have c4 := (i_le (x := 0) (y := v2) (show (0 : Int32).toInt = 0 from rfl) rfl).mp c4
      unfold f_X11_sheet_b41
      exact ⟨fun _ => go 0 v2 (Or.inl ⟨rfl, rfl, c4, c3⟩) hr, fun h => absurd rfl h⟩
    · have c4 := (not_congr (i_le (x := 0) (y := v2) (show (0 : Int32).toInt = 0 from rfl) rfl)).mp c4
      exact hQ _ I L w FR.rf (by unfold shetA; rw [if_neg (fun h => h hr), if_neg c3, if_pos (by omega)]; rfl)
  · have c3 : v1.toInt = 3 := (i_eq rfl (show (3 : Int32).toInt = 3 from rfl)).mp c3
    have n1 : ¬ (1 : Int32) = 0 := by decide
    unfold f_X11_sheet_b27
    refine ⟨fun _ => ?_, fun h => absurd h n1⟩
    unfold f_X11_sheet_b41
    exact ⟨fun h => absurd h n1, fun _ => go 1 0 (Or.inr ⟨n1, c3⟩) hr⟩
theorem m_sheet {Z : jZ} {I0 : jI} {v0 uA : Nat} {v1 v2 v3 v4 : Int32} {s : Nat} {Q : Int32 → jI → jL → Prop} (w0 : WD Z I0) (k0 : jk Z v0 12) (hA : jr Z v0 3 = some uA) (kA : jk Z uA 14) (lA : jlen Z uA = 24) (hs : s ≤ 24)
    (hQ : ∀ (r : Int32) (I' : jI) (L' : jL), WD Z I' → FR Ws_X12_sheet Z I0 Z I' → ((v1.toInt = 3 ∧ r.toInt = -3) ∨ (¬ v1.toInt = 3 ∧ r.toInt = shS (shG v1 v2 v3 v4) s)) → Q r I' L') :
    ∀ (m i : Nat) (v5 v6 v7 : Int32) (I : jI) (L : jL), WD Z I → FR Ws_X12_sheet Z I0 Z I → (I v0 0).toInt = (s : Int) → (v1.toInt = 3 ∨ v5.toInt = shS (shG v1 v2 v3 v4) i) → v6 = v3 + Int32.ofNat i * v4 → v7.toInt = (i : Int) → i ≤ s → 25 ≤ m + i → f_X12_sheet_L43 Z Q m v0 v1 v2 v4 v5 v6 v7 I L := by
  intro m
  induction m with
  | zero => intro i v5 v6 v7 I L w f e1 h5 h6 e2 h1 h3; exfalso; omega
  | succ m ih =>
    intro i v5 v6 v7 I L w f e1 h5 h6 e2 h1 h3
    unfold f_X12_sheet_L43
    refine ⟨fun c => ?_, fun c => ?_⟩
    · have c := (i_le e1 e2).mp c
      have ei : i = s := by omega
      rw [ei] at h5
      refine ⟨fun c3 => ?_, fun c3 => ?_⟩
      · have c3 := (not_congr (i_eq rfl (show (3 : Int32).toInt = 3 from rfl))).mp c3
        exact hQ _ I L w f (Or.inr ⟨c3, h5.resolve_left c3⟩)
      · have c3 := (i_eq rfl (show (3 : Int32).toInt = 3 from rfl)).mp c3
        exact hQ _ I L w f (Or.inl ⟨c3, rfl⟩)
    have c := (not_congr (i_le e1 e2)).mp c
    have n7 := i_nat e2 (by omega)
    have fin : ∀ s2 : Int32, (0 ≤ s2.toInt ∧ s2.toInt ≤ 20) → (v1.toInt = 3 ∨ s2.toInt = shG v1 v2 v3 v4 i) → f_X12_sheet_b109 (f_X12_sheet_L43 Z Q m) Z Q v0 v1 v2 v4 v5 v6 v7 uA v7 s2 I L := by
      intro s2 rg2 hg
      unfold f_X12_sheet_b109
      refine ⟨vi_of e2 (by omega) (by rw [lA]; omega), ?_⟩
      intro I2 eI2 b3 eb3
      cases hA.symm.trans eb3
      refine ⟨vi_of e2 (by omega) (by omega), ?_⟩
      intro x5 e5 x6 e6 x7 e7
      have w2 : WD Z I2 := by rw [eI2]; exact WD_putA w 12 3 k0 hA kA rfl rfl (by decide) (by constructor <;> omega)
      have f2 : FR Ws_X12_sheet Z I Z I2 := by rw [eI2]; exact FR_upA w.2.1 k0 hA kA rfl rfl (by decide)
      have a1 : I2 uA v7.toNatClampNeg = s2 := by rw [eI2]; exact jpI_at
      refine ih (i + 1) x5 x6 x7 I2 L w2 (f.trans w0.1 w0.2.1 f2) ?_ ?_ ?_ ?_ (by omega) (by omega)
      · rw [f2.2.2.1 v0 12 0 k0 (by decide) (by decide)]; exact e1
      · rcases hg with h | h
        · exact Or.inl h
        · rcases h5 with g | g
          · exact Or.inl g
          · have r1 := shS_rg (shG_rg v1 v2 v3 v4) i
            right
            rw [e5, a1]
            exact (i_add g h (by omega) (by omega)).trans (by show shS (shG v1 v2 v3 v4) i + shG v1 v2 v3 v4 i = _; rfl)
      · rw [e6, h6]; exact i32_st v3 v4 i
      · rw [e7]; exact (i_add e2 (show (1 : Int32).toInt = 1 from rfl) (by omega) (by omega)).trans (by omega)
    have z20 : 0 ≤ (0 : Int32).toInt ∧ (0 : Int32).toInt ≤ 20 := by decide
    have key : ∀ s0 : Int32, (s0.toInt = if v1 = 0 then (v6.toInt8.toInt32).toInt else if v1 = 1 then (v6.toInt16.toInt32).toInt else v6.toInt) → f_X12_sheet_b75 (f_X12_sheet_L43 Z Q m) Z Q v0 v1 v2 v4 v5 v6 v7 s0 I L := by
      intro s0 es
      unfold f_X12_sheet_b75
      intro b8 eb8
      cases hA.symm.trans eb8
      refine ⟨fun c3 => ?_, fun c3 => ⟨fun c4 => ?_, fun c4 => ?_⟩⟩
      · have c3 := (i_eq rfl (show (3 : Int32).toInt = 3 from rfl)).mp c3
        unfold f_X12_sheet_b94
        exact fin 0 z20 (Or.inl c3)
      · have c4 := (i_lt e2 rfl).mp c4
        have ee : (if (0 : Int32) < (if s0 < (20 : Int32) then s0 else (20 : Int32)) then (if s0 < (20 : Int32) then s0 else (20 : Int32)) else (0 : Int32)).toInt = shE v1 v6 := by
          unfold shE
          rw [← es]
          exact i_max (show (0 : Int32).toInt = 0 from rfl) (i_min (show (20 : Int32).toInt = 20 from rfl) rfl)
        refine fin _ (by rw [ee]; exact shE_rg v1 v6) (Or.inr ?_)
        unfold shG
        rw [if_pos c4, ← h6]; exact ee
      · have c4 := (not_congr (i_lt e2 rfl)).mp c4
        unfold f_X12_sheet_b94
        exact fin 0 z20 (Or.inr (by unfold shG; rw [if_neg c4]; rfl))
    refine ⟨fun c3 => ⟨fun c4 => key _ ?_, fun c4 => key _ ?_⟩, fun c3 => key _ ?_⟩
    · rw [if_neg c3, if_neg c4]
    · rw [if_neg c3, if_pos c4]
    · rw [if_pos c3]
theorem s9_X12_sheet {Z : jZ} {I : jI} {L : jL} (w : WD Z I) (v0 : Nat) (v1 v2 v3 v4 : Int32) (kv0 : jk Z v0 12) {Q : Int32 → jI → jL → Prop} (hQ : ∀ (r : Int32) (I' : jI) (L' : jL), WD Z I' → FR Ws_X12_sheet Z I Z I' → r.toInt = shetA (I v0 0).toInt v1 v2 v3 v4 → Q r I' L') : f_X12_sheet v0 v1 v2 v3 v4 Z I L Q := by
  have sz : 0 ≤ (I v0 0).toInt ∧ (I v0 0).toInt ≤ 24 := w.fld 12 0 kv0 (by decide)
  obtain ⟨uA, hA, kA, lA⟩ := sh_f w.1 kv0 (j := 3) (k := 14) (m := 24) rfl
  unfold f_X12_sheet
  intro I16 e16
  have w16 : WD Z I16 := by rw [e16]; exact WD_putF w 12 22 kv0 (by decide) (by decide) trivial
  have f16 : FR Ws_X12_sheet Z I Z I16 := by rw [e16]; exact FR_putF kv0 (by decide) (by decide)
  have es16 : (I16 v0 0).toInt = (I v0 0).toInt := by rw [f16.2.2.1 v0 12 0 kv0 (by decide) (by decide)]
  have go : (0 ≤ v1.toInt ∧ v1.toInt ≤ 3 ∧ v2.toInt ≤ 24) → (v1.toInt = 3 ∨ 0 ≤ v2.toInt) → f_X12_sheet_b34 Z Q v0 v1 v2 v3 v4 I16 L := by
    intro hr hh
    unfold f_X12_sheet_b34
    refine ⟨25, m_sheet (v3 := v3) (s := (I v0 0).toInt.toNat) w kv0 hA kA lA (by omega) (fun r I' L' w' f' p => hQ r I' L' w' f' ?_) 25 0 0 v3 0 I16 L w16 f16 (by omega) (Or.inr rfl) ?_ rfl (by omega) (by omega)⟩
    · unfold shetA
      rw [if_neg (fun h => h hr)]
      rcases p with ⟨p1, p2⟩ | ⟨p1, p2⟩
      · rw [if_pos p1]; exact p2
      · rw [if_neg p1, if_neg (by omega)]; exact p2
    · rw [show Int32.ofNat 0 * v4 = 0 from Int32.zero_mul, Int32.add_zero]
  refine s_X12_in w16 _ _ _ (fun r23 p => ?_)
  have z3 : (3 : Int32).toInt = 3 := rfl
  have z0 : (0 : Int32).toInt = 0 := rfl
  refine ⟨fun c => ?_, fun c => ⟨fun c2 => ⟨fun c3 => ?_, fun c3 => ⟨fun c4 => ?_, fun c4 => ?_⟩⟩, fun c2 => ?_⟩⟩
  · have c := (i_eq rfl z0).mp c
    exact hQ _ I16 L w16 f16 (by unfold shetA; rw [if_pos (by omega)]; rfl)
  · have c := (not_congr (i_eq rfl z0)).mp c
    have c2 := (i_le (x := v2) (y := 24) rfl (show (24 : Int32).toInt = 24 from rfl)).mp c2
    have c3 := (i_le (x := 3) (y := v1) z3 rfl).mp c3
    exact go (by omega) (Or.inl (by omega))
  · have c := (not_congr (i_eq rfl z0)).mp c
    have c2 := (i_le (x := v2) (y := 24) rfl (show (24 : Int32).toInt = 24 from rfl)).mp c2
    have c4 := (i_le (x := 0) (y := v2) z0 rfl).mp c4
    exact go (by omega) (Or.inr c4)
  · have c := (not_congr (i_eq rfl z0)).mp c
    have c2 := (i_le (x := v2) (y := 24) rfl (show (24 : Int32).toInt = 24 from rfl)).mp c2
    have c3 := (not_congr (i_le (x := 3) (y := v1) z3 rfl)).mp c3
    have c4 := (not_congr (i_le (x := 0) (y := v2) z0 rfl)).mp c4
    exact hQ _ I16 L w16 f16 (by unfold shetA; rw [if_neg (fun h => h (by omega)), if_neg (by omega), if_pos (by omega)]; rfl)
  · have c2 := (not_congr (i_le (x := v2) (y := 24) rfl (show (24 : Int32).toInt = 24 from rfl))).mp c2
    exact hQ _ I16 L w16 f16 (by unfold shetA; rw [if_pos (by omega)]; rfl)
theorem shetA_c {s s' r r' : Int} {k n f b : Int32} (h : r = shetA s k n f b) (h' : r' = shetA s' k n f b) (e : s = s') : r = r' := by rw [h, h', e]
