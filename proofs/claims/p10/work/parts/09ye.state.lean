/-! ===== STATE of each STEP on both sides: set, wears, whole, mends ===== -/
theorem nz {r : Int32} (c : ¬ r = 0) : ¬ r.toInt = 0 := (not_congr (i_eq rfl (show (0 : Int32).toInt = 0 from rfl))).mp c
theorem yz {r : Int32} (c : r = 0) : r.toInt = 0 := (i_eq rfl (show (0 : Int32).toInt = 0 from rfl)).mp c
/-- set: of n STEPS, with STATES S and ASKS A -/
def SETr (n : Int) (S S' A A' : Nat → Int32) (v1 v2 v3 r : Int32) : Prop :=
  ((0 ≤ v1.toInt ∧ v1.toInt < n) ∧ v2.toInt = 0 ∧ (0 ≤ v3.toInt ∧ v3.toInt ≤ 20) ∧ A' = upd A v1.toNatClampNeg v3 ∧ S' = S ∧ r = A v1.toNatClampNeg) ∨
  ((0 ≤ v1.toInt ∧ v1.toInt < n) ∧ v2.toInt = 1 ∧ (0 ≤ v3.toInt ∧ v3.toInt ≤ 9) ∧ S' = upd S v1.toNatClampNeg v3 ∧ A' = A ∧ r = S v1.toNatClampNeg) ∨
  (r.toInt = -1 ∧ ¬ ((0 ≤ v1.toInt ∧ v1.toInt < n) ∧ v2.toInt = 0 ∧ (0 ≤ v3.toInt ∧ v3.toInt ≤ 20)) ∧ ¬ ((0 ≤ v1.toInt ∧ v1.toInt < n) ∧ v2.toInt = 1 ∧ (0 ≤ v3.toInt ∧ v3.toInt ≤ 9)) ∧ S' = S ∧ A' = A)
theorem s13_X11_set {Z : jZ} {I : jI} {L : jL} (w : WD Z I) (v0 : Nat) (v1 v2 v3 : Int32) (kv0 : jk Z v0 11) (uF : Nat) (huF : jr Z v0 2 = some uF) (uS : Nat) (huS : jr Z uF 1 = some uS) (uA : Nat) (huA : jr Z uF 2 = some uA) {Q : Int32 → jI → jL → Prop} (hQ : ∀ (r : Int32) (I' : jI) (L' : jL), WD Z I' → FR Ws_X11_set Z I Z I' → SETr (I uF 9).toInt (I uS) (I' uS) (I uA) (I' uA) v1 v2 v3 r → Q r I' L') : f_X11_set v0 v1 v2 v3 Z I L Q := by
  obtain ⟨x, ex, kF⟩ := sh_o w.1 kv0 (j := 2) (k := 8) rfl
  cases huF.symm.trans ex
  obtain ⟨x, ex, kS, lS⟩ := sh_f w.1 kF (j := 1) (k := 14) (m := 24) rfl
  cases huS.symm.trans ex
  obtain ⟨x, ex, kA, lA⟩ := sh_f w.1 kF (j := 2) (k := 14) (m := 24) rfl
  cases huA.symm.trans ex
  have nSA : uS ≠ uA := ds_ne w.2.1 kF huS huA rfl rfl (by decide)
  have z0 : (0 : Int32).toInt = 0 := rfl
  have z1 : (1 : Int32).toInt = 1 := rfl
  have z9 : (9 : Int32).toInt = 9 := rfl
  have z20 : (20 : Int32).toInt = 20 := rfl
  have bad : ¬ ((0 ≤ v1.toInt ∧ v1.toInt < (I uF 9).toInt) ∧ v2.toInt = 0 ∧ (0 ≤ v3.toInt ∧ v3.toInt ≤ 20)) → ¬ ((0 ≤ v1.toInt ∧ v1.toInt < (I uF 9).toInt) ∧ v2.toInt = 1 ∧ (0 ≤ v3.toInt ∧ v3.toInt ≤ 9)) → Q (-1 : Int32) I L := fun h h' => hQ _ I L w FR.rf (Or.inr (Or.inr ⟨rfl, h, h', rfl, rfl⟩))
  unfold f_X11_set
  intro b11 e11
  cases huF.symm.trans e11
  refine s_X8_has w uF v1 kF (fun r p => ⟨fun c => ?_, fun c => ?_⟩)
  · have c := yz c
    exact bad (by omega) (by omega)
  have c := nz c
  have n1 := i_nat (x := v1) rfl (by omega)
  refine ⟨fun c3 => ?_, fun c3 => ?_⟩
  rotate_left
  · have c3 := (not_congr (i_le (x := 0) (y := v3) z0 rfl)).mp c3
    exact bad (by omega) (by omega)
  have c3 := (i_le (x := 0) (y := v3) z0 rfl).mp c3
  have b54 : ¬ (v2.toInt = 0 ∧ v3.toInt ≤ 20) → f_X11_set_b54 Z Q v0 v1 v2 v3 (-1 : Int32) I L := fun hn => by
    unfold f_X11_set_b54
    refine ⟨fun c2 => ?_, fun c2 => ⟨fun c4 => ?_, fun c4 => ?_⟩⟩
    · have c2 := (not_congr (i_eq (x := v2) (y := 1) rfl z1)).mp c2
      exact bad (by omega) (by omega)
    · have c4 := (i_lt (x := 9) (y := v3) z9 rfl).mp c4
      exact bad (by omega) (by omega)
    · have c2 := (i_eq (x := v2) (y := 1) rfl z1).mp c2
      have c4 := (not_congr (i_lt (x := 9) (y := v3) z9 rfl)).mp c4
      intro b3 e3
      cases huF.symm.trans e3
      intro b4 e4
      cases huS.symm.trans e4
      refine ⟨vi_of rfl (by omega) (by omega), ?_⟩
      intro x6 e6 b7 e7
      cases huF.symm.trans e7
      intro b8 e8
      cases huS.symm.trans e8
      refine ⟨vi_of rfl (by omega) (by omega), ?_⟩
      intro I10 e10
      refine hQ x6 I10 L ?_ ?_ (Or.inr (Or.inl ⟨by omega, by omega, by omega, ?_, ?_, e6⟩))
      · rw [e10]; exact WD_putA w 8 1 kF huS kS rfl rfl (by decide) trivial
      · rw [e10]; exact FR_upA w.2.1 kF huS kS rfl rfl (by decide)
      · rw [e10]; exact va_up_self _ _ _
      · rw [e10]; exact jpI_ne (fun e => nSA e.symm)
  refine ⟨fun c2 => ?_, fun c2 => ⟨fun c4 => ?_, fun c4 => ?_⟩⟩
  · have c2 := (not_congr (i_eq (x := v2) (y := 0) rfl z0)).mp c2
    exact b54 (by omega)
  · have c4 := (i_lt (x := 20) (y := v3) z20 rfl).mp c4
    exact b54 (by omega)
  · have c2 := (i_eq (x := v2) (y := 0) rfl z0).mp c2
    have c4 := (not_congr (i_lt (x := 20) (y := v3) z20 rfl)).mp c4
    intro b3 e3
    cases huF.symm.trans e3
    intro b4 e4
    cases huA.symm.trans e4
    refine ⟨vi_of rfl (by omega) (by omega), ?_⟩
    intro x6 e6 b7 e7
    cases huF.symm.trans e7
    intro b8 e8
    cases huA.symm.trans e8
    refine ⟨vi_of rfl (by omega) (by omega), ?_⟩
    intro I10 e10
    refine hQ x6 I10 L ?_ ?_ (Or.inl ⟨by omega, by omega, by omega, ?_, ?_, e6⟩)
    · rw [e10]; exact WD_putA w 8 2 kF huA kA rfl rfl (by decide) ⟨by omega, by omega⟩
    · rw [e10]; exact FR_upA w.2.1 kF huA kA rfl rfl (by decide)
    · rw [e10]; exact va_up_self _ _ _
    · rw [e10]; exact jpI_ne nSA
theorem s13_X12_set {Z : jZ} {I : jI} {L : jL} (w : WD Z I) (v0 : Nat) (v1 v2 v3 : Int32) (kv0 : jk Z v0 12) (uS : Nat) (huS : jr Z v0 2 = some uS) (uA : Nat) (huA : jr Z v0 3 = some uA) {Q : Int32 → jI → jL → Prop} (hQ : ∀ (r : Int32) (I' : jI) (L' : jL), WD Z I' → FR Ws_X12_set Z I Z I' → SETr (I v0 0).toInt (I uS) (I' uS) (I uA) (I' uA) v1 v2 v3 r → Q r I' L') : f_X12_set v0 v1 v2 v3 Z I L Q := by
  obtain ⟨x, ex, kS, lS⟩ := sh_f w.1 kv0 (j := 2) (k := 14) (m := 24) rfl
  cases huS.symm.trans ex
  obtain ⟨x, ex, kA, lA⟩ := sh_f w.1 kv0 (j := 3) (k := 14) (m := 24) rfl
  cases huA.symm.trans ex
  have nSA : uS ≠ uA := ds_ne w.2.1 kv0 huS huA rfl rfl (by decide)
  have nS : uS ≠ v0 := ks_ne kS kv0 (by decide)
  have nA : uA ≠ v0 := ks_ne kA kv0 (by decide)
  have z0 : (0 : Int32).toInt = 0 := rfl
  have z1 : (1 : Int32).toInt = 1 := rfl
  have z9 : (9 : Int32).toInt = 9 := rfl
  have z20 : (20 : Int32).toInt = 20 := rfl
  have t0 : 0 ≤ (I v0 0).toInt ∧ (I v0 0).toInt ≤ 24 := w.fld 12 0 kv0 (by decide)
  unfold f_X12_set
  intro I1 e1
  have w1 : WD Z I1 := by rw [e1]; exact WD_putF w 12 22 kv0 (by decide) (by decide) trivial
  have f1 : FR Ws_X12_set Z I Z I1 := by rw [e1]; exact FR_putF kv0 (by decide) (by decide)
  have oS : I1 uS = I uS := by rw [e1]; exact jpI_ne nS
  have oA : I1 uA = I uA := by rw [e1]; exact jpI_ne nA
  have s0 : I1 v0 0 = I v0 0 := by rw [e1]; exact jpI_o (by decide)
  have bad : ¬ ((0 ≤ v1.toInt ∧ v1.toInt < (I v0 0).toInt) ∧ v2.toInt = 0 ∧ (0 ≤ v3.toInt ∧ v3.toInt ≤ 20)) → ¬ ((0 ≤ v1.toInt ∧ v1.toInt < (I v0 0).toInt) ∧ v2.toInt = 1 ∧ (0 ≤ v3.toInt ∧ v3.toInt ≤ 9)) → Q (-1 : Int32) I1 L := fun h h' => hQ _ I1 L w1 f1 (Or.inr (Or.inr ⟨rfl, h, h', oS, oA⟩))
  refine s_X12_isStep w1 v0 v1 kv0 (fun r p => ⟨fun c => ?_, fun c => ?_⟩)
  · rw [s0] at p
    have c := yz c
    exact bad (by omega) (by omega)
  rw [s0] at p
  have c := nz c
  have n1 := i_nat (x := v1) rfl (by omega)
  refine s_X12_in w1 _ _ _ (fun r2 p2 => ⟨fun c2 => ?_, fun c2 => ?_⟩)
  · have c2 := yz c2
    exact bad (by omega) (by omega)
  have c2 := nz c2
  have fin : ∀ s2 : Int32, s2.toInt = (if v2.toInt = 0 then 20 else 9) → f_X12_set_b35 Z Q v0 v1 v2 v3 v3 (0 : Int32) s2 I1 L := fun s2 hs2 => by
    unfold f_X12_set_b35
    refine s_X12_in w1 _ _ _ (fun r3 p3 => ⟨fun c3 => ?_, fun c3 => ?_⟩)
    rotate_left
    · have c3 := yz c3
      refine bad (fun h => ?_) (fun h => ?_)
      · rw [if_pos h.2.1] at hs2; omega
      · rw [if_neg (by omega)] at hs2; omega
    have c3 := nz c3
    unfold f_X12_set_b62
    refine ⟨fun c4 => ?_, fun c4 => ?_⟩
    · have c4 := nz c4
      rw [if_neg c4] at hs2
      intro b17 e17
      cases huS.symm.trans e17
      refine ⟨vi_of rfl (by omega) (by omega), fun _ => ?_, fun c5 => absurd (yz c5) c4⟩
      intro b2 e2
      cases huS.symm.trans e2
      refine ⟨vi_of rfl (by omega) (by omega), ?_⟩
      intro I4 e4
      refine hQ _ I4 L ?_ ?_ (Or.inr (Or.inl ⟨by omega, by omega, by omega, ?_, ?_, by rw [oS]⟩))
      · rw [e4]; exact WD_putA w1 12 2 kv0 huS kS rfl rfl (by decide) ⟨by omega, by omega⟩
      · refine f1.trans w.1 w.2.1 ?_
        rw [e4]; exact FR_upA w1.2.1 kv0 huS kS rfl rfl (by decide)
      · rw [e4, ← oS]; exact va_up_self _ _ _
      · rw [e4, jpI_ne (fun e => nSA e.symm)]; exact oA
    · have c4 := yz c4
      rw [if_pos c4] at hs2
      intro b17 e17
      cases huA.symm.trans e17
      refine ⟨vi_of rfl (by omega) (by omega), fun c5 => absurd c4 (nz c5), fun _ => ?_⟩
      intro b2 e2
      cases huA.symm.trans e2
      refine ⟨vi_of rfl (by omega) (by omega), ?_⟩
      intro I4 e4
      refine hQ _ I4 L ?_ ?_ (Or.inl ⟨by omega, by omega, by omega, ?_, ?_, by rw [oA]⟩)
      · rw [e4]; exact WD_putA w1 12 3 kv0 huA kA rfl rfl (by decide) ⟨by omega, by omega⟩
      · refine f1.trans w.1 w.2.1 ?_
        rw [e4]; exact FR_upA w1.2.1 kv0 huA kA rfl rfl (by decide)
      · rw [e4, ← oA]; exact va_up_self _ _ _
      · rw [e4, jpI_ne nSA]; exact oS
  refine ⟨fun c3 => fin 9 ?_, fun c3 => fin 20 ?_⟩
  · rw [if_neg (nz c3)]; rfl
  · rw [if_pos (yz c3)]; rfl
/-- rows that are the same for the STEPS there are -/
def ARr (n : Int) (S T : Nat → Int32) : Prop := ∀ s : Nat, (s : Int) < n → S s = T s
theorem ARr_upd {n : Int} {S T : Nat → Int32} {i : Nat} {v : Int32} (h : ARr n S T) : ARr n (upd S i v) (upd T i v) := fun s hs => by
  by_cases c : s = i
  · subst c
    exact (if_pos rfl : upd S s v s = v).trans (if_pos rfl : upd T s v s = v).symm
  · exact (if_neg c : upd S i v s = S s).trans ((h s hs).trans (if_neg c : upd T i v s = T s).symm)
theorem SETr_eq {n m : Int} {S S' A A' T T' C C' : Nat → Int32} {v1 v2 v3 r q : Int32} (e : n = m) (h : SETr n S S' A A' v1 v2 v3 r) (g : SETr m T T' C C' v1 v2 v3 q) (hs : ARr n S T) : ARr n S' T' := by
  subst e
  unfold SETr at h g
  rcases h with h | h | h
  · rcases g with g | g | g
    · rw [h.2.2.2.2.1, g.2.2.2.2.1]; exact hs
    · omega
    · exact absurd ⟨h.1, h.2.1, h.2.2.1⟩ g.2.1
  · rcases g with g | g | g
    · omega
    · rw [h.2.2.2.1, g.2.2.2.1]; exact ARr_upd hs
    · exact absurd ⟨h.1, h.2.1, h.2.2.1⟩ g.2.2.1
  · rcases g with g | g | g
    · exact absurd ⟨g.1, g.2.1, g.2.2.1⟩ h.2.1
    · exact absurd ⟨g.1, g.2.1, g.2.2.1⟩ h.2.2.1
    · rw [h.2.2.2.1, g.2.2.2.1]; exact hs
/-- wears -/
def weG (S : Nat → Int32) (v : Int) (i : Nat) : Int := max 0 ((S i).toInt - v)
def WEr (n : Int) (S S' : Nat → Int32) (v1 r : Int32) : Prop := (r.toInt = -1 ∧ ¬ (0 ≤ v1.toInt ∧ v1.toInt ≤ 9) ∧ S' = S) ∨ ((0 ≤ v1.toInt ∧ v1.toInt ≤ 9) ∧ r.toInt = shS (weG S v1.toInt) n.toNat ∧ ∀ s : Nat, (s : Int) < n → (S' s).toInt = weG S v1.toInt s)
theorem shS_cg {g h : Nat → Int} : ∀ n : Nat, (∀ i, i < n → g i = h i) → shS g n = shS h n := by
  intro n
  induction n with
  | zero => intro _; rfl
  | succ n ih =>
    intro e
    show shS g n + g n = shS h n + h n
    rw [ih (fun i hi => e i (by omega)), e n (by omega)]
theorem WEr_eq {n m : Int} {S S' T T' : Nat → Int32} {v r q : Int32} (e : n = m) (h0 : 0 ≤ n) (h : WEr n S S' v r) (g : WEr m T T' v q) (hs : ARr n S T) : r.toInt = q.toInt ∧ ARr n S' T' := by
  subst e
  rcases h with ⟨h1, h2, h3⟩ | ⟨h1, h2, h3⟩
  · rcases g with ⟨g1, g2, g3⟩ | ⟨g1, g2, g3⟩
    · exact ⟨h1.trans g1.symm, by rw [h3, g3]; exact hs⟩
    · exact absurd g1 h2
  · rcases g with ⟨g1, g2, g3⟩ | ⟨g1, g2, g3⟩
    · exact absurd h1 g2
    · refine ⟨?_, fun s hq => (i_eq rfl rfl).mpr ?_⟩
      · rw [h2, g2]
        exact shS_cg _ (fun i hi => by unfold weG; rw [hs i (by omega)])
      · rw [h3 s hq, g3 s hq]
        unfold weG
        rw [hs s hq]
theorem i_wear {x v : Int32} (hx : 0 ≤ x.toInt ∧ x.toInt ≤ 9) (hv : 0 ≤ v.toInt ∧ v.toInt ≤ 9) : (if (0 : Int32) < (x - v) then (x - v) else (0 : Int32)).toInt = max 0 (x.toInt - v.toInt) := by
  have e : (x - v).toInt = x.toInt - v.toInt := i_sub rfl rfl (by omega) (by omega)
  exact i_max (show (0 : Int32).toInt = 0 from rfl) e
theorem we_L16 {Z : jZ} {J : jI} (wJ : WD Z J) (v0 : Nat) (v1 : Int32) (kv0 : jk Z v0 11) (uF : Nat) (huF : jr Z v0 2 = some uF) (kF : jk Z uF 8) (uS : Nat) (huS : jr Z uF 1 = some uS) (kS : jk Z uS 14) (n : Nat) (en : (J uF 9).toInt = (n : Int)) (hn : n ≤ 24) (hv : 0 ≤ v1.toInt ∧ v1.toInt ≤ 9) (hb : ∀ s : Nat, s < n → 0 ≤ (J uS s).toInt ∧ (J uS s).toInt ≤ 9) {Q : Int32 → jI → jL → Prop}
    (hQ : ∀ (r : Int32) (I : jI) (L : jL), WD Z I → FR [(8, 1)] Z J Z I → r.toInt = shS (weG (J uS) v1.toInt) n → (∀ s : Nat, s < n → (I uS s).toInt = weG (J uS) v1.toInt s) → Q r I L) :
    ∀ (m i : Nat) (v2 v3 : Int32) (I : jI) (L : jL), WD Z I → FR [(8, 1)] Z J Z I → v3.toInt = (i : Int) → i ≤ n → v2.toInt = shS (weG (J uS) v1.toInt) i → (∀ s : Nat, s < i → (I uS s).toInt = weG (J uS) v1.toInt s) → (∀ s : Nat, i ≤ s → I uS s = J uS s) → n + 1 ≤ m + i → f_X11_wears_L16 Z Q m v0 v1 v2 v3 I L := by
  have hg : ∀ i, i < n → 0 ≤ weG (J uS) v1.toInt i ∧ weG (J uS) v1.toInt i ≤ 9 := fun i hi => by
    have := hb i hi
    unfold weG
    omega
  have hS : ∀ i : Nat, i ≤ n → 0 ≤ shS (weG (J uS) v1.toInt) i ∧ shS (weG (J uS) v1.toInt) i ≤ 9 * (i : Int) := by
    intro i
    induction i with
    | zero => intro _; exact ⟨by show (0 : Int) ≤ 0; omega, by show (0 : Int) ≤ 9 * 0; omega⟩
    | succ i ih =>
      intro hi
      have h1 := ih (by omega)
      have h2 := hg i (by omega)
      show 0 ≤ shS (weG (J uS) v1.toInt) i + weG (J uS) v1.toInt i ∧ shS (weG (J uS) v1.toInt) i + weG (J uS) v1.toInt i ≤ 9 * ((i + 1 : Nat) : Int)
      omega
  have z1 : (1 : Int32).toInt = 1 := rfl
  intro m
  induction m with
  | zero => intro i v2 v3 I L w f e1 e2 e3 e4 e5 e6; exfalso; omega
  | succ m ih =>
    intro i v2 v3 I L w f e1 e2 e3 e4 e5 e6
    have s9 : (I uF 9).toInt = (n : Int) := by rw [f.2.2.1 uF 8 9 kF (by decide) (by decide)]; exact en
    unfold f_X11_wears_L16
    intro b1 h1
    cases huF.symm.trans h1
    refine ⟨fun c => ?_, fun c => ?_⟩
    · have c := (i_le s9 e1).mp c
      have ei : i = n := by omega
      subst ei
      exact hQ v2 I L w f e3 e4
    have c := (not_congr (i_le s9 e1)).mp c
    have n3 := i_nat e1 (by omega)
    have n3 : v3.toNatClampNeg = i := by omega
    intro b3 h3
    cases huF.symm.trans h3
    intro b4 h4
    cases huS.symm.trans h4
    intro b5 h5
    cases huF.symm.trans h5
    intro b6 h6
    cases huS.symm.trans h6
    refine ⟨vi_of e1 (by omega) (by omega), vi_of e1 (by omega) (by omega), ?_⟩
    intro I9 e9
    rw [n3] at e9
    have w9 : WD Z I9 := by rw [e9]; exact WD_putA w 8 1 kF huS kS rfl rfl (by decide) trivial
    have f9 : FR [(8, 1)] Z J Z I9 := f.trans wJ.1 wJ.2.1 (by rw [e9]; exact FR_upA w.2.1 kF huS kS rfl rfl List.mem_cons_self)
    have g9 : (I9 uS i).toInt = weG (J uS) v1.toInt i := by
      rw [e9, jpI_at, e5 i (by omega)]
      exact i_wear (hb i (by omega)) hv
    intro b10 h10
    cases huF.symm.trans h10
    intro b11 h11
    cases huS.symm.trans h11
    refine ⟨vi_of e1 (by omega) (by omega), ?_⟩
    intro x13 e13 x14 e14
    rw [n3] at e13
    have hi1 := hS i (by omega)
    have hi2 := hg i (by omega)
    have t13 : x13.toInt = shS (weG (J uS) v1.toInt) (i + 1) := by
      rw [e13]
      show _ = shS (weG (J uS) v1.toInt) i + weG (J uS) v1.toInt i
      exact i_add e3 g9 (by omega) (by omega)
    have t14 : x14.toInt = ((i + 1 : Nat) : Int) := by
      rw [e14]
      exact (i_add e1 z1 (by omega) (by omega)).trans (by omega)
    refine ih (i + 1) x13 x14 I9 L w9 f9 t14 (by omega) t13 (fun s hs => ?_) (fun s hs => ?_) (by omega)
    · by_cases q : s = i
      · rw [q]; exact g9
      · rw [e9, jpI_off q]; exact e4 s (by omega)
    · rw [e9, jpI_off (by omega)]; exact e5 s (by omega)
theorem s13_X11_wears {Z : jZ} {I : jI} {L : jL} (w : WD Z I) (v0 : Nat) (v1 : Int32) (kv0 : jk Z v0 11) (uF : Nat) (huF : jr Z v0 2 = some uF) (uS : Nat) (huS : jr Z uF 1 = some uS) (hb : ∀ s : Nat, (s : Int) < (I uF 9).toInt → 0 ≤ (I uS s).toInt ∧ (I uS s).toInt ≤ 9) {Q : Int32 → jI → jL → Prop} (hQ : ∀ (r : Int32) (I' : jI) (L' : jL), WD Z I' → FR Ws_X11_wears Z I Z I' → WEr (I uF 9).toInt (I uS) (I' uS) v1 r → Q r I' L') : f_X11_wears v0 v1 Z I L Q := by
  obtain ⟨x, ex, kF⟩ := sh_o w.1 kv0 (j := 2) (k := 8) rfl
  cases huF.symm.trans ex
  obtain ⟨x, ex, kS, lS⟩ := sh_f w.1 kF (j := 1) (k := 14) (m := 24) rfl
  cases huS.symm.trans ex
  have z0 : (0 : Int32).toInt = 0 := rfl
  have z9 : (9 : Int32).toInt = 9 := rfl
  have t9 : 0 ≤ (I uF 9).toInt ∧ (I uF 9).toInt ≤ 24 := w.fld 8 9 kF (by decide)
  have bad : ¬ (0 ≤ v1.toInt ∧ v1.toInt ≤ 9) → Q (-1 : Int32) I L := fun h => hQ _ I L w FR.rf (Or.inl ⟨rfl, h, rfl⟩)
  unfold f_X11_wears
  refine ⟨fun c => bad (by have c := (i_lt (x := v1) (y := 0) rfl z0).mp c; omega), fun c => ⟨fun c2 => ?_, fun c2 => bad (by have c2 := (not_congr (i_le (x := v1) (y := 9) rfl z9)).mp c2; omega)⟩⟩
  have c := (not_congr (i_lt (x := v1) (y := 0) rfl z0)).mp c
  have c2 := (i_le (x := v1) (y := 9) rfl z9).mp c2
  obtain ⟨n, en⟩ : ∃ n : Nat, (I uF 9).toInt = (n : Int) := ⟨(I uF 9).toInt.toNat, by omega⟩
  refine ⟨n + 1, we_L16 w v0 v1 kv0 uF huF kF uS huS kS n en (by omega) ⟨by omega, by omega⟩ (fun s hs => hb s (by omega)) (fun r I' L' w' f' h1 h2 => ?_) (n + 1) 0 0 0 I L w FR.rf rfl (by omega) rfl (fun s hs => absurd hs (by omega)) (fun _ _ => rfl) (by omega)⟩
  refine hQ r I' L' w' (f'.mono (by decide)) (Or.inr ⟨⟨by omega, by omega⟩, ?_, fun s hs => h2 s (by omega)⟩)
  rw [h1, en]
  rfl
theorem we_L21 {Z : jZ} {J : jI} (wJ : WD Z J) (v0 : Nat) (v1 : Int32) (kv0 : jk Z v0 12) (uS : Nat) (huS : jr Z v0 2 = some uS) (kS : jk Z uS 14) (n : Nat) (en : (J v0 0).toInt = (n : Int)) (hn : n ≤ 24) (hv : 0 ≤ v1.toInt ∧ v1.toInt ≤ 9) (hb : ∀ s : Nat, s < n → 0 ≤ (J uS s).toInt ∧ (J uS s).toInt ≤ 9) {Q : Int32 → jI → jL → Prop}
    (hQ : ∀ (r : Int32) (I : jI) (L : jL), WD Z I → FR [(12, 2)] Z J Z I → r.toInt = shS (weG (J uS) v1.toInt) n → (∀ s : Nat, s < n → (I uS s).toInt = weG (J uS) v1.toInt s) → Q r I L) :
    ∀ (m i : Nat) (v2 v3 : Int32) (I : jI) (L : jL), WD Z I → FR [(12, 2)] Z J Z I → v3.toInt = (i : Int) → i ≤ n → v2.toInt = shS (weG (J uS) v1.toInt) i → (∀ s : Nat, s < i → (I uS s).toInt = weG (J uS) v1.toInt s) → (∀ s : Nat, i ≤ s → I uS s = J uS s) → n + 1 ≤ m + i → f_X12_wears_L21 Z Q m v0 v1 v2 v3 I L := by
  have hg : ∀ i, i < n → 0 ≤ weG (J uS) v1.toInt i ∧ weG (J uS) v1.toInt i ≤ 9 := fun i hi => by
    have := hb i hi
    unfold weG
    omega
  have hS : ∀ i : Nat, i ≤ n → 0 ≤ shS (weG (J uS) v1.toInt) i ∧ shS (weG (J uS) v1.toInt) i ≤ 9 * (i : Int) := by
    intro i
    induction i with
    | zero => intro _; exact ⟨by show (0 : Int) ≤ 0; omega, by show (0 : Int) ≤ 9 * 0; omega⟩
    | succ i ih =>
      intro hi
      have h1 := ih (by omega)
      have h2 := hg i (by omega)
      show 0 ≤ shS (weG (J uS) v1.toInt) i + weG (J uS) v1.toInt i ∧ shS (weG (J uS) v1.toInt) i + weG (J uS) v1.toInt i ≤ 9 * ((i + 1 : Nat) : Int)
      omega
  have z1 : (1 : Int32).toInt = 1 := rfl
  intro m
  induction m with
  | zero => intro i v2 v3 I L w f e1 e2 e3 e4 e5 e6; exfalso; omega
  | succ m ih =>
    intro i v2 v3 I L w f e1 e2 e3 e4 e5 e6
    have s9 : (I v0 0).toInt = (n : Int) := by rw [f.2.2.1 v0 12 0 kv0 (by decide) (by decide)]; exact en
    unfold f_X12_wears_L21
    refine ⟨fun c => ?_, fun c => ?_⟩
    · have c := (i_le s9 e1).mp c
      have ei : i = n := by omega
      subst ei
      exact hQ v2 I L w f e3 e4
    have c := (not_congr (i_le s9 e1)).mp c
    have n3 := i_nat e1 (by omega)
    have n3 : v3.toNatClampNeg = i := by omega
    intro b2 h2
    cases huS.symm.trans h2
    intro b3 h3
    cases huS.symm.trans h3
    refine ⟨vi_of e1 (by omega) (by omega), vi_of e1 (by omega) (by omega), ?_⟩
    intro I9 e9
    rw [n3] at e9
    have hi2 := hg i (by omega)
    have g8 : (if (0 : Int32) < ((I uS i) - v1) then ((I uS i) - v1) else (0 : Int32)).toInt = weG (J uS) v1.toInt i := by
      rw [e5 i (by omega)]
      exact i_wear (hb i (by omega)) hv
    have w9 : WD Z I9 := by rw [e9]; exact WD_putA w 12 2 kv0 huS kS rfl rfl (by decide) (show rg 0 9 _ from ⟨by rw [g8]; omega, by rw [g8]; omega⟩)
    have f9 : FR [(12, 2)] Z J Z I9 := f.trans wJ.1 wJ.2.1 (by rw [e9]; exact FR_upA w.2.1 kv0 huS kS rfl rfl List.mem_cons_self)
    have g9 : (I9 uS i).toInt = weG (J uS) v1.toInt i := by rw [e9, jpI_at]; exact g8
    intro b7 h7
    cases huS.symm.trans h7
    refine ⟨vi_of e1 (by omega) (by omega), ?_⟩
    intro x13 e13 x14 e14
    rw [n3] at e13
    have hi1 := hS i (by omega)
    have t13 : x13.toInt = shS (weG (J uS) v1.toInt) (i + 1) := by
      rw [e13]
      show _ = shS (weG (J uS) v1.toInt) i + weG (J uS) v1.toInt i
      exact i_add e3 g9 (by omega) (by omega)
    have t14 : x14.toInt = ((i + 1 : Nat) : Int) := by
      rw [e14]
      exact (i_add e1 z1 (by omega) (by omega)).trans (by omega)
    refine ih (i + 1) x13 x14 I9 L w9 f9 t14 (by omega) t13 (fun s hs => ?_) (fun s hs => ?_) (by omega)
    · by_cases q : s = i
      · rw [q]; exact g9
      · rw [e9, jpI_off q]; exact e4 s (by omega)
    · rw [e9, jpI_off (by omega)]; exact e5 s (by omega)
theorem s13_X12_wears {Z : jZ} {I : jI} {L : jL} (w : WD Z I) (v0 : Nat) (v1 : Int32) (kv0 : jk Z v0 12) (uS : Nat) (huS : jr Z v0 2 = some uS) {Q : Int32 → jI → jL → Prop} (hQ : ∀ (r : Int32) (I' : jI) (L' : jL), WD Z I' → FR Ws_X12_wears Z I Z I' → WEr (I v0 0).toInt (I uS) (I' uS) v1 r → Q r I' L') : f_X12_wears v0 v1 Z I L Q := by
  obtain ⟨x, ex, kS, lS⟩ := sh_f w.1 kv0 (j := 2) (k := 14) (m := 24) rfl
  cases huS.symm.trans ex
  have nS : uS ≠ v0 := ks_ne kS kv0 (by decide)
  have z0 : (0 : Int32).toInt = 0 := rfl
  have z9 : (9 : Int32).toInt = 9 := rfl
  have t9 : 0 ≤ (I v0 0).toInt ∧ (I v0 0).toInt ≤ 24 := w.fld 12 0 kv0 (by decide)
  unfold f_X12_wears
  intro I1 e1
  have w1 : WD Z I1 := by rw [e1]; exact WD_putF w 12 22 kv0 (by decide) (by decide) trivial
  have f1 : FR Ws_X12_wears Z I Z I1 := by rw [e1]; exact FR_putF kv0 (by decide) (by decide)
  have oS : I1 uS = I uS := by rw [e1]; exact jpI_ne nS
  have s0 : I1 v0 0 = I v0 0 := by rw [e1]; exact jpI_o (by decide)
  refine s_X12_in w1 _ _ _ (fun r p => ⟨fun c => ?_, fun c => ?_⟩)
  rotate_left
  · have c := yz c
    exact hQ _ I1 L w1 f1 (Or.inl ⟨rfl, by omega, oS⟩)
  have c := nz c
  obtain ⟨n, en⟩ : ∃ n : Nat, (I v0 0).toInt = (n : Int) := ⟨(I v0 0).toInt.toNat, by omega⟩
  have hb : ∀ s : Nat, s < n → 0 ≤ (I1 uS s).toInt ∧ (I1 uS s).toInt ≤ 9 := fun s _ => w1.arr 12 2 kv0 huS kS rfl rfl s
  refine ⟨n + 1, we_L21 w1 v0 v1 kv0 uS huS kS n (by rw [s0]; exact en) (by omega) ⟨by omega, by omega⟩ hb (fun r I' L' w' f' h1 h2 => ?_) (n + 1) 0 0 0 I1 L w1 FR.rf rfl (by omega) rfl (fun s hs => absurd hs (by omega)) (fun _ _ => rfl) (by omega)⟩
  rw [oS] at h1 h2
  refine hQ r I' L' w' (f1.trans w.1 w.2.1 (f'.mono (by decide))) (Or.inr ⟨⟨by omega, by omega⟩, ?_, fun s hs => h2 s (by omega)⟩)
  rw [h1, en]
  rfl
/-- whole leaves STATES as they were -/
theorem s13_X11_whole {B : Nat × Nat} {T : Nat} {Z : jZ} {I : jI} {L : jL} (w : WD Z I) (bd : BUD B Z T) (v0 : Nat) (v1 : Int32) (kv0 : jk Z v0 11) (uF : Nat) (huF : jr Z v0 2 = some uF) (uS : Nat) (huS : jr Z uF 1 = some uS) {Q : Int32 → jZ → jI → jL → Prop} (hQ : ∀ (r : Int32) (Z' : jZ) (I' : jI) (L' : jL), WD Z' I' → BUD B Z' T → FR Ws_X11_whole Z I Z' I' → CP Z Z' → I' uS = I uS → Q r Z' I' L') : f_X11_whole B v0 v1 Z I L Q := by
  obtain ⟨x, ex, kF⟩ := sh_o w.1 kv0 (j := 2) (k := 8) rfl
  cases huF.symm.trans ex
  obtain ⟨x, ex, kS, lS⟩ := sh_f w.1 kF (j := 1) (k := 14) (m := 24) rfl
  cases huS.symm.trans ex
  unfold f_X11_whole
  intro b1 e1
  cases huF.symm.trans e1
  refine s_X8_has w uF v1 kF (fun r p => ⟨fun c => ?_, fun c => hQ _ Z I L w bd FR.rf CP.rf rfl⟩)
  have c := nz c
  have n1 := i_nat (x := v1) rfl (by omega)
  intro b10 e10
  obtain ⟨x, ex, k10, l10⟩ := sh_f w.1 kv0 (j := 11) (k := 14) (m := 3) rfl
  cases e10.symm.trans ex
  refine s_X11_sumUp w bd v0 (-1 : Int32) b10 kv0 k10 v0 11 11 kv0 e10 (by decide) rfl l10 (fun _ _ => trivial) (fun Z2 I2 L2 w2 bd2 f2 c2 => ?_)
  have q2 : FR Ws_X11_whole Z I Z2 I2 := f2.mono (by decide)
  have k2 : jk Z2 v0 11 := (f2.1 _ _ kv0).1
  have kF2 : jk Z2 uF 8 := (f2.1 _ _ kF).1
  have kS2 : jk Z2 uS 14 := (f2.1 _ _ kS).1
  have hF2 : jr Z2 v0 2 = some uF := (f2.2.1 v0 11 2 kv0 (by decide) (by decide)).trans huF
  have hS2 : jr Z2 uF 1 = some uS := (f2.2.1 uF 8 1 kF (by decide) (by decide)).trans huS
  have o2 : I2 uS = I uS := f2.2.2.2 uF 8 1 uS kF huS (by rw [kS.2]; rfl) rfl (by decide)
  intro b18 e18
  cases hF2.symm.trans e18
  intro b19 e19
  cases hS2.symm.trans e19
  refine ⟨vi_of rfl (by omega) (by omega), ?_⟩
  intro x21 e21 b22 e22
  cases hF2.symm.trans e22
  intro b23 e23
  cases hS2.symm.trans e23
  refine ⟨vi_of rfl (by omega) (by omega), ?_⟩
  intro I25 e25
  have w25 : WD Z2 I25 := by rw [e25]; exact WD_putA w2 8 1 kF2 hS2 kS2 rfl rfl (by decide) trivial
  have q25 : FR Ws_X11_whole Z I Z2 I25 := q2.trans w.1 w.2.1 (by rw [e25]; exact FR_upA w2.2.1 kF2 hS2 kS2 rfl rfl (by decide))
  have o25 : ∀ i, i ≠ v1.toNatClampNeg → I25 uS i = I uS i := fun i hi => by rw [e25, jpI_off hi, o2]
  intro b26 e26
  obtain ⟨x, ex, k26, l26⟩ := sh_f w25.1 k2 (j := 12) (k := 14) (m := 3) rfl
  cases e26.symm.trans ex
  refine s_X11_sumUp w25 bd2 v0 (-1 : Int32) b26 k2 k26 v0 11 12 k2 e26 (by decide) rfl l26 (fun _ _ => trivial) (fun Z3 I3 L3 w3 bd3 f3 c3 => ?_)
  have q3 : FR Ws_X11_whole Z I Z3 I3 := q25.trans w.1 w.2.1 (f3.mono (by decide))
  have k3 : jk Z3 v0 11 := (f3.1 _ _ k2).1
  have kF3 : jk Z3 uF 8 := (f3.1 _ _ kF2).1
  have kS3 : jk Z3 uS 14 := (f3.1 _ _ kS2).1
  have hF3 : jr Z3 v0 2 = some uF := (f3.2.1 v0 11 2 k2 (by decide) (by decide)).trans hF2
  have hS3 : jr Z3 uF 1 = some uS := (f3.2.1 uF 8 1 kF2 (by decide) (by decide)).trans hS2
  have o3 : I3 uS = I25 uS := f3.2.2.2 uF 8 1 uS kF2 hS2 (by rw [kS2.2]; rfl) rfl (by decide)
  intro b34 e34
  cases hF3.symm.trans e34
  intro b35 e35
  cases hS3.symm.trans e35
  refine ⟨vi_of rfl (by omega) (by omega), ?_⟩
  intro I37 e37
  have w37 : WD Z3 I37 := by rw [e37]; exact WD_putA w3 8 1 kF3 hS3 kS3 rfl rfl (by decide) trivial
  have q37 : FR Ws_X11_whole Z I Z3 I37 := q3.trans w.1 w.2.1 (by rw [e37]; exact FR_upA w3.2.1 kF3 hS3 kS3 rfl rfl (by decide))
  have o37 : I37 uS = I uS := funext fun i => by
    by_cases q : i = v1.toNatClampNeg
    · rw [e37, q, jpI_at, e21, o2]
    · rw [e37, jpI_off q, o3]; exact o25 i q
  refine s_X11_tellDifferences w37 v0 k3 (fun r I40 L40 w40 f40 => ?_)
  refine hQ r Z3 I40 L40 w40 bd3 (q37.trans w.1 w.2.1 (f40.mono (by decide))) ((CP.rf.trans jext_rfl c2).trans q25.1 c3) ?_
  rw [f40.2.2.2 uF 8 1 uS kF3 hS3 (by rw [kS3.2]; rfl) rfl (by decide)]
  exact o37
theorem s13_X12_whole {B : Nat × Nat} {T : Nat} {Z : jZ} {I : jI} {L : jL} (w : WD Z I) (bd : BUD B Z T) (v0 : Nat) (v1 : Int32) (kv0 : jk Z v0 12) (uS : Nat) (huS : jr Z v0 2 = some uS) {Q : Int32 → jZ → jI → jL → Prop} (hQ : ∀ (r : Int32) (Z' : jZ) (I' : jI) (L' : jL), WD Z' I' → BUD B Z' T → FR Ws_X12_whole Z I Z' I' → CP Z Z' → I' uS = I uS → Q r Z' I' L') : f_X12_whole B v0 v1 Z I L Q := by
  obtain ⟨x, ex, kS, lS⟩ := sh_f w.1 kv0 (j := 2) (k := 14) (m := 24) rfl
  cases huS.symm.trans ex
  have nS : uS ≠ v0 := ks_ne kS kv0 (by decide)
  unfold f_X12_whole
  intro I1 e1
  have w1 : WD Z I1 := by rw [e1]; exact WD_putF w 12 22 kv0 (by decide) (by decide) trivial
  have f1 : FR Ws_X12_whole Z I Z I1 := by rw [e1]; exact FR_putF kv0 (by decide) (by decide)
  have oS : I1 uS = I uS := by rw [e1]; exact jpI_ne nS
  refine s_X12_isStep w1 v0 v1 kv0 (fun r p => ⟨fun c => ?_, fun c => hQ _ Z I1 L w1 bd f1 CP.rf oS⟩)
  have c := nz c
  have n1 := i_nat (x := v1) rfl (by omega)
  refine s_X12_findAll w1 bd v0 kv0 (fun Z2 I2 L2 w2 bd2 f2 c2 => ?_)
  have q2 : FR Ws_X12_whole Z I Z2 I2 := f1.trans w.1 w.2.1 (f2.mono (by decide))
  have k2 : jk Z2 v0 12 := (f2.1 _ _ kv0).1
  have kS2 : jk Z2 uS 14 := (f2.1 _ _ kS).1
  have hS2 : jr Z2 v0 2 = some uS := (f2.2.1 v0 12 2 kv0 (by decide) (by decide)).trans huS
  have o2 : I2 uS = I uS := (f2.2.2.2 v0 12 2 uS kv0 huS (by rw [kS.2]; rfl) rfl (by decide)).trans oS
  intro x17 _ x18 _ x19 _ b20 e20
  cases hS2.symm.trans e20
  refine ⟨vi_of rfl (by omega) (by omega), ?_⟩
  intro x22 e22 b23 e23
  cases hS2.symm.trans e23
  refine ⟨vi_of rfl (by omega) (by omega), ?_⟩
  intro I25 e25
  have w25 : WD Z2 I25 := by rw [e25]; exact WD_putA w2 12 2 k2 hS2 kS2 rfl rfl (by decide) ⟨by decide, by decide⟩
  have q25 : FR Ws_X12_whole Z I Z2 I25 := q2.trans w.1 w.2.1 (by rw [e25]; exact FR_upA w2.2.1 k2 hS2 kS2 rfl rfl (by decide))
  have o25 : ∀ i, i ≠ v1.toNatClampNeg → I25 uS i = I uS i := fun i hi => by rw [e25, jpI_off hi, o2]
  refine s_X12_findAll w25 bd2 v0 k2 (fun Z3 I3 L3 w3 bd3 f3 c3 => ?_)
  have q3 : FR Ws_X12_whole Z I Z3 I3 := q25.trans w.1 w.2.1 (f3.mono (by decide))
  have k3 : jk Z3 v0 12 := (f3.1 _ _ k2).1
  have kS3 : jk Z3 uS 14 := (f3.1 _ _ kS2).1
  have hS3 : jr Z3 v0 2 = some uS := (f3.2.1 v0 12 2 k2 (by decide) (by decide)).trans hS2
  have o3 : I3 uS = I25 uS := f3.2.2.2 v0 12 2 uS k2 hS2 (by rw [kS2.2]; rfl) rfl (by decide)
  have r22 : rg 0 9 x22 := by rw [e22]; exact w2.arr 12 2 k2 hS2 kS2 rfl rfl v1.toNatClampNeg
  intro b33 e33
  cases hS3.symm.trans e33
  refine ⟨vi_of rfl (by omega) (by omega), ?_⟩
  intro I37 e37
  have w37 : WD Z3 I37 := by rw [e37]; exact WD_putA w3 12 2 k3 hS3 kS3 rfl rfl (by decide) r22
  have q37 : FR Ws_X12_whole Z I Z3 I37 := q3.trans w.1 w.2.1 (by rw [e37]; exact FR_upA w3.2.1 k3 hS3 kS3 rfl rfl (by decide))
  have o37 : I37 uS = I uS := funext fun i => by
    by_cases q : i = v1.toNatClampNeg
    · rw [e37, q, jpI_at, e22, o2]
    · rw [e37, jpI_off q, o3]; exact o25 i q
  refine s_X12_tellMore w37 v0 _ _ _ k3 (fun r I40 L40 w40 f40 => ?_)
  refine hQ r Z3 I40 L40 w40 bd3 (q37.trans w.1 w.2.1 (f40.mono (by decide))) ((CP.rf.trans jext_rfl c2).trans q25.1 c3) ?_
  rw [f40.2.2.2 v0 12 2 uS k3 hS3 (by rw [kS3.2]; rfl) rfl (by decide)]
  exact o37
/-- mends -/
def MEr (n : Int) (S S' R : Nat → Int32) (v1 r : Int32) : Prop := (r.toInt = -1 ∧ ¬ (0 ≤ v1.toInt ∧ v1.toInt < n) ∧ S' = S) ∨ ((0 ≤ v1.toInt ∧ v1.toInt < n) ∧ r = ((9 : Int32) - S v1.toNatClampNeg) * R v1.toNatClampNeg ∧ S' = upd S v1.toNatClampNeg 9)
theorem MEr_st {n m : Int} {S S' T T' R U : Nat → Int32} {v r q : Int32} (e : n = m) (h : MEr n S S' R v r) (g : MEr m T T' U v q) (hs : ARr n S T) : ARr n S' T' := by
  subst e
  rcases h with ⟨h1, h2, h3⟩ | ⟨h1, h2, h3⟩
  · rcases g with ⟨g1, g2, g3⟩ | ⟨g1, g2, g3⟩
    · rw [h3, g3]; exact hs
    · exact absurd g1 h2
  · rcases g with ⟨g1, g2, g3⟩ | ⟨g1, g2, g3⟩
    · exact absurd h1 g2
    · rw [h3, g3]; exact ARr_upd hs
theorem MEr_eq {n m : Int} {S S' T T' R U : Nat → Int32} {v r q : Int32} (e : n = m) (h : MEr n S S' R v r) (g : MEr m T T' U v q) (hs : ARr n S T) (hr : ARr n R U) : r.toInt = q.toInt := by
  subst e
  rcases h with ⟨h1, h2, h3⟩ | ⟨h1, h2, h3⟩
  · rcases g with ⟨g1, g2, g3⟩ | ⟨g1, g2, g3⟩
    · exact h1.trans g1.symm
    · exact absurd g1 h2
  · rcases g with ⟨g1, g2, g3⟩ | ⟨g1, g2, g3⟩
    · exact absurd h1 g2
    · have n1 := i_nat (x := v) rfl h1.1
      rw [h2, g2, hs v.toNatClampNeg (by omega), hr v.toNatClampNeg (by omega)]
theorem s13_X11_mends {Z : jZ} {I : jI} {L : jL} (w : WD Z I) (v0 : Nat) (v1 : Int32) (kv0 : jk Z v0 11) (uF : Nat) (huF : jr Z v0 2 = some uF) (uS : Nat) (huS : jr Z uF 1 = some uS) (uR : Nat) (huR : jr Z uF 0 = some uR) {Q : Int32 → jI → jL → Prop} (hQ : ∀ (r : Int32) (I' : jI) (L' : jL), WD Z I' → FR Ws_X11_mends Z I Z I' → MEr (I uF 9).toInt (I uS) (I' uS) (I uR) v1 r → Q r I' L') : f_X11_mends v0 v1 Z I L Q := by
  obtain ⟨x, ex, kF⟩ := sh_o w.1 kv0 (j := 2) (k := 8) rfl
  cases huF.symm.trans ex
  obtain ⟨x, ex, kS, lS⟩ := sh_f w.1 kF (j := 1) (k := 14) (m := 24) rfl
  cases huS.symm.trans ex
  unfold f_X11_mends
  intro b1 e1
  cases huF.symm.trans e1
  refine s_X8_has w uF v1 kF (fun r p => ⟨fun c => ?_, fun c => hQ _ I L w FR.rf (Or.inl ⟨rfl, by have c := yz c; omega, rfl⟩)⟩)
  have c := nz c
  have n1 := i_nat (x := v1) rfl (by omega)
  intro b10 e10
  cases huF.symm.trans e10
  intro b11 e11
  cases huS.symm.trans e11
  refine ⟨vi_of rfl (by omega) (by omega), ?_⟩
  intro b13 e13
  cases huF.symm.trans e13
  intro b14 e14
  cases huR.symm.trans e14
  refine ⟨vi_of rfl (by omega) (by omega), ?_⟩
  intro x16 e16
  refine s_X11_lead w v0 x16 v1 (-1 : Int32) kv0 (fun I2 L2 w2 f2 => ?_)
  have o2 : I2 uS = I uS := f2.2.2.2 uF 8 1 uS kF huS (by rw [kS.2]; rfl) rfl (by decide)
  intro b23 e23
  cases huF.symm.trans e23
  intro b24 e24
  cases huS.symm.trans e24
  refine ⟨vi_of rfl (by omega) (by omega), ?_⟩
  intro I26 e26
  refine hQ x16 I26 L2 ?_ ?_ (Or.inr ⟨by omega, e16, ?_⟩)
  · rw [e26]; exact WD_putA w2 8 1 kF huS kS rfl rfl (by decide) trivial
  · refine (f2.mono (by decide)).trans w.1 w.2.1 ?_
    rw [e26]; exact FR_upA w2.2.1 kF huS kS rfl rfl (by decide)
  · rw [e26, ← o2]; exact va_up_self _ _ _
theorem s13_X12_mends {Z : jZ} {I : jI} {L : jL} (w : WD Z I) (v0 : Nat) (v1 : Int32) (kv0 : jk Z v0 12) (uS : Nat) (huS : jr Z v0 2 = some uS) (uR : Nat) (huR : jr Z v0 1 = some uR) {Q : Int32 → jI → jL → Prop} (hQ : ∀ (r : Int32) (I' : jI) (L' : jL), WD Z I' → FR Ws_X12_mends Z I Z I' → MEr (I v0 0).toInt (I uS) (I' uS) (I uR) v1 r → Q r I' L') : f_X12_mends v0 v1 Z I L Q := by
  obtain ⟨x, ex, kS, lS⟩ := sh_f w.1 kv0 (j := 2) (k := 14) (m := 24) rfl
  cases huS.symm.trans ex
  obtain ⟨x, ex, kR, lR⟩ := sh_f w.1 kv0 (j := 1) (k := 14) (m := 24) rfl
  cases huR.symm.trans ex
  have nS : uS ≠ v0 := ks_ne kS kv0 (by decide)
  have nR : uR ≠ v0 := ks_ne kR kv0 (by decide)
  unfold f_X12_mends
  intro I1 e1
  have w1 : WD Z I1 := by rw [e1]; exact WD_putF w 12 22 kv0 (by decide) (by decide) trivial
  have f1 : FR Ws_X12_mends Z I Z I1 := by rw [e1]; exact FR_putF kv0 (by decide) (by decide)
  have oS : I1 uS = I uS := by rw [e1]; exact jpI_ne nS
  have oR : I1 uR = I uR := by rw [e1]; exact jpI_ne nR
  have s0 : I1 v0 0 = I v0 0 := by rw [e1]; exact jpI_o (by decide)
  have t0 : 0 ≤ (I v0 0).toInt ∧ (I v0 0).toInt ≤ 24 := w.fld 12 0 kv0 (by decide)
  refine s_X12_isStep w1 v0 v1 kv0 (fun r p => ?_)
  rw [s0] at p
  refine ⟨fun c => ?_, fun c => hQ _ I1 L w1 f1 (Or.inl ⟨rfl, by have c := yz c; omega, oS⟩)⟩
  have c := nz c
  have n1 := i_nat (x := v1) rfl (by omega)
  intro b10 e10
  cases huS.symm.trans e10
  refine ⟨vi_of rfl (by omega) (by omega), ?_⟩
  intro b12 e12
  cases huR.symm.trans e12
  refine ⟨vi_of rfl (by omega) (by omega), ?_⟩
  intro x14 e14
  refine s_X12_earn w1 v0 v1 x14 (-1 : Int32) kv0 (by omega) (fun I2 L2 w2 f2 => ?_)
  have o2 : I2 uS = I1 uS := f2.2.2.2 v0 12 2 uS kv0 huS (by rw [kS.2]; rfl) rfl (by decide)
  intro b21 e21
  cases huS.symm.trans e21
  refine ⟨vi_of rfl (by omega) (by omega), ?_⟩
  intro I23 e23
  refine hQ x14 I23 L2 ?_ ?_ (Or.inr ⟨by omega, ?_, ?_⟩)
  · rw [e23]; exact WD_putA w2 12 2 kv0 huS kS rfl rfl (by decide) ⟨by decide, by decide⟩
  · refine (f1.trans w.1 w.2.1 (f2.mono (by decide))).trans w.1 w.2.1 ?_
    rw [e23]; exact FR_upA w2.2.1 kv0 huS kS rfl rfl (by decide)
  · rw [e14, oS, oR]
  · rw [e23, ← oS, ← o2]; exact va_up_self _ _ _
