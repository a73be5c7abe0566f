/-! ===== sign: the text's signs on both sides ===== -/
theorem a_L16 {Z : jZ} {I0 : jI} {v0 uB s0 : Nat} {v1 : Int32} {Q : Int32 → jI → jL → Prop} (w0 : WD Z I0) (k0 : jk Z v0 10) (hB : jr Z v0 0 = some uB) (kB : jk Z uB 13) (h80 : s0 + 4 ≤ 80)
    (hQ : ∀ (I' : jI) (L' : jL), WD Z I' → FR Ws_X10_append Z I0 Z I' → (I' v0 1).toInt = (s0 : Int) + 4 → I' uB = apk (I0 uB) s0 v1 4 → Q 1 I' L') :
    ∀ (m k : Nat) (v2 : Int32) (I : jI) (L : jL), WD Z I → FR Ws_X10_append Z I0 Z I → (I v0 1).toInt = (s0 : Int) + (k : Int) → I uB = apk (I0 uB) s0 v1 k → k ≤ 4 → v2.toInt = 24 - 8 * (k : Int) → 5 ≤ m + k → f_X10_append_L16 Z Q m v0 v1 v2 I L := by
  have hne : v0 ≠ uB := fun e => by subst e; have := k0.2.symm.trans kB.2; omega
  intro m
  induction m with
  | zero => intro k v2 I L w f e1 e2 h1 h2 h3; exfalso; omega
  | succ m ih =>
    intro k v2 I L w f e1 e2 h1 h2 h3
    unfold f_X10_append_L16
    refine ⟨fun c => ?_, fun c => ?_⟩
    · have c := (i_lt h2 (show (0 : Int32).toInt = 0 from rfl)).mp c
      have hk : k = 4 := by omega
      subst hk
      exact hQ I L w f e1 e2
    have c := (not_congr (i_lt h2 (show (0 : Int32).toInt = 0 from rfl))).mp c
    intro b2 eb2
    cases hB.symm.trans eb2
    refine ⟨vi_of e1 (by omega) (by omega), ?_⟩
    intro I4 e4 I5 e5 x6 e6
    have ix : (I v0 1).toNatClampNeg = s0 + k := by have := i_nat e1 (by omega); omega
    have w4 : WD Z I4 := by rw [e4]; exact WD_putA w 10 0 k0 hB kB rfl rfl (by decide) trivial
    have f4 : FR Ws_X10_append Z I Z I4 := by rw [e4]; exact FR_upA w.2.1 k0 hB kB rfl rfl (by decide)
    have z4 : I4 v0 1 = I v0 1 := by rw [e4, jpI_ne hne]
    have d4 : ((I4 v0 1) + (1 : Int32)).toInt = (s0 : Int) + (k : Int) + 1 := by rw [z4]; exact i_add e1 (show (1 : Int32).toInt = 1 from rfl) (by omega) (by omega)
    have w5 : WD Z I5 := by rw [e5]; exact WD_putF w4 10 1 k0 (by decide) (by decide) (show rg 0 80 _ from ⟨by omega, by omega⟩)
    have f5 : FR Ws_X10_append Z I4 Z I5 := by rw [e5]; exact FR_putF k0 (by decide) (by decide)
    have d6 : x6.toInt = 24 - 8 * ((k + 1 : Nat) : Int) := by rw [e6]; exact (i_add h2 (show (-8 : Int32).toInt = -8 from rfl) (by omega) (by omega)).trans (by omega)
    refine ih (k + 1) x6 I5 L w5 ((f.trans w0.1 w0.2.1 f4).trans w0.1 w0.2.1 f5) ?_ ?_ (by omega) d6 (by omega)
    · rw [e5, jpI_at, d4]; omega
    · rw [e5, jpI_ne hne.symm, e4, ix]
      exact apk_step e2 (by omega) h2
/-- what sign does to the class's text -/
def SGc (f f' : Nat → Int32) (s s' : Int) (v r : Int32) : Prop := (r.toInt = s + 4 ∧ s + 4 ≤ 80 ∧ s' = s + 4 ∧ f' = apk f s.toNat v 4) ∨ (r.toInt = -1 ∧ 80 < s + 4 ∧ s' = s ∧ f' = f)
theorem a_sign {Z : jZ} {I : jI} {L : jL} (w : WD Z I) (v0 : Nat) (v1 : Int32) (kv0 : jk Z v0 11) (uT : Nat) (huT : jr Z v0 0 = some uT) (uB : Nat) (huB : jr Z uT 0 = some uB) {Q : Int32 → jI → jL → Prop} (hQ : ∀ (r : Int32) (I' : jI) (L' : jL), WD Z I' → FR Ws_X11_sign Z I Z I' → SGc (I uB) (I' uB) (I uT 1).toInt (I' uT 1).toInt v1 r → Q r I' L') : f_X11_sign v0 v1 Z I L Q := by
  have kuT : jk Z uT 10 := by obtain ⟨b9, e9, k9⟩ := sh_o w.1 kv0 (j := 0) (k := 10) rfl; cases huT.symm.trans e9; exact k9
  obtain ⟨b9, e9, kuB, l9⟩ := sh_f w.1 kuT (j := 0) (k := 13) (m := 80) rfl
  cases huB.symm.trans e9
  have sz : 0 ≤ (I uT 1).toInt ∧ (I uT 1).toInt ≤ 80 := w.fld 10 1 kuT (by decide)
  have nn : (((I uT 1).toInt.toNat : Nat) : Int) = (I uT 1).toInt := by omega
  unfold f_X11_sign
  intro b1 eb1
  cases huT.symm.trans eb1
  unfold f_X10_append
  have e4 : ((I uT 1) + (4 : Int32)).toInt = (I uT 1).toInt + 4 := i_add rfl (show (4 : Int32).toInt = 4 from rfl) (by omega) (by omega)
  refine ⟨fun c => ?_, fun c => ?_⟩
  · have c := (i_le e4 (show (80 : Int32).toInt = 80 from rfl)).mp c
    refine ⟨5, a_L16 (s0 := (I uT 1).toInt.toNat) w kuT huB kuB (by omega) (fun I' L' w' f' g1 g2 => ⟨fun e => absurd e (by decide), fun _ => ?_⟩) 5 0 24 I L w FR.rf (by omega) apk_0.symm (by omega) rfl (by omega)⟩
    intro b10 eb10
    cases huT.symm.trans eb10
    exact hQ _ I' L' w' (f'.mono (by decide)) (Or.inl ⟨by omega, c, by omega, g2⟩)
  · have c := (not_congr (i_le e4 (show (80 : Int32).toInt = 80 from rfl))).mp c
    exact ⟨fun _ => hQ _ I L w FR.rf (Or.inr ⟨rfl, by omega, rfl, rfl⟩), fun e => absurd rfl e⟩
theorem a_L20 {Z : jZ} {I0 : jI} {v0 uB s0 : Nat} {v1 : Int32} {Q : Int32 → jI → jL → Prop} (w0 : WD Z I0) (k0 : jk Z v0 12) (hB : jr Z v0 18 = some uB) (kB : jk Z uB 13) (h80 : s0 + 4 ≤ 80)
    (hQ : ∀ (r : Int32) (I' : jI) (L' : jL), WD Z I' → FR Ws_X12_sign Z I0 Z I' → r.toInt = (s0 : Int) + 4 → (I' v0 19).toInt = (s0 : Int) + 4 → I' uB = apk (I0 uB) s0 v1 4 → Q r I' L') :
    ∀ (m k : Nat) (v2 : Int32) (I : jI) (L : jL), WD Z I → FR Ws_X12_sign Z I0 Z I → (I v0 19).toInt = (s0 : Int) + (k : Int) → I uB = apk (I0 uB) s0 v1 k → k ≤ 4 → v2.toInt = 3 - (k : Int) → 5 ≤ m + k → f_X12_sign_L20 Z Q m v0 v1 v2 I L := by
  have hne : v0 ≠ uB := fun e => by subst e; have := k0.2.symm.trans kB.2; omega
  intro m
  induction m with
  | zero => intro k v2 I L w f e1 e2 h1 h2 h3; exfalso; omega
  | succ m ih =>
    intro k v2 I L w f e1 e2 h1 h2 h3
    unfold f_X12_sign_L20
    refine ⟨fun c => ?_, fun c => ?_⟩
    · have c := (i_lt h2 (show (0 : Int32).toInt = 0 from rfl)).mp c
      have hk : k = 4 := by omega
      subst hk
      exact hQ _ I L w f e1 e1 e2
    have c := (not_congr (i_lt h2 (show (0 : Int32).toInt = 0 from rfl))).mp c
    intro b2 eb2
    cases hB.symm.trans eb2
    intro I3 e3
    refine ⟨vi_of e1 (by omega) (by omega), ?_⟩
    intro I5 e5 x6 e6
    have ix : (I v0 19).toNatClampNeg = s0 + k := by have := i_nat e1 (by omega); omega
    have d3 : ((I v0 19) + (1 : Int32)).toInt = (s0 : Int) + (k : Int) + 1 := i_add e1 (show (1 : Int32).toInt = 1 from rfl) (by omega) (by omega)
    have w3 : WD Z I3 := by rw [e3]; exact WD_putF w 12 19 k0 (by decide) (by decide) (show rg 0 80 _ from ⟨by omega, by omega⟩)
    have f3 : FR Ws_X12_sign Z I Z I3 := by rw [e3]; exact FR_putF k0 (by decide) (by decide)
    have w5 : WD Z I5 := by rw [e5]; exact WD_putA w3 12 18 k0 hB kB rfl rfl (by decide) trivial
    have f5 : FR Ws_X12_sign Z I3 Z I5 := by rw [e5]; exact FR_upA w3.2.1 k0 hB kB rfl rfl (by decide)
    have d6 : x6.toInt = 3 - ((k + 1 : Nat) : Int) := by rw [e6]; exact (i_add h2 (show (-1 : Int32).toInt = -1 from rfl) (by omega) (by omega)).trans (by omega)
    have d8 : ((8 : Int32) * v2).toInt = 24 - 8 * (k : Int) := (i_mul (show (8 : Int32).toInt = 8 from rfl) h2 (by omega) (by omega)).trans (by omega)
    refine ih (k + 1) x6 I5 L w5 ((f.trans w0.1 w0.2.1 f3).trans w0.1 w0.2.1 f5) ?_ ?_ (by omega) d6 (by omega)
    · rw [e5, jpI_ne hne, e3, jpI_at, d3]; omega
    · rw [e5, ix]
      exact apk_step (by rw [e3, jpI_ne hne.symm]; exact e2) (by omega) d8
theorem m_sign {Z : jZ} {I : jI} {L : jL} (w : WD Z I) (v0 : Nat) (v1 : Int32) (kv0 : jk Z v0 12) (uM : Nat) (huM : jr Z v0 18 = some uM) {Q : Int32 → jI → jL → Prop} (hQ : ∀ (r : Int32) (I' : jI) (L' : jL), WD Z I' → FR Ws_X12_sign Z I Z I' → SGc (I uM) (I' uM) (I v0 19).toInt (I' v0 19).toInt v1 r → Q r I' L') : f_X12_sign v0 v1 Z I L Q := by
  obtain ⟨b9, e9, kuM, l9⟩ := sh_f w.1 kv0 (j := 18) (k := 13) (m := 80) rfl
  cases huM.symm.trans e9
  have hne : v0 ≠ uM := fun e => by subst e; have := kv0.2.symm.trans kuM.2; omega
  have sz : 0 ≤ (I v0 19).toInt ∧ (I v0 19).toInt ≤ 80 := w.fld 12 19 kv0 (by decide)
  unfold f_X12_sign
  intro I7 e7
  have w7 : WD Z I7 := by rw [e7]; exact WD_putF w 12 22 kv0 (by decide) (by decide) trivial
  have f7 : FR Ws_X12_sign Z I Z I7 := by rw [e7]; exact FR_putF kv0 (by decide) (by decide)
  have z7 : I7 v0 19 = I v0 19 := by rw [e7, jpI_o (by decide)]
  have b7 : I7 uM = I uM := by rw [e7, jpI_ne hne.symm]
  rw [z7]
  have e4 : ((I v0 19) + (4 : Int32)).toInt = (I v0 19).toInt + 4 := i_add rfl (show (4 : Int32).toInt = 4 from rfl) (by omega) (by omega)
  refine ⟨fun c => ?_, fun c => ?_⟩
  · have c := (i_le e4 (show (80 : Int32).toInt = 80 from rfl)).mp c
    refine ⟨5, a_L20 (s0 := (I v0 19).toInt.toNat) w7 kv0 huM kuM (by omega) (fun r I' L' w' f' g0 g1 g2 => ?_) 5 0 3 I7 L w7 FR.rf (by rw [z7]; omega) apk_0.symm (by omega) rfl (by omega)⟩
    rw [b7] at g2
    exact hQ r I' L' w' (f7.trans w.1 w.2.1 f') (Or.inl ⟨by omega, c, by omega, g2⟩)
  · have c := (not_congr (i_le e4 (show (80 : Int32).toInt = 80 from rfl))).mp c
    exact hQ _ I7 L w7 f7 (Or.inr ⟨rfl, by omega, by rw [z7], b7⟩)
/-- both texts are alike -/
def TBr (I : jI) (uT uB v2 uM : Nat) : Prop := (I uT 1).toInt = (I v2 19).toInt ∧ BY (I uB) ∧ ∀ i : Nat, (i : Int) < (I uT 1).toInt → I uB i = I uM i
theorem TBr_sign {I I' I'' : jI} {uT uB v2 uM : Nat} {v r1 r2 : Int32} (h : TBr I uT uB v2 uM) (h1 : SGc (I uB) (I' uB) (I uT 1).toInt (I' uT 1).toInt v r1) (h2 : SGc (I' uM) (I'' uM) (I' v2 19).toInt (I'' v2 19).toInt v r2) (e1 : I' uM = I uM) (e2 : I' v2 19 = I v2 19) (e3 : I'' uB = I' uB) (e4 : I'' uT 1 = I' uT 1) (h0 : 0 ≤ (I uT 1).toInt) : TBr I'' uT uB v2 uM ∧ r1.toInt = r2.toInt := by
  obtain ⟨g1, g2, g3⟩ := h
  rw [e1, e2] at h2
  unfold TBr
  rw [e3, e4]
  rcases h1 with ⟨a1, a2, a3, a4⟩ | ⟨a1, a2, a3, a4⟩
  · rcases h2 with ⟨b1, b2, b3, b4⟩ | ⟨b1, b2, b3, b4⟩
    · refine ⟨⟨by omega, by rw [a4]; exact apk_BY g2, fun i hi => ?_⟩, by omega⟩
      rw [a4, b4, show (I v2 19).toInt.toNat = (I uT 1).toInt.toNat by omega]
      unfold apk
      by_cases c : (I uT 1).toInt.toNat ≤ i ∧ i < (I uT 1).toInt.toNat + 4
      · rw [if_pos c, if_pos c]
      · rw [if_neg c, if_neg c]
        exact g3 i (by omega)
    · omega
  · rcases h2 with ⟨b1, b2, b3, b4⟩ | ⟨b1, b2, b3, b4⟩
    · omega
    · refine ⟨⟨by omega, by rw [a4]; exact g2, fun i hi => ?_⟩, by omega⟩
      rw [a4, b4]
      exact g3 i (by omega)
theorem TBr_fr {W : List (Nat × Nat)} {Z Z' : jZ} {I I' : jI} {uT uB v2 uM : Nat} (f : FR W Z I Z' I') (kT : jk Z uT 10) (hB : jr Z uT 0 = some uB) (kB : jk Z uB 13) (k2 : jk Z v2 12) (hM : jr Z v2 18 = some uM) (kM : jk Z uM 13) (h1 : (10, 1) ∉ W) (h2 : (10, 0) ∉ W) (h3 : (12, 19) ∉ W) (h4 : (12, 18) ∉ W) (h : TBr I uT uB v2 uM) : TBr I' uT uB v2 uM := by
  unfold TBr
  rw [f.2.2.1 uT 10 1 kT (by decide) h1, f.2.2.1 v2 12 19 k2 (by decide) h3, f.2.2.2 uT 10 0 uB kT hB (by rw [kB.2]; rfl) rfl h2, f.2.2.2 v2 12 18 uM k2 hM (by rw [kM.2]; rfl) rfl h4]
  exact h
theorem TBr_cut {I I' : jI} {uT uB v2 uM : Nat} (h : TBr I uT uB v2 uM) (e1 : I' uB = I uB) (e2 : I' uM = I uM) (e3 : (I' uT 1).toInt = (I' v2 19).toInt) (e4 : (I' uT 1).toInt ≤ (I uT 1).toInt) : TBr I' uT uB v2 uM :=
  ⟨e3, by rw [e1]; exact h.2.1, fun i hi => by rw [e1, e2]; exact h.2.2 i (by omega)⟩
theorem stA_cong {f g : Nat → Int32} {s : Int} (h : ∀ i : Nat, (i : Int) < s → f i = g i) : stA f s = stA g s := by
  unfold stA
  rw [GS_cong (f := f) (g := g) (s := s) (lim := min s 76) (by omega) h]
theorem s10_X9_read {Z : jZ} {I : jI} {L : jL} (w : WD Z I) (v0 v1 : Nat) (kv0 : jk Z v0 9) (kv1 : jk Z v1 10) (uB : Nat) (huB : jr Z v1 0 = some uB) (p0 : BY (I uB)) {Q : Int32 → jI → jL → Prop} (hQ : ∀ (r : Int32) (I' : jI) (L' : jL), WD Z I' → FR Ws_X9_read Z I Z I' → (r.toInt = stA (I uB) (I v1 1).toInt ∧ (0 ≤ r.toInt → (I' v0 5).toInt = r.toInt)) → Q r I' L') : f_X9_read v0 v1 Z I L Q := by
  obtain ⟨b9, e9, kuB, l9⟩ := sh_f w.1 kv1 (j := 0) (k := 13) (m := 80) rfl
  cases huB.symm.trans e9
  exact r_read w kv0 kv1 huB kuB p0 (fun r I' L' w' f' e e2 => hQ r I' L' w' f' ⟨e, e2⟩)

set_option maxHeartbeats 4000000 in
set_option maxRecDepth 100000 in
theorem s10_X8_build {Z : jZ} {I : jI} {L : jL} (w_I : WD Z I) (v0 : Nat) (v1 : Nat) (kv0 : jk Z v0 8) (kv1 : jk Z v1 9) {Q : jI → jL → Prop} (hQ : ∀  (I' : jI) (L' : jL), WD Z I' → FR Ws_X8_build Z I Z I' → ((I' v0 9).toInt = (I v1 5).toInt) → Q I' L') : f_X8_build v0 v1 Z I L Q := by
  unfold f_X8_build
  have q_I : FR Ws_X8_build Z I Z I := FR.rf
  have t1 : 0 ≤ (I v0 9).toInt ∧ (I v0 9).toInt ≤ 24 := w_I.fld 8 9 kv0 (by decide)
  have t3 : 0 ≤ (I v1 5).toInt ∧ (I v1 5).toInt ≤ 24 := w_I.fld 9 5 kv1 (by decide)
  intro I4 eI4
  have w_I4 : WD Z I4 := by rw [eI4]; exact WD_putF w_I 8 9 kv0 (by decide) (by decide) (by constructor <;> omega)
  have f_I4 : FR [(8, 9)] Z I Z I4 := by rw [eI4]; exact FR_putF kv0 (by decide) List.mem_cons_self
  have q_I4 : FR Ws_X8_build Z I Z I4 := q_I.trans w_I.1 w_I.2.1 (f_I4.mono (by decide))
  have u5 : (I4 v1 5).toInt = (I v1 5).toInt := by rw [f_I4.2.2.1 v1 9 5 kv1 (by decide) (by decide)]
  first | (have u6 : (I4 v0 9).toInt = (I v1 5).toInt := by (rw [eI4, show jpI I v0 9 (I v1 5) v0 9 = (I v1 5) from jpI_at] <;> exact rfl)) | skip
  intro b7 eb7
  obtain ⟨x8, ex8, kb7, lb7⟩ := sh_f w_I4.1 kv1 (j := 0) (k := 14) (m := 24) rfl
  cases eb7.symm.trans ex8
  intro b9 eb9
  obtain ⟨x10, ex10, kb9, lb9⟩ := sh_f w_I4.1 kv0 (j := 0) (k := 14) (m := 24) rfl
  cases eb9.symm.trans ex10
  have t11 : (0 : Int32).toInt = 0 := rfl
  have t12 : (0 : Int32).toInt = 0 := rfl
  have t13 : (24 : Int32).toInt = 24 := rfl
  have t14 := i_nat (x := (0 : Int32)) (show (0 : Int32).toInt = 0 from rfl) (by omega)
  have t15 := i_nat (x := (0 : Int32)) (show (0 : Int32).toInt = 0 from rfl) (by omega)
  have t16 := i_nat (x := (24 : Int32)) (show (24 : Int32).toInt = 24 from rfl) (by omega)
  refine ⟨⟨(not_congr (i_lt (show (0 : Int32).toInt = 0 from rfl) (show (0 : Int32).toInt = 0 from rfl))).mpr (by omega), (not_congr (i_lt (show (0 : Int32).toInt = 0 from rfl) (show (0 : Int32).toInt = 0 from rfl))).mpr (by omega), (not_congr (i_lt (show (24 : Int32).toInt = 24 from rfl) (show (0 : Int32).toInt = 0 from rfl))).mpr (by omega), by omega, by omega⟩, ?_⟩
  intro I17 eI17
  have w_I17 : WD Z I17 := by rw [eI17]; exact WD_cpy w_I4 8 0 kv0 eb9 kb9 rfl rfl (by decide) (fun _ _ _ => trivial)
  have f_I17 : FR [(8, 0)] Z I4 Z I17 := by rw [eI17]; exact FR_upA w_I4.2.1 kv0 eb9 kb9 rfl rfl List.mem_cons_self
  have q_I17 : FR Ws_X8_build Z I Z I17 := q_I4.trans w_I.1 w_I.2.1 (f_I17.mono (by decide))
  have u18 : (I17 v1 5).toInt = (I4 v1 5).toInt := by rw [f_I17.2.2.1 v1 9 5 kv1 (by decide) (by decide)]
  have u19 : (I17 v0 9).toInt = (I4 v0 9).toInt := by rw [f_I17.2.2.1 v0 8 9 kv0 (by decide) (by decide)]
  intro b20 eb20
  obtain ⟨x21, ex21, kb20, lb20⟩ := sh_f w_I17.1 kv1 (j := 1) (k := 14) (m := 24) rfl
  cases eb20.symm.trans ex21
  intro b22 eb22
  obtain ⟨x23, ex23, kb22, lb22⟩ := sh_f w_I17.1 kv0 (j := 1) (k := 14) (m := 24) rfl
  cases eb22.symm.trans ex23
  have t24 : (0 : Int32).toInt = 0 := rfl
  have t25 : (0 : Int32).toInt = 0 := rfl
  have t26 : (24 : Int32).toInt = 24 := rfl
  have t27 := i_nat (x := (0 : Int32)) (show (0 : Int32).toInt = 0 from rfl) (by omega)
  have t28 := i_nat (x := (0 : Int32)) (show (0 : Int32).toInt = 0 from rfl) (by omega)
  have t29 := i_nat (x := (24 : Int32)) (show (24 : Int32).toInt = 24 from rfl) (by omega)
  refine ⟨⟨(not_congr (i_lt (show (0 : Int32).toInt = 0 from rfl) (show (0 : Int32).toInt = 0 from rfl))).mpr (by omega), (not_congr (i_lt (show (0 : Int32).toInt = 0 from rfl) (show (0 : Int32).toInt = 0 from rfl))).mpr (by omega), (not_congr (i_lt (show (24 : Int32).toInt = 24 from rfl) (show (0 : Int32).toInt = 0 from rfl))).mpr (by omega), by omega, by omega⟩, ?_⟩
  intro I30 eI30
  have w_I30 : WD Z I30 := by rw [eI30]; exact WD_cpy w_I17 8 1 kv0 eb22 kb22 rfl rfl (by decide) (fun _ _ _ => trivial)
  have f_I30 : FR [(8, 1)] Z I17 Z I30 := by rw [eI30]; exact FR_upA w_I17.2.1 kv0 eb22 kb22 rfl rfl List.mem_cons_self
  have q_I30 : FR Ws_X8_build Z I Z I30 := q_I17.trans w_I.1 w_I.2.1 (f_I30.mono (by decide))
  have u31 : (I30 v1 5).toInt = (I17 v1 5).toInt := by rw [f_I30.2.2.1 v1 9 5 kv1 (by decide) (by decide)]
  have u32 : (I30 v0 9).toInt = (I17 v0 9).toInt := by rw [f_I30.2.2.1 v0 8 9 kv0 (by decide) (by decide)]
  intro b33 eb33
  obtain ⟨x34, ex34, kb33, lb33⟩ := sh_f w_I30.1 kv1 (j := 2) (k := 14) (m := 24) rfl
  cases eb33.symm.trans ex34
  intro b35 eb35
  obtain ⟨x36, ex36, kb35, lb35⟩ := sh_f w_I30.1 kv0 (j := 2) (k := 14) (m := 24) rfl
  cases eb35.symm.trans ex36
  have t37 : (0 : Int32).toInt = 0 := rfl
  have t38 : (0 : Int32).toInt = 0 := rfl
  have t39 : (24 : Int32).toInt = 24 := rfl
  have t40 := i_nat (x := (0 : Int32)) (show (0 : Int32).toInt = 0 from rfl) (by omega)
  have t41 := i_nat (x := (0 : Int32)) (show (0 : Int32).toInt = 0 from rfl) (by omega)
  have t42 := i_nat (x := (24 : Int32)) (show (24 : Int32).toInt = 24 from rfl) (by omega)
  refine ⟨⟨(not_congr (i_lt (show (0 : Int32).toInt = 0 from rfl) (show (0 : Int32).toInt = 0 from rfl))).mpr (by omega), (not_congr (i_lt (show (0 : Int32).toInt = 0 from rfl) (show (0 : Int32).toInt = 0 from rfl))).mpr (by omega), (not_congr (i_lt (show (24 : Int32).toInt = 24 from rfl) (show (0 : Int32).toInt = 0 from rfl))).mpr (by omega), by omega, by omega⟩, ?_⟩
  intro I43 eI43
  have w_I43 : WD Z I43 := by rw [eI43]; exact WD_cpy w_I30 8 2 kv0 eb35 kb35 rfl rfl (by decide) (fun q h1 h2 => w_I30.arr 9 2 kv1 eb33 kb33 rfl rfl _)
  have f_I43 : FR [(8, 2)] Z I30 Z I43 := by rw [eI43]; exact FR_upA w_I30.2.1 kv0 eb35 kb35 rfl rfl List.mem_cons_self
  have q_I43 : FR Ws_X8_build Z I Z I43 := q_I30.trans w_I.1 w_I.2.1 (f_I43.mono (by decide))
  have u44 : (I43 v1 5).toInt = (I30 v1 5).toInt := by rw [f_I43.2.2.1 v1 9 5 kv1 (by decide) (by decide)]
  have u45 : (I43 v0 9).toInt = (I30 v0 9).toInt := by rw [f_I43.2.2.1 v0 8 9 kv0 (by decide) (by decide)]
  intro b46 eb46
  obtain ⟨x47, ex47, kb46, lb46⟩ := sh_f w_I43.1 kv1 (j := 3) (k := 14) (m := 24) rfl
  cases eb46.symm.trans ex47
  intro b48 eb48
  obtain ⟨x49, ex49, kb48, lb48⟩ := sh_f w_I43.1 kv0 (j := 3) (k := 14) (m := 24) rfl
  cases eb48.symm.trans ex49
  have t50 : (0 : Int32).toInt = 0 := rfl
  have t51 : (0 : Int32).toInt = 0 := rfl
  have t52 : (24 : Int32).toInt = 24 := rfl
  have t53 := i_nat (x := (0 : Int32)) (show (0 : Int32).toInt = 0 from rfl) (by omega)
  have t54 := i_nat (x := (0 : Int32)) (show (0 : Int32).toInt = 0 from rfl) (by omega)
  have t55 := i_nat (x := (24 : Int32)) (show (24 : Int32).toInt = 24 from rfl) (by omega)
  refine ⟨⟨(not_congr (i_lt (show (0 : Int32).toInt = 0 from rfl) (show (0 : Int32).toInt = 0 from rfl))).mpr (by omega), (not_congr (i_lt (show (0 : Int32).toInt = 0 from rfl) (show (0 : Int32).toInt = 0 from rfl))).mpr (by omega), (not_congr (i_lt (show (24 : Int32).toInt = 24 from rfl) (show (0 : Int32).toInt = 0 from rfl))).mpr (by omega), by omega, by omega⟩, ?_⟩
  intro I56 eI56
  have w_I56 : WD Z I56 := by rw [eI56]; exact WD_cpy w_I43 8 3 kv0 eb48 kb48 rfl rfl (by decide) (fun _ _ _ => trivial)
  have f_I56 : FR [(8, 3)] Z I43 Z I56 := by rw [eI56]; exact FR_upA w_I43.2.1 kv0 eb48 kb48 rfl rfl List.mem_cons_self
  have q_I56 : FR Ws_X8_build Z I Z I56 := q_I43.trans w_I.1 w_I.2.1 (f_I56.mono (by decide))
  have u57 : (I56 v1 5).toInt = (I43 v1 5).toInt := by rw [f_I56.2.2.1 v1 9 5 kv1 (by decide) (by decide)]
  have u58 : (I56 v0 9).toInt = (I43 v0 9).toInt := by rw [f_I56.2.2.1 v0 8 9 kv0 (by decide) (by decide)]
  intro b59 eb59
  obtain ⟨x60, ex60, kb59⟩ := sh_o w_I56.1 kv0 (j := 4) (k := 4) rfl
  cases eb59.symm.trans ex60
  intro b61 eb61
  obtain ⟨x62, ex62, kb61, lb61⟩ := sh_f w_I56.1 kv1 (j := 4) (k := 14) (m := 24) rfl
  cases eb61.symm.trans ex62
  have t64 : 0 ≤ (I56 v0 9).toInt ∧ (I56 v0 9).toInt ≤ 24 := w_I56.fld 8 9 kv0 (by decide)
  refine s_X4_deal w_I56 b59 b61 (I56 v0 9) kb59 kb61 v1 9 4 kv1 eb61 (by omega) (fun  I65 L66 w_I65 f_I65  => ?_)
  have q_I65 : FR Ws_X8_build Z I Z I65 := q_I56.trans w_I.1 w_I.2.1 (f_I65.mono (by decide))
  have u67 : (I65 v1 5).toInt = (I56 v1 5).toInt := by rw [f_I65.2.2.1 v1 9 5 kv1 (by decide) (by decide)]
  have u68 : (I65 v0 9).toInt = (I56 v0 9).toInt := by rw [f_I65.2.2.1 v0 8 9 kv0 (by decide) (by decide)]
  exact hQ  I65 L66 w_I65 q_I65 (by omega)

set_option maxHeartbeats 4000000 in
set_option maxRecDepth 100000 in
theorem l10_X11_stairs_L76 {Z : jZ} {I0 : jI} {Q : Int32 → jI → jL → Prop} (w0 : WD Z I0) (v0 : Nat) (kv0 : jk Z v0 11) (uT : Nat) (huT : jr Z v0 0 = some uT) (uB : Nat) (huB : jr Z uT 0 = some uB) (uF : Nat) (huF : jr Z v0 2 = some uF) (uN : Nat) (huN : jr Z v0 1 = some uN) (p0 : BY (I0 uB)) (v1 : Int32) (hQ : ∀ (r : Int32) (I' : jI) (L' : jL), WD Z I' → FR Ws_X11_stairs Z I0 Z I' → ((I' uT 1).toInt = 0 ∧ r.toInt = stA (I0 uB) (I0 uT 1).toInt ∧ (0 ≤ r.toInt → (I' uF 9).toInt = r.toInt) ∧ (r.toInt < 0 → (I' uF 9).toInt = (I0 uF 9).toInt)) → Q r I' L') : ∀ (n : Nat) (v2 : Int32) (I : jI) (L : jL), WD Z I → FR Ws_X11_stairs Z I0 Z I →   (0 ≤ v2.toInt ∧ v2.toInt ≤ 2 ∧ (I uT 1).toInt = 0 ∧ v1.toInt = stA (I0 uB) (I0 uT 1).toInt ∧ 0 ≤ v1.toInt ∧ (I uF 9).toInt = v1.toInt) → 2 - v2.toInt < (n : Int) → f_X11_stairs_L76  Z Q n v0 v1 v2 I L := by
  intro n
  induction n with
  | zero =>
    intro v2 I L w_I q_I   li  me
    exfalso
    omega
  | succ n ih =>
    intro v2 I L w_I q_I   li  me
    unfold f_X11_stairs_L76
    have rv2 := i_rng v2
    have rv1 := i_rng v1
    have kuT : jk Z uT 10 := by obtain ⟨b9, e9, k9⟩ := sh_o w_I.1 kv0 (j := 0) (k := 10) rfl; cases huT.symm.trans e9; exact k9
    have luB : jlen Z uB = 80 := by obtain ⟨b9, e9, -, l9⟩ := sh_f w_I.1 kuT (j := 0) (k := 13) (m := 80) rfl; cases huB.symm.trans e9; exact l9
    have kuB : jk Z uB 13 := by obtain ⟨b9, e9, k9, -⟩ := sh_f w_I.1 kuT (j := 0) (k := 13) (m := 80) rfl; cases huB.symm.trans e9; exact k9
    have kuF : jk Z uF 8 := by obtain ⟨b9, e9, k9⟩ := sh_o w_I.1 kv0 (j := 2) (k := 8) rfl; cases huF.symm.trans e9; exact k9
    have kuN : jk Z uN 9 := by obtain ⟨b9, e9, k9⟩ := sh_o w_I.1 kv0 (j := 1) (k := 9) rfl; cases huN.symm.trans e9; exact k9
    have t1 : 0 ≤ (I uT 1).toInt ∧ (I uT 1).toInt ≤ 80 := w_I.fld 10 1 kuT (by decide)
    have t2 : 0 ≤ (I uF 9).toInt ∧ (I uF 9).toInt ≤ 24 := w_I.fld 8 9 kuF (by decide)
    have t3 : 0 ≤ (I uN 5).toInt ∧ (I uN 5).toInt ≤ 24 := w_I.fld 9 5 kuN (by decide)
    intro b4 eb4
    obtain ⟨x5, ex5, kb4, lb4⟩ := sh_f w_I.1 kv0 (j := 8) (k := 17) (m := 2) rfl
    cases eb4.symm.trans ex5
    refine ⟨fun c6 => ?_, fun c6 => ?_⟩
    · skip
      first | (have t7 : (2) ≤ v2.toInt := (i_le (show (2 : Int32).toInt = 2 from rfl) rfl).mp c6) | (have t7 : (2 : Int32).toInt ≤ v2.toInt := (i_le rfl rfl).mp c6) | skip
      exact hQ v1 I L w_I q_I (by omega)
    · skip
      first | (have t8 : ¬ ((2) ≤ v2.toInt) := (not_congr (i_le (show (2 : Int32).toInt = 2 from rfl) rfl)).mp c6) | (have t8 : ¬ ((2 : Int32).toInt ≤ v2.toInt) := (not_congr (i_le rfl rfl)).mp c6) | skip
      intro b9 eb9
      obtain rfl : b4 = b9 := Option.some.inj (eb4.symm.trans eb9)
      have o10 : vp_in v2 2 := vi_of rfl (by omega) (by omega)
      refine ⟨o10, ?_⟩
      intro b11 eb11
      obtain ⟨x13, ex13, kb11⟩ := w_I.1.2.2.1 b4 kb4 _ (vp_lt (by rw [lb4]; exact o10))
      cases eb11.symm.trans ex13
      intro I14 eI14
      have t15 : (0 : Int32).toInt = 0 := rfl
      have w_I14 : WD Z I14 := by rw [eI14]; exact WD_putF w_I 2 8 kb11 (by decide) (by decide) trivial
      have f_I14 : FR [(2, 8)] Z I Z I14 := by rw [eI14]; exact FR_putF kb11 (by decide) List.mem_cons_self
      have q_I14 : FR Ws_X11_stairs Z I0 Z I14 := q_I.trans w0.1 w0.2.1 (f_I14.mono (by decide))
      have u16 : (I14 uT 1).toInt = (I uT 1).toInt := by rw [f_I14.2.2.1 uT 10 1 kuT (by decide) (by decide)]
      have u17 : (I14 uF 9).toInt = (I uF 9).toInt := by rw [f_I14.2.2.1 uF 8 9 kuF (by decide) (by decide)]
      have u18 : (I14 uN 5).toInt = (I uN 5).toInt := by rw [f_I14.2.2.1 uN 9 5 kuN (by decide) (by decide)]
      first | (have u19 : (I14 b11 8).toInt = (0) := by (rw [eI14, show jpI I b11 8 (0 : Int32) b11 8 = (0 : Int32) from jpI_at] <;> exact (show (0 : Int32).toInt = 0 from rfl))) | skip
      intro x20 ex20
      have rx20 := i_rng x20
      first | (have tx20 : x20.toInt = v2.toInt + (1) := by (rw [ex20]; exact (i_add rfl (show (1 : Int32).toInt = 1 from rfl) (by omega) (by omega)))) | skip
      exact ih x20 I14 L w_I14 q_I14   (by omega)  (by omega)
set_option maxHeartbeats 4000000 in
set_option maxRecDepth 100000 in
theorem l10_X11_stairs_L38 {Z : jZ} {I0 : jI} {Q : Int32 → jI → jL → Prop} (w0 : WD Z I0) (v0 : Nat) (kv0 : jk Z v0 11) (uT : Nat) (huT : jr Z v0 0 = some uT) (uB : Nat) (huB : jr Z uT 0 = some uB) (uF : Nat) (huF : jr Z v0 2 = some uF) (uN : Nat) (huN : jr Z v0 1 = some uN) (p0 : BY (I0 uB)) (v1 : Int32) (hQ : ∀ (r : Int32) (I' : jI) (L' : jL), WD Z I' → FR Ws_X11_stairs Z I0 Z I' → ((I' uT 1).toInt = 0 ∧ r.toInt = stA (I0 uB) (I0 uT 1).toInt ∧ (0 ≤ r.toInt → (I' uF 9).toInt = r.toInt) ∧ (r.toInt < 0 → (I' uF 9).toInt = (I0 uF 9).toInt)) → Q r I' L') : ∀ (n : Nat) (v2 : Int32) (I : jI) (L : jL), WD Z I → FR Ws_X11_stairs Z I0 Z I →   (0 ≤ v2.toInt ∧ v2.toInt ≤ 6 ∧ (I uT 1).toInt = 0 ∧ v1.toInt = stA (I0 uB) (I0 uT 1).toInt ∧ 0 ≤ v1.toInt ∧ (I uF 9).toInt = v1.toInt) → 6 - v2.toInt < (n : Int) → f_X11_stairs_L38  Z Q n v0 v1 v2 I L := by
  intro n
  induction n with
  | zero =>
    intro v2 I L w_I q_I   li  me
    exfalso
    omega
  | succ n ih =>
    intro v2 I L w_I q_I   li  me
    unfold f_X11_stairs_L38
    have rv2 := i_rng v2
    have rv1 := i_rng v1
    have kuT : jk Z uT 10 := by obtain ⟨b9, e9, k9⟩ := sh_o w_I.1 kv0 (j := 0) (k := 10) rfl; cases huT.symm.trans e9; exact k9
    have luB : jlen Z uB = 80 := by obtain ⟨b9, e9, -, l9⟩ := sh_f w_I.1 kuT (j := 0) (k := 13) (m := 80) rfl; cases huB.symm.trans e9; exact l9
    have kuB : jk Z uB 13 := by obtain ⟨b9, e9, k9, -⟩ := sh_f w_I.1 kuT (j := 0) (k := 13) (m := 80) rfl; cases huB.symm.trans e9; exact k9
    have kuF : jk Z uF 8 := by obtain ⟨b9, e9, k9⟩ := sh_o w_I.1 kv0 (j := 2) (k := 8) rfl; cases huF.symm.trans e9; exact k9
    have kuN : jk Z uN 9 := by obtain ⟨b9, e9, k9⟩ := sh_o w_I.1 kv0 (j := 1) (k := 9) rfl; cases huN.symm.trans e9; exact k9
    have t21 : 0 ≤ (I uT 1).toInt ∧ (I uT 1).toInt ≤ 80 := w_I.fld 10 1 kuT (by decide)
    have t22 : 0 ≤ (I uF 9).toInt ∧ (I uF 9).toInt ≤ 24 := w_I.fld 8 9 kuF (by decide)
    have t23 : 0 ≤ (I uN 5).toInt ∧ (I uN 5).toInt ≤ 24 := w_I.fld 9 5 kuN (by decide)
    have t25 : 0 ≤ (I v0 4).toInt ∧ (I v0 4).toInt ≤ 6 := w_I.fld 11 4 kv0 (by decide)
    refine ⟨fun c26 => ?_, fun c26 => ?_⟩
    · skip
      first | (have t27 : (I v0 4).toInt ≤ v2.toInt := (i_le rfl rfl).mp c26) | (have t27 : (I v0 4).toInt ≤ v2.toInt := (i_le rfl rfl).mp c26) | skip
      intro b28 eb28
      obtain ⟨x29, ex29, kb28, lb28⟩ := sh_f w_I.1 kv0 (j := 5) (k := 14) (m := 8) rfl
      cases eb28.symm.trans ex29
      have t30 : (0 : Int32).toInt = 0 := rfl
      refine s_J7_fill_53178 w_I b28 (0 : Int32) kb28 v0 11 5 kv0 eb28 (by decide) rfl (by omega) (by intro i; first | trivial | exact p1 i _ | exact p2 i _ | (constructor <;> decide)) (fun  I31 L32 w_I31 f_I31  => ?_)
      have q_I31 : FR Ws_X11_stairs Z I0 Z I31 := q_I.trans w0.1 w0.2.1 (f_I31.mono (by first | decide | (intro p hp; simp at hp ⊢; omega) | simp))
      have ut9 : (I31 uT 1).toInt = (I uT 1).toInt := by rw [f_I31.2.2.1 uT 10 1 kuT (by decide) (by decide)]
      have uf9 : (I31 uF 9).toInt = (I uF 9).toInt := by rw [f_I31.2.2.1 uF 8 9 kuF (by decide) (by decide)]
      have t33 : (0 : Int32).toInt = 0 := rfl
      exact ⟨(2 - (0 : Int32).toInt).toNat + 1, l10_X11_stairs_L76 w0 v0 kv0 uT huT uB huB uF huF uN huN p0 v1  hQ   _ (0 : Int32) I31 L32 w_I31 q_I31   (by omega)  (by omega)⟩
    · skip
      first | (have t34 : ¬ ((I v0 4).toInt ≤ v2.toInt) := (not_congr (i_le rfl rfl)).mp c26) | (have t34 : ¬ ((I v0 4).toInt ≤ v2.toInt) := (not_congr (i_le rfl rfl)).mp c26) | skip
      refine s_X11_find w_I v0 v2 kv0   (fun r35 p36 => ?_)
      refine ⟨fun c38 => ?_, fun b37 c38 => ?_⟩
      · skip
        unfold f_X11_stairs_b60
        intro x39 ex39
        have rx39 := i_rng x39
        first | (have tx39 : x39.toInt = v2.toInt + (1) := by (rw [ex39]; exact (i_add rfl (show (1 : Int32).toInt = 1 from rfl) (by omega) (by omega)))) | skip
        exact ih x39 I L w_I q_I   (by omega)  (by omega)
      · skip
        have kb37 : jk Z b37 5 := by first | exact p36 b37 c38 | exact (p36 b37 c38).1 | exact (p36.1 b37 c38).1
        refine s_X5_startAnew w_I b37 kb37   (fun  I40 L41 w_I40 f_I40  => ?_)
        have q_I40 : FR Ws_X11_stairs Z I0 Z I40 := q_I.trans w0.1 w0.2.1 (f_I40.mono (by decide))
        have u42 : (I40 uT 1).toInt = (I uT 1).toInt := by rw [f_I40.2.2.1 uT 10 1 kuT (by decide) (by decide)]
        have u43 : (I40 uF 9).toInt = (I uF 9).toInt := by rw [f_I40.2.2.1 uF 8 9 kuF (by decide) (by decide)]
        have u44 : (I40 uN 5).toInt = (I uN 5).toInt := by rw [f_I40.2.2.1 uN 9 5 kuN (by decide) (by decide)]
        have u45 : (I40 v0 4).toInt = (I v0 4).toInt := by rw [f_I40.2.2.1 v0 11 4 kv0 (by decide) (by decide)]
        unfold f_X11_stairs_b60
        intro x46 ex46
        have rx46 := i_rng x46
        first | (have tx46 : x46.toInt = v2.toInt + (1) := by (rw [ex46]; exact (i_add rfl (show (1 : Int32).toInt = 1 from rfl) (by omega) (by omega)))) | skip
        exact ih x46 I40 L41 w_I40 q_I40   (by omega)  (by omega)
set_option maxHeartbeats 4000000 in
set_option maxRecDepth 100000 in
theorem s10_X11_stairs {Z : jZ} {I : jI} {L : jL} (w_I : WD Z I) (v0 : Nat) (kv0 : jk Z v0 11) (uT : Nat) (huT : jr Z v0 0 = some uT) (uB : Nat) (huB : jr Z uT 0 = some uB) (uF : Nat) (huF : jr Z v0 2 = some uF) (uN : Nat) (huN : jr Z v0 1 = some uN) (p0 : BY (I uB)) {Q : Int32 → jI → jL → Prop} (hQ : ∀ (r : Int32) (I' : jI) (L' : jL), WD Z I' → FR Ws_X11_stairs Z I Z I' → ((I' uT 1).toInt = 0 ∧ r.toInt = stA (I uB) (I uT 1).toInt ∧ (0 ≤ r.toInt → (I' uF 9).toInt = r.toInt) ∧ (r.toInt < 0 → (I' uF 9).toInt = (I uF 9).toInt)) → Q r I' L') : f_X11_stairs v0 Z I L Q := by
  unfold f_X11_stairs
  have q_I : FR Ws_X11_stairs Z I Z I := FR.rf
  have kuT : jk Z uT 10 := by obtain ⟨b9, e9, k9⟩ := sh_o w_I.1 kv0 (j := 0) (k := 10) rfl; cases huT.symm.trans e9; exact k9
  have luB : jlen Z uB = 80 := by obtain ⟨b9, e9, -, l9⟩ := sh_f w_I.1 kuT (j := 0) (k := 13) (m := 80) rfl; cases huB.symm.trans e9; exact l9
  have kuB : jk Z uB 13 := by obtain ⟨b9, e9, k9, -⟩ := sh_f w_I.1 kuT (j := 0) (k := 13) (m := 80) rfl; cases huB.symm.trans e9; exact k9
  have kuF : jk Z uF 8 := by obtain ⟨b9, e9, k9⟩ := sh_o w_I.1 kv0 (j := 2) (k := 8) rfl; cases huF.symm.trans e9; exact k9
  have kuN : jk Z uN 9 := by obtain ⟨b9, e9, k9⟩ := sh_o w_I.1 kv0 (j := 1) (k := 9) rfl; cases huN.symm.trans e9; exact k9
  have t47 : 0 ≤ (I uT 1).toInt ∧ (I uT 1).toInt ≤ 80 := w_I.fld 10 1 kuT (by decide)
  have t48 : 0 ≤ (I uF 9).toInt ∧ (I uF 9).toInt ≤ 24 := w_I.fld 8 9 kuF (by decide)
  have t49 : 0 ≤ (I uN 5).toInt ∧ (I uN 5).toInt ≤ 24 := w_I.fld 9 5 kuN (by decide)
  intro b50 eb50
  obtain rfl : uN = b50 := Option.some.inj (huN.symm.trans eb50)
  intro b51 eb51
  obtain rfl : uT = b51 := Option.some.inj (huT.symm.trans eb51)
  refine s10_X9_read w_I uN uT kuN kuT uB huB (by assumption) (fun r52 I54 L55 w_I54 f_I54 p53 => ?_)
  have q_I54 : FR Ws_X11_stairs Z I Z I54 := q_I.trans w_I.1 w_I.2.1 (f_I54.mono (by decide))
  have u56 : (I54 uT 1).toInt = (I uT 1).toInt := by rw [f_I54.2.2.1 uT 10 1 kuT (by decide) (by decide)]
  have u57 : (I54 uF 9).toInt = (I uF 9).toInt := by rw [f_I54.2.2.1 uF 8 9 kuF (by decide) (by decide)]
  have rr52 := i_rng r52
  intro b58 eb58
  obtain rfl : uT = b58 := Option.some.inj (huT.symm.trans eb58)
  refine s9_X10_clear w_I54 uT kuT   (fun  I60 L61 w_I60 f_I60 p59 => ?_)
  have q_I60 : FR Ws_X11_stairs Z I Z I60 := q_I54.trans w_I.1 w_I.2.1 (f_I60.mono (by decide))
  have u62 : (I60 uF 9).toInt = (I54 uF 9).toInt := by rw [f_I60.2.2.1 uF 8 9 kuF (by decide) (by decide)]
  have u63 : (I60 uN 5).toInt = (I54 uN 5).toInt := by rw [f_I60.2.2.1 uN 9 5 kuN (by decide) (by decide)]
  refine ⟨fun c64 => ?_, fun c64 => ?_⟩
  · skip
    first | (have t65 : (0) ≤ r52.toInt := (i_le (show (0 : Int32).toInt = 0 from rfl) rfl).mp c64) | (have t65 : (0 : Int32).toInt ≤ r52.toInt := (i_le rfl rfl).mp c64) | skip
    intro b66 eb66
    obtain rfl : uF = b66 := Option.some.inj (huF.symm.trans eb66)
    intro b67 eb67
    obtain rfl : uN = b67 := Option.some.inj (huN.symm.trans eb67)
    refine s10_X8_build w_I60 uF uN kuF kuN   (fun  I69 L70 w_I69 f_I69 p68 => ?_)
    have q_I69 : FR Ws_X11_stairs Z I Z I69 := q_I60.trans w_I.1 w_I.2.1 (f_I69.mono (by decide))
    have u71 : (I69 uN 5).toInt = (I60 uN 5).toInt := by rw [f_I69.2.2.1 uN 9 5 kuN (by decide) (by decide)]
    have u72 : (I69 uT 1).toInt = (I60 uT 1).toInt := by rw [f_I69.2.2.1 uT 10 1 kuT (by decide) (by decide)]
    have t73 : (0 : Int32).toInt = 0 := rfl
    exact ⟨(6 - (0 : Int32).toInt).toNat + 1, l10_X11_stairs_L38 w_I v0 kv0 uT huT uB huB uF huF uN huN p0 r52  hQ   _ (0 : Int32) I69 L70 w_I69 q_I69   (by omega)  (by omega)⟩
  · skip
    first | (have t74 : ¬ ((0) ≤ r52.toInt) := (not_congr (i_le (show (0 : Int32).toInt = 0 from rfl) rfl)).mp c64) | (have t74 : ¬ ((0 : Int32).toInt ≤ r52.toInt) := (not_congr (i_le rfl rfl)).mp c64) | skip
    exact hQ r52 I60 L61 w_I60 q_I60 (by omega)

set_option maxHeartbeats 4000000 in
set_option maxRecDepth 100000 in
theorem l10_X12_stairs_L301 {B : Nat × Nat} {T : Nat} {Z0 : jZ} {I0 : jI} {Q : Int32 → jZ → jI → jL → Prop} (w0 : WD Z0 I0) (v0 : Nat) (kv0 : jk Z0 v0 12) (uM : Nat) (huM : jr Z0 v0 18 = some uM) (v1 : Int32) (hQ : ∀ (r : Int32) (Z' : jZ) (I' : jI) (L' : jL), WD Z' I' → BUD B Z' T → FR Ws_X12_stairs Z0 I0 Z' I' → CP Z0 Z' → ((I' v0 19).toInt = 0 ∧ r.toInt = stA (I0 uM) (I0 v0 19).toInt ∧ (0 ≤ r.toInt → (I' v0 0).toInt = r.toInt) ∧ (r.toInt < 0 → (I' v0 0).toInt = (I0 v0 0).toInt)) → Q r Z' I' L') : ∀ (n : Nat) (v3 : Int32) (Z : jZ) (I : jI) (L : jL), WD Z I → BUD B Z T → FR Ws_X12_stairs Z0 I0 Z I → CP Z0 Z →   (0 ≤ v3.toInt ∧ v3.toInt ≤ 6 ∧ (I v0 19).toInt = 0 ∧ v1.toInt = stA (I0 uM) (I0 v0 19).toInt ∧ 2 ≤ v1.toInt ∧ (I v0 0).toInt = v1.toInt) → 6 - v3.toInt < (n : Int) → f_X12_stairs_L301 B  Q n v0 v1 v3 Z I L := by
  intro n
  induction n with
  | zero =>
    intro v3 Z I L w_I bd_Z q_I cp_Z   li  me
    exfalso
    omega
  | succ n ih =>
    intro v3 Z I L w_I bd_Z q_I cp_Z   li  me
    unfold f_X12_stairs_L301
    have rv3 := i_rng v3
    have rv1 := i_rng v1
    have kv0_0 := kv0
    have kv0 := (q_I.1 _ _ kv0).1
    have huM_1 : jr Z v0 18 = some uM := (q_I.2.1 v0 12 18 kv0_0 (by decide) (by decide)).trans huM
    have luM : jlen Z uM = 80 := by obtain ⟨b9, e9, -, l9⟩ := sh_f w_I.1 kv0 (j := 18) (k := 13) (m := 80) rfl; cases huM_1.symm.trans e9; exact l9
    have kuM : jk Z uM 13 := by obtain ⟨b9, e9, k9, -⟩ := sh_f w_I.1 kv0 (j := 18) (k := 13) (m := 80) rfl; cases huM_1.symm.trans e9; exact k9
    have t1 : 0 ≤ (I v0 19).toInt ∧ (I v0 19).toInt ≤ 80 := w_I.fld 12 19 kv0 (by decide)
    have t2 : 0 ≤ (I v0 0).toInt ∧ (I v0 0).toInt ≤ 24 := w_I.fld 12 0 kv0 (by decide)
    have xq_I := q_I.1
    have t4 : 0 ≤ (I v0 8).toInt ∧ (I v0 8).toInt ≤ 6 := w_I.fld 12 8 kv0 (by decide)
    refine ⟨fun c5 => ?_, fun c5 => ?_⟩
    · skip
      first | (have t6 : (I v0 8).toInt ≤ v3.toInt := (i_le rfl rfl).mp c5) | (have t6 : (I v0 8).toInt ≤ v3.toInt := (i_le rfl rfl).mp c5) | skip
      exact hQ v1 Z I L w_I bd_Z q_I cp_Z (by omega)
    · skip
      first | (have t7 : ¬ ((I v0 8).toInt ≤ v3.toInt) := (not_congr (i_le rfl rfl)).mp c5) | (have t7 : ¬ ((I v0 8).toInt ≤ v3.toInt) := (not_congr (i_le rfl rfl)).mp c5) | skip
      intro b8 eb8
      obtain ⟨x9, ex9, kb8, lb8⟩ := sh_f w_I.1 kv0 (j := 14) (k := 14) (m := 6) rfl
      cases eb8.symm.trans ex9
      have o10 : vp_in v3 6 := vi_of rfl (by omega) (by omega)
      refine ⟨o10, ?_⟩
      intro I11 eI11
      have t12 : (-1 : Int32).toInt = -1 := rfl
      have w_I11 : WD Z I11 := by rw [eI11]; exact WD_putA w_I 12 14 kv0 eb8 kb8 rfl rfl (by decide) (by constructor <;> omega)
      have f_I11 : FR [(12, 14)] Z I Z I11 := by rw [eI11]; exact FR_upA w_I.2.1 kv0 eb8 kb8 rfl rfl List.mem_cons_self
      have q_I11 : FR Ws_X12_stairs Z0 I0 Z I11 := q_I.trans w0.1 w0.2.1 (f_I11.mono (by decide))
      have u13 : (I11 v0 19).toInt = (I v0 19).toInt := by rw [f_I11.2.2.1 v0 12 19 kv0 (by decide) (by decide)]
      have u14 : (I11 v0 0).toInt = (I v0 0).toInt := by rw [f_I11.2.2.1 v0 12 0 kv0 (by decide) (by decide)]
      have u15 : (I11 v0 8).toInt = (I v0 8).toInt := by rw [f_I11.2.2.1 v0 12 8 kv0 (by decide) (by decide)]
      intro b16 eb16
      obtain ⟨x17, ex17, kb16, lb16⟩ := sh_f w_I11.1 kv0 (j := 15) (k := 14) (m := 6) rfl
      cases eb16.symm.trans ex17
      intro b18 eb18
      obtain ⟨x19, ex19, kb18, lb18⟩ := sh_f w_I11.1 kv0 (j := 9) (k := 14) (m := 6) rfl
      cases eb18.symm.trans ex19
      have o20 : vp_in v3 6 := vi_of rfl (by omega) (by omega)
      refine ⟨o20, ?_⟩
      have t21 : 0 ≤ (I11 b18 v3.toNatClampNeg).toInt ∧ (I11 b18 v3.toNatClampNeg).toInt ≤ 120 := w_I11.arr 12 9 kv0 eb18 kb18 rfl rfl _
      have o22 : vp_in v3 6 := vi_of rfl (by omega) (by omega)
      refine ⟨o22, ?_⟩
      intro I23 eI23
      have w_I23 : WD Z I23 := by rw [eI23]; exact WD_putA w_I11 12 15 kv0 eb16 kb16 rfl rfl (by decide) trivial
      have f_I23 : FR [(12, 15)] Z I11 Z I23 := by rw [eI23]; exact FR_upA w_I11.2.1 kv0 eb16 kb16 rfl rfl List.mem_cons_self
      have q_I23 : FR Ws_X12_stairs Z0 I0 Z I23 := q_I11.trans w0.1 w0.2.1 (f_I23.mono (by decide))
      have u24 : (I23 v0 19).toInt = (I11 v0 19).toInt := by rw [f_I23.2.2.1 v0 12 19 kv0 (by decide) (by decide)]
      have u25 : (I23 v0 0).toInt = (I11 v0 0).toInt := by rw [f_I23.2.2.1 v0 12 0 kv0 (by decide) (by decide)]
      have u26 : (I23 v0 8).toInt = (I11 v0 8).toInt := by rw [f_I23.2.2.1 v0 12 8 kv0 (by decide) (by decide)]
      intro b27 eb27
      obtain ⟨x28, ex28, kb27, lb27⟩ := sh_f w_I23.1 kv0 (j := 16) (k := 14) (m := 6) rfl
      cases eb27.symm.trans ex28
      intro b29 eb29
      obtain ⟨x30, ex30, kb29, lb29⟩ := sh_f w_I23.1 kv0 (j := 10) (k := 14) (m := 6) rfl
      cases eb29.symm.trans ex30
      have o31 : vp_in v3 6 := vi_of rfl (by omega) (by omega)
      refine ⟨o31, ?_⟩
      have t32 : 0 ≤ (I23 b29 v3.toNatClampNeg).toInt ∧ (I23 b29 v3.toNatClampNeg).toInt ≤ 999 := w_I23.arr 12 10 kv0 eb29 kb29 rfl rfl _
      have o33 : vp_in v3 6 := vi_of rfl (by omega) (by omega)
      refine ⟨o33, ?_⟩
      intro I34 eI34
      have w_I34 : WD Z I34 := by rw [eI34]; exact WD_putA w_I23 12 16 kv0 eb27 kb27 rfl rfl (by decide) trivial
      have f_I34 : FR [(12, 16)] Z I23 Z I34 := by rw [eI34]; exact FR_upA w_I23.2.1 kv0 eb27 kb27 rfl rfl List.mem_cons_self
      have q_I34 : FR Ws_X12_stairs Z0 I0 Z I34 := q_I23.trans w0.1 w0.2.1 (f_I34.mono (by decide))
      have u35 : (I34 v0 19).toInt = (I23 v0 19).toInt := by rw [f_I34.2.2.1 v0 12 19 kv0 (by decide) (by decide)]
      have u36 : (I34 v0 0).toInt = (I23 v0 0).toInt := by rw [f_I34.2.2.1 v0 12 0 kv0 (by decide) (by decide)]
      have u37 : (I34 v0 8).toInt = (I23 v0 8).toInt := by rw [f_I34.2.2.1 v0 12 8 kv0 (by decide) (by decide)]
      intro x38 ex38
      have rx38 := i_rng x38
      first | (have tx38 : x38.toInt = v3.toInt + (1) := by (rw [ex38]; exact (i_add rfl (show (1 : Int32).toInt = 1 from rfl) (by omega) (by omega)))) | skip
      exact ih x38 Z I34 L w_I34 bd_Z q_I34 cp_Z   (by omega)  (by omega)
set_option maxHeartbeats 4000000 in
set_option maxRecDepth 100000 in
theorem l10_X12_stairs_L280 {B : Nat × Nat} {T : Nat} {Z0 : jZ} {I0 : jI} {Q : Int32 → jZ → jI → jL → Prop} (w0 : WD Z0 I0) (v0 : Nat) (kv0 : jk Z0 v0 12) (uM : Nat) (huM : jr Z0 v0 18 = some uM) (v1 : Int32) (hQ : ∀ (r : Int32) (Z' : jZ) (I' : jI) (L' : jL), WD Z' I' → BUD B Z' T → FR Ws_X12_stairs Z0 I0 Z' I' → CP Z0 Z' → ((I' v0 19).toInt = 0 ∧ r.toInt = stA (I0 uM) (I0 v0 19).toInt ∧ (0 ≤ r.toInt → (I' v0 0).toInt = r.toInt) ∧ (r.toInt < 0 → (I' v0 0).toInt = (I0 v0 0).toInt)) → Q r Z' I' L') : ∀ (n : Nat) (v3 : Int32) (Z : jZ) (I : jI) (L : jL), WD Z I → BUD B Z T → FR Ws_X12_stairs Z0 I0 Z I → CP Z0 Z →   (0 ≤ v3.toInt ∧ v3.toInt ≤ 8 ∧ (I v0 19).toInt = 0 ∧ v1.toInt = stA (I0 uM) (I0 v0 19).toInt ∧ 2 ≤ v1.toInt ∧ (I v0 0).toInt = v1.toInt) → 8 - v3.toInt < (n : Int) → f_X12_stairs_L280 B  Q n v0 v1 v3 Z I L := by
  intro n
  induction n with
  | zero =>
    intro v3 Z I L w_I bd_Z q_I cp_Z   li  me
    exfalso
    omega
  | succ n ih =>
    intro v3 Z I L w_I bd_Z q_I cp_Z   li  me
    unfold f_X12_stairs_L280
    have rv3 := i_rng v3
    have rv1 := i_rng v1
    have kv0_0 := kv0
    have kv0 := (q_I.1 _ _ kv0).1
    have huM_1 : jr Z v0 18 = some uM := (q_I.2.1 v0 12 18 kv0_0 (by decide) (by decide)).trans huM
    have luM : jlen Z uM = 80 := by obtain ⟨b9, e9, -, l9⟩ := sh_f w_I.1 kv0 (j := 18) (k := 13) (m := 80) rfl; cases huM_1.symm.trans e9; exact l9
    have kuM : jk Z uM 13 := by obtain ⟨b9, e9, k9, -⟩ := sh_f w_I.1 kv0 (j := 18) (k := 13) (m := 80) rfl; cases huM_1.symm.trans e9; exact k9
    have t39 : 0 ≤ (I v0 19).toInt ∧ (I v0 19).toInt ≤ 80 := w_I.fld 12 19 kv0 (by decide)
    have t40 : 0 ≤ (I v0 0).toInt ∧ (I v0 0).toInt ≤ 24 := w_I.fld 12 0 kv0 (by decide)
    have xq_I := q_I.1
    refine ⟨fun c41 => ?_, fun c41 => ?_⟩
    · skip
      first | (have t42 : (8) ≤ v3.toInt := (i_le (show (8 : Int32).toInt = 8 from rfl) rfl).mp c41) | (have t42 : (8 : Int32).toInt ≤ v3.toInt := (i_le rfl rfl).mp c41) | skip
      have t43 : (0 : Int32).toInt = 0 := rfl
      exact ⟨(6 - (0 : Int32).toInt).toNat + 1, l10_X12_stairs_L301 w0 v0 kv0_0 uM huM v1  hQ   _ (0 : Int32) Z I L w_I bd_Z q_I cp_Z   (by omega)  (by omega)⟩
    · skip
      first | (have t44 : ¬ ((8) ≤ v3.toInt) := (not_congr (i_le (show (8 : Int32).toInt = 8 from rfl) rfl)).mp c41) | (have t44 : ¬ ((8 : Int32).toInt ≤ v3.toInt) := (not_congr (i_le rfl rfl)).mp c41) | skip
      intro b45 eb45
      obtain ⟨x46, ex46, kb45, lb45⟩ := sh_f w_I.1 kv0 (j := 17) (k := 14) (m := 8) rfl
      cases eb45.symm.trans ex46
      have o47 : vp_in v3 8 := vi_of rfl (by omega) (by omega)
      refine ⟨o47, ?_⟩
      intro I48 eI48
      have t49 : (0 : Int32).toInt = 0 := rfl
      have w_I48 : WD Z I48 := by rw [eI48]; exact WD_putA w_I 12 17 kv0 eb45 kb45 rfl rfl (by decide) trivial
      have f_I48 : FR [(12, 17)] Z I Z I48 := by rw [eI48]; exact FR_upA w_I.2.1 kv0 eb45 kb45 rfl rfl List.mem_cons_self
      have q_I48 : FR Ws_X12_stairs Z0 I0 Z I48 := q_I.trans w0.1 w0.2.1 (f_I48.mono (by decide))
      have u50 : (I48 v0 19).toInt = (I v0 19).toInt := by rw [f_I48.2.2.1 v0 12 19 kv0 (by decide) (by decide)]
      have u51 : (I48 v0 0).toInt = (I v0 0).toInt := by rw [f_I48.2.2.1 v0 12 0 kv0 (by decide) (by decide)]
      intro x52 ex52
      have rx52 := i_rng x52
      first | (have tx52 : x52.toInt = v3.toInt + (1) := by (rw [ex52]; exact (i_add rfl (show (1 : Int32).toInt = 1 from rfl) (by omega) (by omega)))) | skip
      exact ih x52 Z I48 L w_I48 bd_Z q_I48 cp_Z   (by omega)  (by omega)
set_option maxHeartbeats 4000000 in
set_option maxRecDepth 100000 in
theorem l10_X12_stairs_L185 {B : Nat × Nat} {T : Nat} {Z0 : jZ} {I0 : jI} {Q : Int32 → jZ → jI → jL → Prop} (w0 : WD Z0 I0) (v0 : Nat) (kv0 : jk Z0 v0 12) (uM : Nat) (huM : jr Z0 v0 18 = some uM) (v1 : Int32) (v3 : Int32) (hQ : ∀ (r : Int32) (Z' : jZ) (I' : jI) (L' : jL), WD Z' I' → BUD B Z' T → FR Ws_X12_stairs Z0 I0 Z' I' → CP Z0 Z' → ((I' v0 19).toInt = 0 ∧ r.toInt = stA (I0 uM) (I0 v0 19).toInt ∧ (0 ≤ r.toInt → (I' v0 0).toInt = r.toInt) ∧ (r.toInt < 0 → (I' v0 0).toInt = (I0 v0 0).toInt)) → Q r Z' I' L') {K131 : Nat → Int32 → Int32 → jZ → jI → jL → Prop} {N131 : Int} (hK131 : ∀ (v3 : Int32) (Z : jZ) (I : jI) (L : jL), WD Z I → BUD B Z T → FR Ws_X12_stairs Z0 I0 Z I → CP Z0 Z →   (0 ≤ v3.toInt ∧ v3.toInt ≤ 24 ∧ v1.toInt ≤ 24 ∧ (I v0 19).toInt = 0 ∧ v1.toInt = stA (I0 uM) (I0 v0 19).toInt ∧ 2 ≤ v1.toInt ∧ (I v0 0).toInt = v1.toInt) → 24 - v3.toInt < N131 → K131 v0 v1 v3 Z I L) : ∀ (n : Nat) (v4 : Int32) (Z : jZ) (I : jI) (L : jL), WD Z I → BUD B Z T → FR Ws_X12_stairs Z0 I0 Z I → CP Z0 Z →   (0 ≤ v3.toInt ∧ v3.toInt ≤ 23 ∧ v1.toInt ≤ 24 ∧ 0 ≤ v4.toInt ∧ v4.toInt ≤ 8 ∧ (I v0 19).toInt = 0 ∧ v1.toInt = stA (I0 uM) (I0 v0 19).toInt ∧ 2 ≤ v1.toInt ∧ (I v0 0).toInt = v1.toInt) → 24 - v3.toInt ≤ N131 → 8 - v4.toInt < (n : Int) → f_X12_stairs_L185 B K131 Q n v0 v1 v3 v4 Z I L := by
  intro n
  induction n with
  | zero =>
    intro v4 Z I L w_I bd_Z q_I cp_Z   li hm131 me
    exfalso
    omega
  | succ n ih =>
    intro v4 Z I L w_I bd_Z q_I cp_Z   li hm131 me
    unfold f_X12_stairs_L185
    have rv4 := i_rng v4
    have rv1 := i_rng v1
    have rv3 := i_rng v3
    have kv0_0 := kv0
    have kv0 := (q_I.1 _ _ kv0).1
    have huM_1 : jr Z v0 18 = some uM := (q_I.2.1 v0 12 18 kv0_0 (by decide) (by decide)).trans huM
    have luM : jlen Z uM = 80 := by obtain ⟨b9, e9, -, l9⟩ := sh_f w_I.1 kv0 (j := 18) (k := 13) (m := 80) rfl; cases huM_1.symm.trans e9; exact l9
    have kuM : jk Z uM 13 := by obtain ⟨b9, e9, k9, -⟩ := sh_f w_I.1 kv0 (j := 18) (k := 13) (m := 80) rfl; cases huM_1.symm.trans e9; exact k9
    have t53 : 0 ≤ (I v0 19).toInt ∧ (I v0 19).toInt ≤ 80 := w_I.fld 12 19 kv0 (by decide)
    have t54 : 0 ≤ (I v0 0).toInt ∧ (I v0 0).toInt ≤ 24 := w_I.fld 12 0 kv0 (by decide)
    have xq_I := q_I.1
    refine ⟨fun c55 => ?_, fun c55 => ?_⟩
    · skip
      first | (have t56 : (8) ≤ v4.toInt := (i_le (show (8 : Int32).toInt = 8 from rfl) rfl).mp c55) | (have t56 : (8 : Int32).toInt ≤ v4.toInt := (i_le rfl rfl).mp c55) | skip
      intro b57 eb57
      obtain ⟨x58, ex58, kb57, lb57⟩ := sh_f w_I.1 kv0 (j := 4) (k := 16) (m := 24) rfl
      cases eb57.symm.trans ex58
      intro b59 eb59
      obtain ⟨x60, ex60, kb59, lb59⟩ := sh_f w_I.1 kv0 (j := 28) (k := 14) (m := 120) rfl
      cases eb59.symm.trans ex60
      have o61 : vp_in (((5 : Int32) * v3) + (4 : Int32)) 120 := vi_of (i_add (i_mul (show (5 : Int32).toInt = 5 from rfl) rfl (by omega) (by omega)) (show (4 : Int32).toInt = 4 from rfl) (by omega) (by omega)) (by omega) (by omega)
      refine ⟨o61, ?_⟩
      have t63 := i_nat (x := (((5 : Int32) * v3) + (4 : Int32))) (i_add (i_mul (show (5 : Int32).toInt = 5 from rfl) rfl (by omega) (by omega)) (show (4 : Int32).toInt = 4 from rfl) (by omega) (by omega)) (by omega)
      have h62 : ((((5 : Int32) * v3) + (4 : Int32)).toNatClampNeg % 5 = 0 → 0 ≤ (I b59 (((5 : Int32) * v3) + (4 : Int32)).toNatClampNeg).toInt ∧ (I b59 (((5 : Int32) * v3) + (4 : Int32)).toNatClampNeg).toInt ≤ 30) ∧ ((((5 : Int32) * v3) + (4 : Int32)).toNatClampNeg % 5 = 1 → 0 ≤ (I b59 (((5 : Int32) * v3) + (4 : Int32)).toNatClampNeg).toInt ∧ (I b59 (((5 : Int32) * v3) + (4 : Int32)).toNatClampNeg).toInt ≤ 9) ∧ ((((5 : Int32) * v3) + (4 : Int32)).toNatClampNeg % 5 = 2 → 0 ≤ (I b59 (((5 : Int32) * v3) + (4 : Int32)).toNatClampNeg).toInt ∧ (I b59 (((5 : Int32) * v3) + (4 : Int32)).toNatClampNeg).toInt ≤ 20) := w_I.arr 12 28 kv0 eb59 kb59 rfl rfl _
      first | (have h621 := h62.1 (by omega)) | (have h621 := h62.2.1 (by omega)) | (have h621 := h62.2.2 (by omega)) | skip
      clear h62
      refine ⟨fun c64 => ?_, fun c64 => ?_⟩
      · skip
        first | (have t65 : ¬ ((I b59 (((5 : Int32) * v3) + (4 : Int32)).toNatClampNeg).toInt = (1)) := (not_congr (i_eq rfl (show (1 : Int32).toInt = 1 from rfl))).mp c64) | (have t65 : ¬ ((I b59 (((5 : Int32) * v3) + (4 : Int32)).toNatClampNeg).toInt = (1 : Int32).toInt) := (not_congr (i_eq rfl rfl)).mp c64) | skip
        unfold f_X12_stairs_b256
        have o66 : vp_in v3 (jlen Z b57) := vi_of rfl (by omega) (by omega)
        refine ⟨o66, ?_⟩
        intro I67 eI67
        have t68 : (0 : Int32).toInt = 0 := rfl
        have w_I67 : WD Z I67 := by rw [eI67]; exact WD_putA w_I 12 4 kv0 eb57 kb57 rfl rfl (by decide) trivial
        have f_I67 : FR [(12, 4)] Z I Z I67 := by rw [eI67]; exact FR_upA w_I.2.1 kv0 eb57 kb57 rfl rfl List.mem_cons_self
        have q_I67 : FR Ws_X12_stairs Z0 I0 Z I67 := q_I.trans w0.1 w0.2.1 (f_I67.mono (by decide))
        have u69 : (I67 v0 19).toInt = (I v0 19).toInt := by rw [f_I67.2.2.1 v0 12 19 kv0 (by decide) (by decide)]
        have u70 : (I67 v0 0).toInt = (I v0 0).toInt := by rw [f_I67.2.2.1 v0 12 0 kv0 (by decide) (by decide)]
        intro x71 ex71
        have rx71 := i_rng x71
        first | (have tx71 : x71.toInt = v3.toInt + (1) := by (rw [ex71]; exact (i_add rfl (show (1 : Int32).toInt = 1 from rfl) (by omega) (by omega)))) | skip
        exact hK131 x71 Z I67 L w_I67 bd_Z q_I67 cp_Z   (by omega)  (by omega)
      · skip
        first | (have t72 : (I b59 (((5 : Int32) * v3) + (4 : Int32)).toNatClampNeg).toInt = (1) := (i_eq rfl (show (1 : Int32).toInt = 1 from rfl)).mp c64) | (have t72 : (I b59 (((5 : Int32) * v3) + (4 : Int32)).toNatClampNeg).toInt = (1 : Int32).toInt := (i_eq rfl rfl).mp c64) | skip
        unfold f_X12_stairs_b256
        have o73 : vp_in v3 (jlen Z b57) := vi_of rfl (by omega) (by omega)
        refine ⟨o73, ?_⟩
        intro I74 eI74
        have t75 : (1 : Int32).toInt = 1 := rfl
        have w_I74 : WD Z I74 := by rw [eI74]; exact WD_putA w_I 12 4 kv0 eb57 kb57 rfl rfl (by decide) trivial
        have f_I74 : FR [(12, 4)] Z I Z I74 := by rw [eI74]; exact FR_upA w_I.2.1 kv0 eb57 kb57 rfl rfl List.mem_cons_self
        have q_I74 : FR Ws_X12_stairs Z0 I0 Z I74 := q_I.trans w0.1 w0.2.1 (f_I74.mono (by decide))
        have u76 : (I74 v0 19).toInt = (I v0 19).toInt := by rw [f_I74.2.2.1 v0 12 19 kv0 (by decide) (by decide)]
        have u77 : (I74 v0 0).toInt = (I v0 0).toInt := by rw [f_I74.2.2.1 v0 12 0 kv0 (by decide) (by decide)]
        intro x78 ex78
        have rx78 := i_rng x78
        first | (have tx78 : x78.toInt = v3.toInt + (1) := by (rw [ex78]; exact (i_add rfl (show (1 : Int32).toInt = 1 from rfl) (by omega) (by omega)))) | skip
        exact hK131 x78 Z I74 L w_I74 bd_Z q_I74 cp_Z   (by omega)  (by omega)
    · skip
      first | (have t79 : ¬ ((8) ≤ v4.toInt) := (not_congr (i_le (show (8 : Int32).toInt = 8 from rfl) rfl)).mp c55) | (have t79 : ¬ ((8 : Int32).toInt ≤ v4.toInt) := (not_congr (i_le rfl rfl)).mp c55) | skip
      intro b80 eb80
      obtain ⟨x81, ex81, kb80, lb80⟩ := sh_f w_I.1 kv0 (j := 5) (k := 14) (m := 192) rfl
      cases eb80.symm.trans ex81
      intro b82 eb82
      obtain ⟨x83, ex83, kb82, lb82⟩ := sh_f w_I.1 kv0 (j := 28) (k := 14) (m := 120) rfl
      cases eb82.symm.trans ex83
      have o84 : vp_in (((5 : Int32) * v3) + (3 : Int32)) 120 := vi_of (i_add (i_mul (show (5 : Int32).toInt = 5 from rfl) rfl (by omega) (by omega)) (show (3 : Int32).toInt = 3 from rfl) (by omega) (by omega)) (by omega) (by omega)
      refine ⟨o84, ?_⟩
      have t86 := i_nat (x := (((5 : Int32) * v3) + (3 : Int32))) (i_add (i_mul (show (5 : Int32).toInt = 5 from rfl) rfl (by omega) (by omega)) (show (3 : Int32).toInt = 3 from rfl) (by omega) (by omega)) (by omega)
      have h85 : ((((5 : Int32) * v3) + (3 : Int32)).toNatClampNeg % 5 = 0 → 0 ≤ (I b82 (((5 : Int32) * v3) + (3 : Int32)).toNatClampNeg).toInt ∧ (I b82 (((5 : Int32) * v3) + (3 : Int32)).toNatClampNeg).toInt ≤ 30) ∧ ((((5 : Int32) * v3) + (3 : Int32)).toNatClampNeg % 5 = 1 → 0 ≤ (I b82 (((5 : Int32) * v3) + (3 : Int32)).toNatClampNeg).toInt ∧ (I b82 (((5 : Int32) * v3) + (3 : Int32)).toNatClampNeg).toInt ≤ 9) ∧ ((((5 : Int32) * v3) + (3 : Int32)).toNatClampNeg % 5 = 2 → 0 ≤ (I b82 (((5 : Int32) * v3) + (3 : Int32)).toNatClampNeg).toInt ∧ (I b82 (((5 : Int32) * v3) + (3 : Int32)).toNatClampNeg).toInt ≤ 20) := w_I.arr 12 28 kv0 eb82 kb82 rfl rfl _
      first | (have h851 := h85.1 (by omega)) | (have h851 := h85.2.1 (by omega)) | (have h851 := h85.2.2 (by omega)) | skip
      clear h85
      refine ⟨fun c87 => ?_, fun c87 => ?_⟩
      · skip
        first | (have t88 : ¬ (v4.toInt = (I b82 (((5 : Int32) * v3) + (3 : Int32)).toNatClampNeg).toInt) := (not_congr (i_eq rfl rfl)).mp c87) | (have t88 : ¬ (v4.toInt = (I b82 (((5 : Int32) * v3) + (3 : Int32)).toNatClampNeg).toInt) := (not_congr (i_eq rfl rfl)).mp c87) | skip
        unfold f_X12_stairs_b225
        have o89 : vp_in (((8 : Int32) * v3) + v4) (jlen Z b80) := vi_of (i_add (i_mul (show (8 : Int32).toInt = 8 from rfl) rfl (by omega) (by omega)) rfl (by omega) (by omega)) (by omega) (by omega)
        refine ⟨o89, ?_⟩
        intro I90 eI90
        have t91 : (0 : Int32).toInt = 0 := rfl
        have w_I90 : WD Z I90 := by rw [eI90]; exact WD_putA w_I 12 5 kv0 eb80 kb80 rfl rfl (by decide) trivial
        have f_I90 : FR [(12, 5)] Z I Z I90 := by rw [eI90]; exact FR_upA w_I.2.1 kv0 eb80 kb80 rfl rfl List.mem_cons_self
        have q_I90 : FR Ws_X12_stairs Z0 I0 Z I90 := q_I.trans w0.1 w0.2.1 (f_I90.mono (by decide))
        have u92 : (I90 v0 19).toInt = (I v0 19).toInt := by rw [f_I90.2.2.1 v0 12 19 kv0 (by decide) (by decide)]
        have u93 : (I90 v0 0).toInt = (I v0 0).toInt := by rw [f_I90.2.2.1 v0 12 0 kv0 (by decide) (by decide)]
        intro x94 ex94
        have rx94 := i_rng x94
        first | (have tx94 : x94.toInt = v4.toInt + (1) := by (rw [ex94]; exact (i_add rfl (show (1 : Int32).toInt = 1 from rfl) (by omega) (by omega)))) | skip
        exact ih x94 Z I90 L w_I90 bd_Z q_I90 cp_Z   (by omega) (by omega) (by omega)
      · skip
        first | (have t95 : v4.toInt = (I b82 (((5 : Int32) * v3) + (3 : Int32)).toNatClampNeg).toInt := (i_eq rfl rfl).mp c87) | (have t95 : v4.toInt = (I b82 (((5 : Int32) * v3) + (3 : Int32)).toNatClampNeg).toInt := (i_eq rfl rfl).mp c87) | skip
        unfold f_X12_stairs_b225
        have o96 : vp_in (((8 : Int32) * v3) + v4) (jlen Z b80) := vi_of (i_add (i_mul (show (8 : Int32).toInt = 8 from rfl) rfl (by omega) (by omega)) rfl (by omega) (by omega)) (by omega) (by omega)
        refine ⟨o96, ?_⟩
        intro I97 eI97
        have t98 : (720 : Int32).toInt = 720 := rfl
        have w_I97 : WD Z I97 := by rw [eI97]; exact WD_putA w_I 12 5 kv0 eb80 kb80 rfl rfl (by decide) trivial
        have f_I97 : FR [(12, 5)] Z I Z I97 := by rw [eI97]; exact FR_upA w_I.2.1 kv0 eb80 kb80 rfl rfl List.mem_cons_self
        have q_I97 : FR Ws_X12_stairs Z0 I0 Z I97 := q_I.trans w0.1 w0.2.1 (f_I97.mono (by decide))
        have u99 : (I97 v0 19).toInt = (I v0 19).toInt := by rw [f_I97.2.2.1 v0 12 19 kv0 (by decide) (by decide)]
        have u100 : (I97 v0 0).toInt = (I v0 0).toInt := by rw [f_I97.2.2.1 v0 12 0 kv0 (by decide) (by decide)]
        intro x101 ex101
        have rx101 := i_rng x101
        first | (have tx101 : x101.toInt = v4.toInt + (1) := by (rw [ex101]; exact (i_add rfl (show (1 : Int32).toInt = 1 from rfl) (by omega) (by omega)))) | skip
        exact ih x101 Z I97 L w_I97 bd_Z q_I97 cp_Z   (by omega) (by omega) (by omega)
set_option maxHeartbeats 4000000 in
set_option maxRecDepth 100000 in
theorem l10_X12_stairs_L131 {B : Nat × Nat} {T : Nat} {Z0 : jZ} {I0 : jI} {Q : Int32 → jZ → jI → jL → Prop} (w0 : WD Z0 I0) (v0 : Nat) (kv0 : jk Z0 v0 12) (uM : Nat) (huM : jr Z0 v0 18 = some uM) (v1 : Int32) (hQ : ∀ (r : Int32) (Z' : jZ) (I' : jI) (L' : jL), WD Z' I' → BUD B Z' T → FR Ws_X12_stairs Z0 I0 Z' I' → CP Z0 Z' → ((I' v0 19).toInt = 0 ∧ r.toInt = stA (I0 uM) (I0 v0 19).toInt ∧ (0 ≤ r.toInt → (I' v0 0).toInt = r.toInt) ∧ (r.toInt < 0 → (I' v0 0).toInt = (I0 v0 0).toInt)) → Q r Z' I' L') : ∀ (n : Nat) (v3 : Int32) (Z : jZ) (I : jI) (L : jL), WD Z I → BUD B Z T → FR Ws_X12_stairs Z0 I0 Z I → CP Z0 Z →   (0 ≤ v3.toInt ∧ v3.toInt ≤ 24 ∧ v1.toInt ≤ 24 ∧ (I v0 19).toInt = 0 ∧ v1.toInt = stA (I0 uM) (I0 v0 19).toInt ∧ 2 ≤ v1.toInt ∧ (I v0 0).toInt = v1.toInt) → 24 - v3.toInt < (n : Int) → f_X12_stairs_L131 B  Q n v0 v1 v3 Z I L := by
  intro n
  induction n with
  | zero =>
    intro v3 Z I L w_I bd_Z q_I cp_Z   li  me
    exfalso
    omega
  | succ n ih =>
    intro v3 Z I L w_I bd_Z q_I cp_Z   li  me
    unfold f_X12_stairs_L131
    have rv3 := i_rng v3
    have rv1 := i_rng v1
    have kv0_0 := kv0
    have kv0 := (q_I.1 _ _ kv0).1
    have huM_1 : jr Z v0 18 = some uM := (q_I.2.1 v0 12 18 kv0_0 (by decide) (by decide)).trans huM
    have luM : jlen Z uM = 80 := by obtain ⟨b9, e9, -, l9⟩ := sh_f w_I.1 kv0 (j := 18) (k := 13) (m := 80) rfl; cases huM_1.symm.trans e9; exact l9
    have kuM : jk Z uM 13 := by obtain ⟨b9, e9, k9, -⟩ := sh_f w_I.1 kv0 (j := 18) (k := 13) (m := 80) rfl; cases huM_1.symm.trans e9; exact k9
    have t102 : 0 ≤ (I v0 19).toInt ∧ (I v0 19).toInt ≤ 80 := w_I.fld 12 19 kv0 (by decide)
    have t103 : 0 ≤ (I v0 0).toInt ∧ (I v0 0).toInt ≤ 24 := w_I.fld 12 0 kv0 (by decide)
    have xq_I := q_I.1
    refine ⟨fun c104 => ?_, fun c104 => ?_⟩
    · skip
      first | (have t105 : v1.toInt ≤ v3.toInt := (i_le rfl rfl).mp c104) | (have t105 : v1.toInt ≤ v3.toInt := (i_le rfl rfl).mp c104) | skip
      intro I106 eI106
      try (have t107 : ((I v0 7) + (1 : Int32)).toInt = ((I v0 7).toInt + (1)) := (i_add rfl (show (1 : Int32).toInt = 1 from rfl) (by omega) (by omega)))
      have w_I106 : WD Z I106 := by rw [eI106]; exact WD_putF w_I 12 7 kv0 (by decide) (by decide) trivial
      have f_I106 : FR [(12, 7)] Z I Z I106 := by rw [eI106]; exact FR_putF kv0 (by decide) List.mem_cons_self
      have q_I106 : FR Ws_X12_stairs Z0 I0 Z I106 := q_I.trans w0.1 w0.2.1 (f_I106.mono (by decide))
      have u108 : (I106 v0 19).toInt = (I v0 19).toInt := by rw [f_I106.2.2.1 v0 12 19 kv0 (by decide) (by decide)]
      have u109 : (I106 v0 0).toInt = (I v0 0).toInt := by rw [f_I106.2.2.1 v0 12 0 kv0 (by decide) (by decide)]
      first | (have u110 : (I106 v0 7).toInt = ((I v0 7).toInt + (1)) := by (rw [eI106, show jpI I v0 7 ((I v0 7) + (1 : Int32)) v0 7 = ((I v0 7) + (1 : Int32)) from jpI_at] <;> exact (i_add rfl (show (1 : Int32).toInt = 1 from rfl) (by omega) (by omega)))) | skip
      intro I111 eI111
      have t112 : (0 : Int32).toInt = 0 := rfl
      have w_I111 : WD Z I111 := by rw [eI111]; exact WD_putF w_I106 12 52 kv0 (by decide) (by decide) (by constructor <;> omega)
      have f_I111 : FR [(12, 52)] Z I106 Z I111 := by rw [eI111]; exact FR_putF kv0 (by decide) List.mem_cons_self
      have q_I111 : FR Ws_X12_stairs Z0 I0 Z I111 := q_I106.trans w0.1 w0.2.1 (f_I111.mono (by decide))
      have u113 : (I111 v0 19).toInt = (I106 v0 19).toInt := by rw [f_I111.2.2.1 v0 12 19 kv0 (by decide) (by decide)]
      have u114 : (I111 v0 0).toInt = (I106 v0 0).toInt := by rw [f_I111.2.2.1 v0 12 0 kv0 (by decide) (by decide)]
      have u115 : (I111 v0 7).toInt = (I106 v0 7).toInt := by rw [f_I111.2.2.1 v0 12 7 kv0 (by decide) (by decide)]
      first | (have u116 : (I111 v0 52).toInt = (0) := by (rw [eI111, show jpI I106 v0 52 (0 : Int32) v0 52 = (0 : Int32) from jpI_at] <;> exact (show (0 : Int32).toInt = 0 from rfl))) | skip
      have t117 : (0 : Int32).toInt = 0 := rfl
      exact ⟨(8 - (0 : Int32).toInt).toNat + 1, l10_X12_stairs_L280 w0 v0 kv0_0 uM huM v1  hQ   _ (0 : Int32) Z I111 L w_I111 bd_Z q_I111 cp_Z   (by omega)  (by omega)⟩
    · skip
      first | (have t118 : ¬ (v1.toInt ≤ v3.toInt) := (not_congr (i_le rfl rfl)).mp c104) | (have t118 : ¬ (v1.toInt ≤ v3.toInt) := (not_congr (i_le rfl rfl)).mp c104) | skip
      intro b119 eb119
      obtain ⟨x120, ex120, kb119, lb119⟩ := sh_f w_I.1 kv0 (j := 1) (k := 14) (m := 24) rfl
      cases eb119.symm.trans ex120
      intro b121 eb121
      obtain ⟨x122, ex122, kb121, lb121⟩ := sh_f w_I.1 kv0 (j := 28) (k := 14) (m := 120) rfl
      cases eb121.symm.trans ex122
      have o123 : vp_in ((5 : Int32) * v3) 120 := vi_of (i_mul (show (5 : Int32).toInt = 5 from rfl) rfl (by omega) (by omega)) (by omega) (by omega)
      refine ⟨o123, ?_⟩
      have t125 := i_nat (x := ((5 : Int32) * v3)) (i_mul (show (5 : Int32).toInt = 5 from rfl) rfl (by omega) (by omega)) (by omega)
      have h124 : (((5 : Int32) * v3).toNatClampNeg % 5 = 0 → 0 ≤ (I b121 ((5 : Int32) * v3).toNatClampNeg).toInt ∧ (I b121 ((5 : Int32) * v3).toNatClampNeg).toInt ≤ 30) ∧ (((5 : Int32) * v3).toNatClampNeg % 5 = 1 → 0 ≤ (I b121 ((5 : Int32) * v3).toNatClampNeg).toInt ∧ (I b121 ((5 : Int32) * v3).toNatClampNeg).toInt ≤ 9) ∧ (((5 : Int32) * v3).toNatClampNeg % 5 = 2 → 0 ≤ (I b121 ((5 : Int32) * v3).toNatClampNeg).toInt ∧ (I b121 ((5 : Int32) * v3).toNatClampNeg).toInt ≤ 20) := w_I.arr 12 28 kv0 eb121 kb121 rfl rfl _
      first | (have h1241 := h124.1 (by omega)) | (have h1241 := h124.2.1 (by omega)) | (have h1241 := h124.2.2 (by omega)) | skip
      clear h124
      have o126 : vp_in v3 24 := vi_of rfl (by omega) (by omega)
      refine ⟨o126, ?_⟩
      intro I127 eI127
      have w_I127 : WD Z I127 := by rw [eI127]; exact WD_putA w_I 12 1 kv0 eb119 kb119 rfl rfl (by decide) (by constructor <;> omega)
      have f_I127 : FR [(12, 1)] Z I Z I127 := by rw [eI127]; exact FR_upA w_I.2.1 kv0 eb119 kb119 rfl rfl List.mem_cons_self
      have q_I127 : FR Ws_X12_stairs Z0 I0 Z I127 := q_I.trans w0.1 w0.2.1 (f_I127.mono (by decide))
      have u128 : (I127 v0 19).toInt = (I v0 19).toInt := by rw [f_I127.2.2.1 v0 12 19 kv0 (by decide) (by decide)]
      have u129 : (I127 v0 0).toInt = (I v0 0).toInt := by rw [f_I127.2.2.1 v0 12 0 kv0 (by decide) (by decide)]
      intro b130 eb130
      obtain ⟨x131, ex131, kb130, lb130⟩ := sh_f w_I127.1 kv0 (j := 2) (k := 14) (m := 24) rfl
      cases eb130.symm.trans ex131
      intro b132 eb132
      obtain rfl : b121 = b132 := Option.some.inj (eb121.symm.trans eb132)
      have o133 : vp_in (((5 : Int32) * v3) + (1 : Int32)) 120 := vi_of (i_add (i_mul (show (5 : Int32).toInt = 5 from rfl) rfl (by omega) (by omega)) (show (1 : Int32).toInt = 1 from rfl) (by omega) (by omega)) (by omega) (by omega)
      refine ⟨o133, ?_⟩
      have t135 := i_nat (x := (((5 : Int32) * v3) + (1 : Int32))) (i_add (i_mul (show (5 : Int32).toInt = 5 from rfl) rfl (by omega) (by omega)) (show (1 : Int32).toInt = 1 from rfl) (by omega) (by omega)) (by omega)
      have h134 : ((((5 : Int32) * v3) + (1 : Int32)).toNatClampNeg % 5 = 0 → 0 ≤ (I127 b121 (((5 : Int32) * v3) + (1 : Int32)).toNatClampNeg).toInt ∧ (I127 b121 (((5 : Int32) * v3) + (1 : Int32)).toNatClampNeg).toInt ≤ 30) ∧ ((((5 : Int32) * v3) + (1 : Int32)).toNatClampNeg % 5 = 1 → 0 ≤ (I127 b121 (((5 : Int32) * v3) + (1 : Int32)).toNatClampNeg).toInt ∧ (I127 b121 (((5 : Int32) * v3) + (1 : Int32)).toNatClampNeg).toInt ≤ 9) ∧ ((((5 : Int32) * v3) + (1 : Int32)).toNatClampNeg % 5 = 2 → 0 ≤ (I127 b121 (((5 : Int32) * v3) + (1 : Int32)).toNatClampNeg).toInt ∧ (I127 b121 (((5 : Int32) * v3) + (1 : Int32)).toNatClampNeg).toInt ≤ 20) := w_I127.arr 12 28 kv0 eb121 kb121 rfl rfl _
      first | (have h1341 := h134.1 (by omega)) | (have h1341 := h134.2.1 (by omega)) | (have h1341 := h134.2.2 (by omega)) | skip
      clear h134
      have o136 : vp_in v3 24 := vi_of rfl (by omega) (by omega)
      refine ⟨o136, ?_⟩
      intro I137 eI137
      have w_I137 : WD Z I137 := by rw [eI137]; exact WD_putA w_I127 12 2 kv0 eb130 kb130 rfl rfl (by decide) (by constructor <;> omega)
      have f_I137 : FR [(12, 2)] Z I127 Z I137 := by rw [eI137]; exact FR_upA w_I127.2.1 kv0 eb130 kb130 rfl rfl List.mem_cons_self
      have q_I137 : FR Ws_X12_stairs Z0 I0 Z I137 := q_I127.trans w0.1 w0.2.1 (f_I137.mono (by decide))
      have u138 : (I137 v0 19).toInt = (I127 v0 19).toInt := by rw [f_I137.2.2.1 v0 12 19 kv0 (by decide) (by decide)]
      have u139 : (I137 v0 0).toInt = (I127 v0 0).toInt := by rw [f_I137.2.2.1 v0 12 0 kv0 (by decide) (by decide)]
      intro b140 eb140
      obtain ⟨x141, ex141, kb140, lb140⟩ := sh_f w_I137.1 kv0 (j := 3) (k := 14) (m := 24) rfl
      cases eb140.symm.trans ex141
      intro b142 eb142
      obtain rfl : b121 = b142 := Option.some.inj (eb121.symm.trans eb142)
      have o143 : vp_in (((5 : Int32) * v3) + (2 : Int32)) 120 := vi_of (i_add (i_mul (show (5 : Int32).toInt = 5 from rfl) rfl (by omega) (by omega)) (show (2 : Int32).toInt = 2 from rfl) (by omega) (by omega)) (by omega) (by omega)
      refine ⟨o143, ?_⟩
      have t145 := i_nat (x := (((5 : Int32) * v3) + (2 : Int32))) (i_add (i_mul (show (5 : Int32).toInt = 5 from rfl) rfl (by omega) (by omega)) (show (2 : Int32).toInt = 2 from rfl) (by omega) (by omega)) (by omega)
      have h144 : ((((5 : Int32) * v3) + (2 : Int32)).toNatClampNeg % 5 = 0 → 0 ≤ (I137 b121 (((5 : Int32) * v3) + (2 : Int32)).toNatClampNeg).toInt ∧ (I137 b121 (((5 : Int32) * v3) + (2 : Int32)).toNatClampNeg).toInt ≤ 30) ∧ ((((5 : Int32) * v3) + (2 : Int32)).toNatClampNeg % 5 = 1 → 0 ≤ (I137 b121 (((5 : Int32) * v3) + (2 : Int32)).toNatClampNeg).toInt ∧ (I137 b121 (((5 : Int32) * v3) + (2 : Int32)).toNatClampNeg).toInt ≤ 9) ∧ ((((5 : Int32) * v3) + (2 : Int32)).toNatClampNeg % 5 = 2 → 0 ≤ (I137 b121 (((5 : Int32) * v3) + (2 : Int32)).toNatClampNeg).toInt ∧ (I137 b121 (((5 : Int32) * v3) + (2 : Int32)).toNatClampNeg).toInt ≤ 20) := w_I137.arr 12 28 kv0 eb121 kb121 rfl rfl _
      first | (have h1441 := h144.1 (by omega)) | (have h1441 := h144.2.1 (by omega)) | (have h1441 := h144.2.2 (by omega)) | skip
      clear h144
      have o146 : vp_in v3 24 := vi_of rfl (by omega) (by omega)
      refine ⟨o146, ?_⟩
      intro I147 eI147
      have w_I147 : WD Z I147 := by rw [eI147]; exact WD_putA w_I137 12 3 kv0 eb140 kb140 rfl rfl (by decide) (by constructor <;> omega)
      have f_I147 : FR [(12, 3)] Z I137 Z I147 := by rw [eI147]; exact FR_upA w_I137.2.1 kv0 eb140 kb140 rfl rfl List.mem_cons_self
      have q_I147 : FR Ws_X12_stairs Z0 I0 Z I147 := q_I137.trans w0.1 w0.2.1 (f_I147.mono (by decide))
      have u148 : (I147 v0 19).toInt = (I137 v0 19).toInt := by rw [f_I147.2.2.1 v0 12 19 kv0 (by decide) (by decide)]
      have u149 : (I147 v0 0).toInt = (I137 v0 0).toInt := by rw [f_I147.2.2.1 v0 12 0 kv0 (by decide) (by decide)]
      have t150 : (0 : Int32).toInt = 0 := rfl
      exact ⟨(8 - (0 : Int32).toInt).toNat + 1, l10_X12_stairs_L185 w0 v0 kv0_0 uM huM v1 v3  hQ ih  _ (0 : Int32) Z I147 L w_I147 bd_Z q_I147 cp_Z   (by omega) (by omega) (by omega)⟩

set_option maxHeartbeats 4000000 in
theorem s10_X12_stairs {B : Nat × Nat} {T : Nat} {Z : jZ} {I : jI} {L : jL} (w : WD Z I) (bd : BUD B Z T) (v0 : Nat) (kv0 : jk Z v0 12) (uM : Nat) (huM : jr Z v0 18 = some uM) {Q : Int32 → jZ → jI → jL → Prop} (hQ : ∀ (r : Int32) (Z' : jZ) (I' : jI) (L' : jL), WD Z' I' → BUD B Z' T → FR Ws_X12_stairs Z I Z' I' → CP Z Z' → ((I' v0 19).toInt = 0 ∧ r.toInt = stA (I uM) (I v0 19).toInt ∧ (0 ≤ r.toInt → (I' v0 0).toInt = r.toInt) ∧ (r.toInt < 0 → (I' v0 0).toInt = (I v0 0).toInt)) → Q r Z' I' L') : f_X12_stairs B v0 Z I L Q := by
  obtain ⟨b9, e9, kuM, l9⟩ := sh_f w.1 kv0 (j := 18) (k := 13) (m := 80) rfl
  cases huM.symm.trans e9
  have hne : uM ≠ v0 := fun e => by subst e; have := kv0.2.symm.trans kuM.2; omega
  have sz : 0 ≤ (I v0 19).toInt ∧ (I v0 19).toInt ≤ 80 := w.fld 12 19 kv0 (by decide)
  unfold f_X12_stairs
  intro I1 e1 b eb
  cases huM.symm.trans eb
  have w1 : WD Z I1 := by rw [e1]; exact WD_putF w 12 22 kv0 (by decide) (by decide) trivial
  have f1 : FR Ws_X12_stairs Z I Z I1 := by rw [e1]; exact FR_putF kv0 (by decide) (by decide)
  have z1 : I1 v0 19 = I v0 19 := by rw [e1, jpI_o (by decide)]
  have b1 : I1 uM = I uM := by rw [e1, jpI_ne hne]
  refine s_X12_begin w1 bd v0 uM (I1 v0 19) 76 kv0 kuM v0 12 18 kv0 huM (fun Z2 I2 L2 w2 bd2 f2 cp2 p2 => ?_)
  obtain ⟨r2, p24, p25, p26, p27⟩ := p2
  intro I3 e3
  have k2 : jk Z2 v0 12 := (f2.1 _ _ kv0).1
  have kM2 : jk Z2 uM 13 := (f2.1 _ _ kuM).1
  have lM2 : jlen Z2 uM = 80 := (f2.1 _ _ kuM).2.trans l9
  have h2M : jr Z2 v0 18 = some uM := (f2.2.1 v0 12 18 kv0 (by decide) (by decide)).trans huM
  have b2 : I2 uM = I1 uM := f2.2.2.2 v0 12 18 uM kv0 huM (by rw [kuM.2]; rfl) rfl (by decide)
  have w3 : WD Z2 I3 := by rw [e3]; exact WD_putF w2 12 19 k2 (by decide) (by decide) (show rg 0 80 _ from ⟨by decide, by decide⟩)
  have f2' : FR Ws_X12_stairs Z I Z2 I2 := f1.trans w.1 w.2.1 (f2.mono (by decide))
  have f3 : FR Ws_X12_stairs Z I Z2 I3 := f2'.trans w.1 w.2.1 (by rw [e3]; exact FR_putF k2 (by decide) (by decide))
  have b3 : I3 uM = I uM := by rw [e3, jpI_ne hne, b2, b1]
  have z3 : (I3 v0 19).toInt = 0 := by rw [e3, jpI_at]; rfl
  have t : MT Z2 I3 v0 uM (I v0 19).toInt := ⟨w3, k2, h2M, r2, kM2, lM2, sz.1, sz.2⟩
  have s : MR Z2 I3 v0 (I v0 19).toInt I3 0 (-1) := by
    refine ⟨w3, FR.rf, ?_, ?_, ?_, ?_⟩
    · rw [e3, jpI_o (by decide)]; exact p26
    · rw [e3, jpI_o (by decide)]; exact p27
    · rw [e3, jpI_o (by decide), p24, z1]
    · rw [e3, jpI_o (by decide)]; exact p25
  have fin : ∀ (r : Int32) (I' : jI) (a' F' : Int), MR Z2 I3 v0 (I v0 19).toInt I' a' F' → r.toInt = stA (I uM) (I v0 19).toInt → r.toInt < 0 → Q r Z2 I' L2 := by
    intro r I' a' F' s' e' hr
    refine hQ r Z2 I' L2 s'.1 bd2 (f3.trans w.1 w.2.1 (s'.2.1.mono (by decide))) cp2 ⟨?_, e', fun q => by omega, fun _ => ?_⟩
    · rw [s'.2.1.2.2.1 v0 12 19 k2 (by decide) (by decide)]
      exact z3
    · rw [s'.2.1.2.2.1 v0 12 0 k2 (by decide) (by decide), e3, jpI_o (by decide), f2.2.2.1 v0 12 0 kv0 (by decide) (by decide), e1, jpI_o (by decide)]
  have z0 : (0 : Int32).toInt = 0 := rfl
  have e24 : (I3 v0 24).toInt = (I v0 19).toInt := s.2.2.2.2.1
  unfold f_X12_stairs_b38
  refine ⟨fun c => ?_, fun c => ?_⟩
  · have c := (i_le e24 z0).mp c
    have hS : stA (I uM) (I v0 19).toInt = -100 := by unfold stA; rw [if_pos c]
    refine ⟨1, ?_⟩
    unfold f_X12_stairs_L39
    refine ⟨fun _ => ?_, fun c => absurd rfl c⟩
    have b102 : f_X12_stairs_b102 B Q v0 0 Z2 I3 L2 := by
      unfold f_X12_stairs_b102
      refine m_fine s (fun _ => ⟨fun _ => ⟨fun c1 => absurd c1 (by decide), fun _ => fin _ I3 0 (-1) s (by rw [hS]; rfl) (by decide)⟩, fun c => absurd c (by decide)⟩) (fun c => absurd rfl c)
    unfold f_X12_stairs_b83
    refine ⟨fun _ => b102, fun c1 => ?_⟩
    exact absurd ((i_le e24 s.2.2.1).mpr (by omega)) c1
  · have c := (not_congr (i_le e24 z0)).mp c
    refine ⟨79, m_lines t (fun I' a F v1 s' e => ?_) 79 77 0 0 I3 s (by rw [z0]; omega) (by rw [z0]; omega) (by omega) (by omega) (by omega) (by omega) (by rw [z0])⟩
    refine m_b83 t s' (by omega) e (fun r I'' a' F' s'' e' hr => fin r I'' a' F' s'' (by rw [b3] at e'; exact e') hr) (fun I'' a' F' s'' e' h2 I66 e66 => ?_)
    rw [b3] at e'
    have v24 : v1.toInt ≤ 24 := by
      have := rdS_hi (g := GS (I3 uM) (min (I v0 19).toInt 76)) (lim := min (I v0 19).toInt 76) 77 0 0 (by omega) (by omega)
      rcases e with ⟨q1, q2⟩ | ⟨q1, q2, q0, q3⟩ | ⟨q1, q2, q3⟩
      · rw [← q2] at this; exact this
      · rw [← q3] at this; exact this
      · rw [← q3] at this; exact this
    have w66 : WD Z2 I66 := by rw [e66]; exact WD_putF s''.1 12 0 k2 (by decide) (by decide) (show rg 0 24 _ from ⟨by omega, by omega⟩)
    have f66 : FR Ws_X12_stairs Z I Z2 I66 := (f3.trans w.1 w.2.1 (s''.2.1.mono (by decide))).trans w.1 w.2.1 (by rw [e66]; exact FR_putF k2 (by decide) (by decide))
    have z66 : (I66 v0 19).toInt = 0 := by
      rw [e66, jpI_o (by decide), s''.2.1.2.2.1 v0 12 19 k2 (by decide) (by decide)]
      exact z3
    have z60 : (I66 v0 0).toInt = v1.toInt := by rw [e66, jpI_at]
    exact ⟨25, l10_X12_stairs_L131 w v0 kv0 uM huM v1 hQ 25 0 Z2 I66 L2 w66 bd2 f66 cp2 (by rw [z0]; omega) (by rw [z0]; omega)⟩
