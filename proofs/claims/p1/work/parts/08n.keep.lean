/-! ===== p1: keep, law, stairs ===== -/
theorem kf {Z : jZ} {a c j k m b : Nat} (h : SH Z) (hk : jk Z a c) (hs : jsh c j = some (k, some m)) (e : jr Z a j = some b) : jk Z b k ∧ jlen Z b = m := by
  obtain ⟨b', e', h1, h2⟩ := sh_f h hk hs
  rw [e] at e'
  cases e'
  exact ⟨h1, h2⟩
theorem ko {Z : jZ} {a c j k b : Nat} (h : SH Z) (hk : jk Z a c) (hs : jsh c j = some (k, none)) (e : jr Z a j = some b) : jk Z b k := by
  obtain ⟨b', e', h1⟩ := sh_o h hk hs
  rw [e] at e'
  cases e'
  exact h1
theorem kne {Z : jZ} {a b k k' : Nat} (ha : jk Z a k) (hb : jk Z b k') (h : k ≠ k') : a ≠ b := fun e => by
  subst e
  exact h (jk_one ha hb)
/-- only cells of the kinds in S were written -/
def frS (Z : jZ) (S : List Nat) (I I' : jI) : Prop := ∀ a k, jk Z a k → k ∉ S → I' a = I a
theorem frS.refl {Z : jZ} {S : List Nat} {I : jI} : frS Z S I I := fun _ _ _ _ => rfl
theorem frS.up {Z : jZ} {S : List Nat} {I I' : jI} {b k : Nat} {f : Nat → Int32} (h : frS Z S I I') (kb : jk Z b k) (hk : k ∈ S) : frS Z S I (va_up I' b f) := fun a c ka hc => by
  rw [va_up_ne _ _ (fun e => by subst e; exact hc ((jk_one kb ka) ▸ hk))]
  exact h a c ka hc
theorem lt2 {v : Int32} : v < 2 ↔ ¬ (1 : Int32) < v := by
  have e1 : (1 : Int32).toInt = 1 := rfl
  have e2 : (2 : Int32).toInt = 2 := rfl
  rw [Int32.lt_iff_toInt_lt, Int32.lt_iff_toInt_lt, e1, e2]
  omega
def kp (v : Int32) : Int32 := if v < 0 then 0 else if 1 < v then 0 else 1
set_option maxRecDepth 100000 in
theorem x_keep {v1 : Int32} {v0 : Nat} {Z : jZ} {I : jI} {L : jL} {Q : Int32 → jI → jL → Prop} (h0 : NEW Z I L) (k : jk Z v0 11) (h : ∀ I', frS Z [2, 14] I I' → Q (kp v1) I' L) : f_X11_keep v0 v1 Z I L Q := by
  unfold f_X11_keep
  refine ⟨fun c => by simpa [kp, c] using h I frS.refl, fun c b18 e18 => ⟨fun d b20 e20 => ?_, fun d => ?_⟩⟩
  · have i2 : vp_in v1 2 := in_of (N := 2) rfl c (Int32.not_le.mpr d)
    refine ⟨i2, fun b22 e22 b23 e23 => ?_⟩
    obtain ⟨k17, l17⟩ := kf h0.1 k (j := 8) (k := 17) (m := 2) rfl e20
    obtain ⟨b, e, k2⟩ := h0.1.2.2.1 b20 k17 v1.toNatClampNeg (by rw [l17]; exact in_lt i2)
    have e : jr Z b20 v1.toNatClampNeg = some b := e
    rw [e22] at e
    cases e
    have k8 := ko h0.1 k (j := 2) (k := 8) rfl e23
    unfold f_X2_putStairs
    intro b1 e1 b2 e2
    refine ⟨by decide, fun I4 e4 b5 e5 b6 e6 => ⟨by decide, fun I8 e8 b9 e9 b10 e10 b11 e11 => ⟨by decide, fun I13 e13 b29 e29 b30 e30 => ⟨by decide, fun I32 e32 I33 e33 => ⟨1, ?_⟩⟩⟩⟩⟩
    have g4 : frS Z [2, 14] I I4 := by rw [e4]; exact frS.refl.up (kf h0.1 k2 (j := 0) (k := 14) (m := 24) rfl e2).1 (by decide)
    have g8 : frS Z [2, 14] I I8 := by rw [e8]; exact g4.up (kf h0.1 k2 (j := 1) (k := 14) (m := 24) rfl e6).1 (by decide)
    have g13 : frS Z [2, 14] I I13 := by rw [e13]; exact g8.up (kf h0.1 k2 (j := 2) (k := 14) (m := 192) rfl e11).1 (by decide)
    have g32 : frS Z [2, 14] I I32 := by rw [e32]; exact g13.up (kf h0.1 k2 (j := 3) (k := 14) (m := 8) rfl e30).1 (by decide)
    have g33 : frS Z [2, 14] I I33 := by rw [e33]; exact g32.up k2 (by decide)
    have z : I33 v0 4 = 0 := by
      rw [g33 v0 11 k (by decide)]
      exact ((h0.2 v0 11 k).1 4).trans (by simp [jz])
    have d' := lt2.mp d
    refine ⟨fun _ I3 e3 => ?_, fun q => absurd (show I33 v0 4 ≤ 0 by rw [z]; decide) q⟩
    have g3 : frS Z [2, 14] I I3 := by rw [e3]; exact g33.up k2 (by decide)
    simpa [kp, c, d'] using h I3 g3
  · have d' : (1 : Int32) < v1 := Decidable.not_not.mp (fun q => d (lt2.mpr q))
    simpa [kp, c, d'] using h I frS.refl
section P1KEEP
variable {Z : jZ} {L : jL} {v0 : Nat}
theorem putP {v1 : Int32} {p : Nat} {I : jI} {Q : jI → jL → Prop} (hZ : SH Z) (k : jk Z v0 12) (hp : p < 532) (e : I v0 66 = nI p) (h : ∀ I', I' v0 66 = nI (p + 1) → Q I' L) : f_X12_put v0 v1 Z I L Q := by
  unfold f_X12_put
  intro b1 e1
  have k14 := (kf hZ k (j := 62) (k := 14) (m := 532) rfl e1).1
  refine ⟨by rw [e]; exact vp_in_nI hp (by decide), fun I3 e3 I4 e4 => h I4 ?_⟩
  rw [e4, jpI_at, e3, jpI_off (kne k k14 (by decide)), e, nI_1]
theorem lt8 : ∀ i < 8, ¬ (8 : Int32) ≤ nI i := by decide
theorem lt6 : ∀ i < 6, ¬ (6 : Int32) ≤ nI i := by decide
theorem lt24 : ∀ i < 24, ¬ (24 : Int32) ≤ nI i := by decide
variable {Q : Int32 → jI → jL → Prop}
theorem keepA (hZ : SH Z) (k : jk Z v0 12) (h : ∀ I, Q 1 I L) : ∀ (m i p : Nat) (I : jI), i + m = 8 → p + m ≤ 532 → I v0 66 = nI p → f_X12_keep_L157 Z Q (m + 1) v0 (nI i) I L := by
  intro m
  induction m with
  | zero =>
    intro i p I hi hp e
    have hi : i = 8 := by omega
    subst hi
    exact ⟨fun _ => h I, fun q => absurd (by decide) q⟩
  | succ m ih =>
    intro i p I hi hp e
    refine ⟨fun q => absurd q (lt8 i (by omega)), fun _ b2 e2 => ⟨vp_in_nI (by omega) (by decide), putP hZ k (by omega) e (fun I6 e6 x9 e9 => ?_)⟩⟩
    rw [e9, nI_1]
    exact ih (i + 1) (p + 1) I6 (by omega) (by omega) e6
theorem keepB (hZ : SH Z) (k : jk Z v0 12) (h : ∀ I, Q 1 I L) : ∀ (m i p : Nat) (I : jI), i + m = 6 → p + 3 * m + 8 ≤ 532 → I v0 66 = nI p → f_X12_keep_L113 Z Q (m + 1) v0 (nI i) I L := by
  intro m
  induction m with
  | zero =>
    intro i p I hi hp e
    have hi : i = 6 := by omega
    subst hi
    exact ⟨fun _ => ⟨9, keepA hZ k h 8 0 p I rfl (by omega) e⟩, fun q => absurd (by decide) q⟩
  | succ m ih =>
    intro i p I hi hp e
    refine ⟨fun q => absurd q (lt6 i (by omega)), fun _ b2 e2 => ⟨vp_in_nI (by omega) (by decide), putP hZ k (by omega) e (fun I6 e6 b3 e3 => ⟨vp_in_nI (by omega) (by decide), putP hZ k (by omega) e6 (fun I7 e7 b4 e4 => ⟨vp_in_nI (by omega) (by decide), putP hZ k (by omega) e7 (fun I8 e8 x9 e9 => ?_)⟩)⟩)⟩⟩
    rw [e9, nI_1]
    exact ih (i + 1) (p + 3) I8 (by omega) (by omega) e8
theorem keepC (hZ : SH Z) (k : jk Z v0 12) (h : ∀ I, Q 1 I L) : ∀ (m i p : Nat) (I : jI), i + m = 192 → p + m + 26 ≤ 532 → I v0 66 = nI p → f_X12_keep_L88 Z Q (m + 1) v0 (nI i) I L := by
  intro m
  induction m with
  | zero =>
    intro i p I hi hp e
    have hi : i = 192 := by omega
    subst hi
    exact ⟨fun _ => ⟨7, keepB hZ k h 6 0 p I rfl (by omega) e⟩, fun q => absurd (by decide) q⟩
  | succ m ih =>
    intro i p I hi hp e
    refine ⟨fun q => absurd q (lt192 i (by omega)), fun _ b2 e2 => ⟨vp_in_nI (by omega) (by decide), putP hZ k (by omega) e (fun I6 e6 x9 e9 => ?_)⟩⟩
    rw [e9, nI_1]
    exact ih (i + 1) (p + 1) I6 (by omega) (by omega) e6
theorem keepD (hZ : SH Z) (k : jk Z v0 12) (h : ∀ I, Q 1 I L) : ∀ (m i p : Nat) (I : jI), i + m = 24 → p + 2 * m + 218 ≤ 532 → I v0 66 = nI p → f_X12_keep_L54 Z Q (m + 1) v0 (nI i) I L := by
  intro m
  induction m with
  | zero =>
    intro i p I hi hp e
    have hi : i = 24 := by omega
    subst hi
    exact ⟨fun _ => ⟨193, keepC hZ k h 192 0 p I rfl (by omega) e⟩, fun q => absurd (by decide) q⟩
  | succ m ih =>
    intro i p I hi hp e
    refine ⟨fun q => absurd q (lt24 i (by omega)), fun _ b2 e2 => ⟨vp_in_nI (by omega) (by decide), putP hZ k (by omega) e (fun I6 e6 b3 e3 => ⟨vp_in_nI (by omega) (by decide), putP hZ k (by omega) e6 (fun I7 e7 x9 e9 => ?_)⟩)⟩⟩
    rw [e9, nI_1]
    exact ih (i + 1) (p + 2) I7 (by omega) (by omega) e7
end P1KEEP
theorem in01 {v : Int32} (c : ¬ v < 0) (d : ¬ (1 : Int32) < v) : v = 0 ∨ v = 1 := by
  have c := Int32.le_iff_toInt_le.mp (Int32.not_lt.mp c)
  have d := Int32.le_iff_toInt_le.mp (Int32.not_lt.mp d)
  have e0 : (0 : Int32).toInt = 0 := rfl
  have e1 : (1 : Int32).toInt = 1 := rfl
  rw [e0] at c
  rw [e1] at d
  rcases (show v.toInt = 0 ∨ v.toInt = 1 by omega) with q | q
  · exact Or.inl (Int32.toInt_inj.mp (q.trans e0.symm))
  · exact Or.inr (Int32.toInt_inj.mp (q.trans e1.symm))
theorem m_keep {v1 : Int32} {v0 : Nat} {Z : jZ} {I : jI} {L : jL} {Q : Int32 → jI → jL → Prop} (hZ : SH Z) (k : jk Z v0 12) (h : ∀ I, Q (kp v1) I L) : f_X12_keep v0 v1 Z I L Q := by
  unfold f_X12_keep
  intro I1 e1
  unfold f_X12_in
  refine ⟨fun c => ⟨fun q => absurd rfl q, fun _ => by simpa [kp, c] using h I1⟩, fun c => ⟨fun d => ⟨fun q => absurd rfl q, fun _ => by simpa [kp, c, d] using h I1⟩, fun d => ⟨fun _ b69 e69 => ?_, fun q => absurd q (by decide)⟩⟩⟩
  have i2 : vp_in v1 2 := in_of (N := 2) rfl c (Int32.not_le.mpr (lt2.mpr d))
  refine ⟨i2, fun I71 e71 b72 e72 => ⟨i2, fun I74 e74 b75 e75 => ⟨i2, fun I77 e77 I78 e78 => ⟨25, ?_⟩⟩⟩⟩
  have hQ : ∀ I, Q 1 I L := fun I => by simpa [kp, c, d] using h I
  rcases in01 c d with rfl | rfl
  · exact keepD hZ k hQ 24 0 0 I78 rfl (by decide) (by rw [e78, jpI_at]; rfl)
  · exact keepD hZ k hQ 24 0 266 I78 rfl (by decide) (by rw [e78, jpI_at]; rfl)
/-! ===== law ===== -/
def lw (v : Int32) : Int32 := if v = 0 then 0 else if v = 1 then 0 else -100
theorem lawRead {b t : Nat} {Z : jZ} {I : jI} {L : jL} {Q : Int32 → jI → jL → Prop} (hZ : SH Z) (kb : jk Z b 3) (kt : jk Z t 10) (zt : I t 1 = 0) (h : ∀ I', frS Z [3, 10, 14] I I' → Q 0 I' L) : f_X3_read b t Z I L Q := by
  unfold f_X3_read
  intro I21 e21 I22 e22 I23 e23 I24 e24
  have hne : t ≠ b := kne kt kb (by decide)
  have g21 : frS Z [3, 10, 14] I I21 := by rw [e21]; exact frS.refl.up kb (by decide)
  have g22 : frS Z [3, 10, 14] I I22 := by rw [e22]; exact g21.up kb (by decide)
  have g23 : frS Z [3, 10, 14] I I23 := by rw [e23]; exact g22.up kb (by decide)
  have g24 : frS Z [3, 10, 14] I I24 := by rw [e24]; exact g23.up kb (by decide)
  have z24 : I24 t 1 = 0 := by rw [e24, jpI_off hne, e23, jpI_off hne, e22, jpI_off hne, e21, jpI_off hne]; exact zt
  have n8 : I24 b 8 = -1 := by rw [e24, jpI_ne (by decide), e23, jpI_at]
  have n5 : I24 b 5 = 0 := by rw [e24, jpI_ne (by decide), e23, jpI_ne (by decide), e22, jpI_ne (by decide), e21, jpI_at]
  refine ⟨fun _ => ?_, fun q => absurd (show I24 t 1 ≤ 0 by rw [z24]; decide) q⟩
  unfold f_X3_read_b77
  refine ⟨fun _ b13 e13 b14 e14 => ⟨by decide, fun I16 e16 I17 e17 I18 e18 => ⟨1, ?_⟩⟩, fun q => absurd n8 q⟩
  have k14 := (kf hZ kb (j := 0) (k := 14) (m := 40) rfl e14).1
  have g16 : frS Z [3, 10, 14] I I16 := by rw [e16]; exact g24.up k14 (by decide)
  have g17 : frS Z [3, 10, 14] I I17 := by rw [e17]; exact g16.up kb (by decide)
  have g18 : frS Z [3, 10, 14] I I18 := by rw [e18]; exact g17.up kb (by decide)
  have z3 : I18 b 3 = 0 := by
    rw [e18, jpI_ne (by decide), e17, jpI_at, e16, va_up_ne _ _ (kne kb k14 (by decide))]
    exact n5
  exact ⟨fun _ => h I18 g18, fun q => absurd (show I18 b 3 ≤ 0 by rw [z3]; decide) q⟩
theorem x_law {v1 : Int32} {v0 : Nat} {Z : jZ} {I : jI} {L : jL} {Q : Int32 → jI → jL → Prop} (h0 : NEW Z I L) (k : jk Z v0 11) (h : ∀ I', frS Z [3, 10, 14] I I' → Q (lw v1) I' L) : f_X11_law v0 v1 Z I L Q := by
  have tail : ∀ r I', r = lw v1 → frS Z [3, 10, 14] I I' → f_X11_law_b45 Z Q v0 r I' L := by
    intro r I' e g
    unfold f_X11_law_b45 f_X10_clear
    intro b1 e1 I1 e2
    subst e
    exact h I1 (by rw [e2]; exact g.up (ko h0.1 k (j := 0) (k := 10) rfl e1) (by decide))
  have zt : ∀ b, jk Z b 10 → I b 1 = 0 := fun b kb => ((h0.2 b 10 kb).1 1).trans (by simp [jz])
  unfold f_X11_law
  refine ⟨fun c => ⟨fun d => tail _ _ (by simp [lw, c, d]) frS.refl, fun d b9 e9 b10 e10 b11 e11 => ?_⟩, fun c b9 e9 b10 e10 b11 e11 => ?_⟩
  · have k8 := ko h0.1 k (j := 2) (k := 8) rfl e9
    have k3 := ko h0.1 k8 (j := 7) (k := 3) rfl e10
    have k10 := ko h0.1 k (j := 0) (k := 10) rfl e11
    exact lawRead h0.1 k3 k10 (zt _ k10) (fun I' g => tail _ _ (by subst d; rfl) g)
  · have k8 := ko h0.1 k (j := 2) (k := 8) rfl e9
    have k3 := ko h0.1 k8 (j := 6) (k := 3) rfl e10
    have k10 := ko h0.1 k (j := 0) (k := 10) rfl e11
    exact lawRead h0.1 k3 k10 (zt _ k10) (fun I' g => tail _ _ (by subst c; rfl) g)
theorem m_law {v1 : Int32} {v0 : Nat} {Z : jZ} {I : jI} {L : jL} {Q : Int32 → jZ → jI → jL → Prop} (h0 : MN I v0) (h : ∀ Z I, Q (lw v1) Z I L) : f_X12_law v0 v1 Z I L Q := by
  unfold f_X12_law
  intro I21 e21 x22 e22 b23 e23
  have h0 : MN I21 v0 := by rw [e21]; exact h0.put
  have z : x22 = 0 := e22.trans ((h0 19 (by decide)).trans (by simp [jz]))
  unfold f_X12_begin
  intro Z1 eZ1 I4 e4 I5 e5 I6 e6 I7 e7 I30 e30
  unfold f_X12_in
  refine ⟨fun c => ⟨fun q => absurd rfl q, fun _ => ?_⟩, fun c => ⟨fun d => ⟨fun q => absurd rfl q, fun _ => ?_⟩, fun d => ⟨fun _ I38 e38 => ⟨fun _ => ?_, fun q => absurd (show x22 ≤ 0 by rw [z]; decide) q⟩, fun q => absurd q (by decide)⟩⟩⟩
  · have n0 : v1 ≠ 0 := fun e => absurd (e ▸ c) (by decide)
    have n1 : v1 ≠ 1 := fun e => absurd (e ▸ c) (by decide)
    simpa [lw, n0, n1] using h Z1 I30
  · have n0 : v1 ≠ 0 := fun e => absurd (e ▸ d) (by decide)
    have n1 : v1 ≠ 1 := fun e => absurd (e ▸ d) (by decide)
    simpa [lw, n0, n1] using h Z1 I30
  · have i2 : vp_in v1 2 := in_of (N := 2) rfl c (Int32.not_le.mpr (lt2.mpr d))
    unfold f_X12_law_b83
    refine ⟨1, fun _ b2 e2 => ⟨i2, fun I9 e9 => ?_⟩, fun q => absurd (show x22 ≤ 0 by rw [z]; decide) q⟩
    rcases in01 c d with rfl | rfl
    · exact h Z1 I9
    · exact h Z1 I9
/-! ===== stairs ===== -/
theorem x_stairs {v0 : Nat} {Z : jZ} {I : jI} {L : jL} {Q : Int32 → jI → jL → Prop} (h0 : NEW Z I L) (k : jk Z v0 11) (h : ∀ I', frS Z [9, 10] I I' → Q (-100) I' L) : f_X11_stairs v0 Z I L Q := by
  unfold f_X11_stairs
  intro b30 e30 b31 e31
  have k9 := ko h0.1 k (j := 1) (k := 9) rfl e30
  have k10 := ko h0.1 k (j := 0) (k := 10) rfl e31
  have zt : I b31 1 = 0 := ((h0.2 b31 10 k10).1 1).trans (by simp [jz])
  have hne : b31 ≠ b30 := kne k10 k9 (by decide)
  unfold f_X9_read
  intro I24 e24 I25 e25 I26 e26 I27 e27
  have g24 : frS Z [9, 10] I I24 := by rw [e24]; exact frS.refl.up k9 (by decide)
  have g25 : frS Z [9, 10] I I25 := by rw [e25]; exact g24.up k9 (by decide)
  have g26 : frS Z [9, 10] I I26 := by rw [e26]; exact g25.up k9 (by decide)
  have g27 : frS Z [9, 10] I I27 := by rw [e27]; exact g26.up k9 (by decide)
  have z27 : I27 b31 1 = 0 := by rw [e27, jpI_off hne, e26, jpI_off hne, e25, jpI_off hne, e24, jpI_off hne]; exact zt
  have n8 : I27 b30 8 = -1 := by rw [e27, jpI_ne (by decide), e26, jpI_at]
  have n5 : I27 b30 5 = 0 := by rw [e27, jpI_ne (by decide), e26, jpI_ne (by decide), e25, jpI_ne (by decide), e24, jpI_at]
  refine ⟨fun _ => ?_, fun q => absurd (show I27 b31 1 ≤ 0 by rw [z27]; decide) q⟩
  unfold f_X9_read_b40
  refine ⟨1, fun _ => ?_, fun q => absurd rfl q⟩
  unfold f_X9_read_b81
  refine ⟨fun q => absurd n8 q, fun _ => ⟨fun _ => ?_, fun q => absurd (show I27 b31 1 ≤ 76 by rw [z27]; decide) q⟩⟩
  unfold f_X9_read_b104
  refine ⟨fun _ => ⟨fun q => absurd q (by rw [n5]; decide), fun _ b38 e38 => ?_⟩, fun q => absurd n8 q⟩
  unfold f_X10_clear
  intro I1 e1
  refine ⟨fun q => absurd q (by decide), fun _ => h I1 ?_⟩
  rw [e1]
  exact g27.up (ko h0.1 k (j := 0) (k := 10) rfl e38) (by decide)
theorem m_stairs {v0 : Nat} {Z : jZ} {I : jI} {L : jL} {Q : Int32 → jZ → jI → jL → Prop} (h0 : MN I v0) (h : ∀ Z I, Q (-100) Z I L) : f_X12_stairs v0 Z I L Q := by
  unfold f_X12_stairs
  intro I100 e100 b101 e101
  have h0 : MN I100 v0 := by rw [e100]; exact h0.put
  have z : I100 v0 19 = 0 := (h0 19 (by decide)).trans (by simp [jz])
  rw [z]
  unfold f_X12_begin
  intro Z1 eZ1 I4 e4 I5 e5 I6 e6 I7 e7 I8 e8
  have z24 : I8 v0 24 = 0 := by rw [e8, jpI_ne (by decide), e7, jpI_ne (by decide), e6, jpI_ne (by decide), e5, jpI_ne (by decide), e4, jpI_at]
  have z26 : I8 v0 26 = 0 := by rw [e8, jpI_ne (by decide), e7, jpI_ne (by decide), e6, jpI_at]
  have z27 : I8 v0 27 = -1 := by rw [e8, jpI_ne (by decide), e7, jpI_at]
  refine ⟨fun _ => ?_, fun q => absurd (show I8 v0 24 ≤ 0 by rw [z24]; decide) q⟩
  unfold f_X12_stairs_b38
  refine ⟨1, fun _ => ?_, fun q => absurd rfl q⟩
  unfold f_X12_stairs_b83
  refine ⟨fun _ => ?_, fun q => absurd (show I8 v0 24 ≤ I8 v0 26 by rw [z24, z26]; decide) q⟩
  unfold f_X12_stairs_b102 f_X12_fine
  exact ⟨fun q => absurd z27 q, fun _ => ⟨fun _ => ⟨fun q => absurd q (by decide), fun _ => h Z1 I8⟩, fun q => absurd q (by decide)⟩⟩
section P1CASES12
variable {xs : Nat → Int32} {K : Nat → Nat → Nat → Int32 → jZ → jI → jL → Prop} {v1 v2 v3 : Nat} {Z : jZ} {I : jI} {L : jL}
theorem tc_keep (hN : NEW Z I L) (k1 : jk Z v1 11) (k2 : jk Z v2 12) (hK : ∀ Z I L, K v1 v2 v3 6 Z I L) : f_L_law_b1686 xs 6 K v1 v2 v3 0 Z I L := by
  unfold f_L_law_b1686
  exact ⟨vi1, x_keep hN k1 (fun I' _ => ⟨vi1, m_keep hN.1 k2 (fun I => ⟨fun _ => tc_end_ hK _ _ _, fun e => absurd rfl e⟩)⟩)⟩
theorem tc_law (hN : NEW Z I L) (k1 : jk Z v1 11) (k2 : jk Z v2 12) (hK : ∀ Z I L, K v1 v2 v3 6 Z I L) : f_L_law_b307 xs 6 K v1 v2 v3 0 Z I L := by
  unfold f_L_law_b307
  exact ⟨vi1, x_law hN k1 (fun I' g => ⟨vi1, m_law ((hN.m k2).of k2 (fun a ka => g a 12 ka (by decide))) (fun Z I => ⟨fun _ => tc_end_ hK _ _ _, fun e => absurd rfl e⟩)⟩)⟩
theorem tc_stairs (hN : NEW Z I L) (k1 : jk Z v1 11) (k2 : jk Z v2 12) (hK : ∀ Z I L, K v1 v2 v3 6 Z I L) : f_L_law_b294 xs 6 K v1 v2 v3 0 Z I L := by
  unfold f_L_law_b294
  exact x_stairs hN k1 (fun I' g => m_stairs ((hN.m k2).of k2 (fun a ka => g a 12 ka (by decide))) (fun Z I => ⟨fun _ => tc_end_ hK _ _ _, fun e => absurd rfl e⟩))
end P1CASES12
