/-! ===== the model's pool: but for what it reads, the same ===== -/
def SZ (Z Z' : jZ) : Prop := Z'.1 = Z.1 ∧ Z'.2.1 = Z.2.1 ∧ Z'.2.2.1 = Z.2.2.1 ∧ ∀ a j, ¬ (Z.2.1 a = 12 ∧ j = 23) → jr Z' a j = jr Z a j
theorem SZ.rf {Z : jZ} : SZ Z Z := ⟨rfl, rfl, rfl, fun _ _ _ => rfl⟩
theorem SZ.trans {Z Z' Z'' : jZ} (h : SZ Z Z') (h' : SZ Z' Z'') : SZ Z Z'' := ⟨h'.1.trans h.1, h'.2.1.trans h.2.1, h'.2.2.1.trans h.2.2.1, fun a j hn => (h'.2.2.2 a j (by rw [h.2.1]; exact hn)).trans (h.2.2.2 a j hn)⟩
theorem SZ.kk {Z Z' : jZ} (h : SZ Z Z') {a c : Nat} : jk Z' a c ↔ jk Z a c := by
  constructor
  · rintro ⟨h1, h2⟩; exact ⟨by rw [← h.1]; exact h1, by rw [← h.2.1]; exact h2⟩
  · rintro ⟨h1, h2⟩; exact ⟨by rw [h.1]; exact h1, by rw [h.2.1]; exact h2⟩
theorem SZ.cap {Z Z' : jZ} (h : SZ Z Z') (x : Nat) : capN Z' x = capN Z x := by
  have : (∃ r, jk Z' r 0 ∧ jr Z' r 0 = some x) ↔ (∃ r, jk Z r 0 ∧ jr Z r 0 = some x) := by
    constructor
    · rintro ⟨r, h1, h2⟩
      have h1' := h.kk.mp h1
      exact ⟨r, h1', by rw [← h.2.2.2 r 0 (fun q => by omega)]; exact h2⟩
    · rintro ⟨r, h1, h2⟩
      exact ⟨r, h.kk.mpr h1, by rw [h.2.2.2 r 0 (fun q => by omega)]; exact h2⟩
  unfold capN
  by_cases hh : ∃ r, jk Z r 0 ∧ jr Z r 0 = some x
  · rw [if_pos hh, if_pos (this.mpr hh)]
  · rw [if_neg hh, if_neg (fun q => hh (this.mp q))]
theorem SZ.pot {Z Z' : jZ} (h : SZ Z Z') : potc Z' = potc Z := by
  unfold potc
  rw [h.1]
  congr 1
  refine List.map_congr_left (fun a _ => ?_)
  rw [h.2.1]
  by_cases h7 : Z.2.1 a = 7
  · rw [if_pos h7, if_pos h7, h.cap]
    have : klen Z' a = klen Z a := by
      unfold klen
      rw [h.2.2.2 a 0 (fun q => by omega)]
      cases jr Z a 0 with
      | none => rfl
      | some b => exact congrFun h.2.2.1 b
    rw [this]
  · rw [if_neg h7, if_neg h7]
theorem SZ.cs {Z Z' : jZ} (h : SZ Z Z') : jcz Z' = jcz Z ∧ jsz Z' = jsz Z := by
  unfold jcz jsz
  rw [h.1, h.2.1, h.2.2.1]
  exact ⟨rfl, rfl⟩
theorem SZ.bud {B : Nat × Nat} {T : Nat} {Z Z' : jZ} (h : SZ Z Z') (b : BUD B Z T) : BUD B Z' T := by
  unfold BUD
  rw [h.pot, h.cs.1, h.cs.2]
  exact b
/-- what the model reads is put -/
theorem WD_read {Z : jZ} {I : jI} {a b : Nat} (w : WD Z I) (ha : jk Z a 12) (hb : jk Z b 13) : WD (jpR Z a 23 (some b)) I ∧ SZ Z (jpR Z a 23 (some b)) ∧ FR [] Z I (jpR Z a 23 (some b)) I ∧ jr (jpR Z a 23 (some b)) a 23 = some b := by
  have ro : ∀ x j, ¬ (Z.2.1 x = 12 ∧ j = 23) → jr (jpR Z a 23 (some b)) x j = jr Z x j := fun x j hn => by
    show va_up Z.2.2.2 a (va_up (Z.2.2.2 a) 23 (some b)) x j = Z.2.2.2 x j
    by_cases e : x = a
    · subst e
      rw [va_up_self, va_up_ne _ _ (fun q => hn ⟨ha.2, q⟩)]
    · rw [va_up_ne _ _ e]
  have ra : jr (jpR Z a 23 (some b)) a 23 = some b := by
    show va_up Z.2.2.2 a (va_up (Z.2.2.2 a) 23 (some b)) a 23 = some b
    rw [va_up_self, va_up_self]
  have hs : SZ Z (jpR Z a 23 (some b)) := ⟨rfl, rfl, rfl, ro⟩
  have nj : ∀ x c j, jk Z x c → jsr c j = false → ¬ (Z.2.1 x = 12 ∧ j = 23) := fun x c j hk hj q => by
    rw [← hk.2, q.1, q.2] at hj; cases hj
  refine ⟨⟨SH_putr w.1 ha rfl, ⟨w.2.1.1, fun x c j y hk e => ?_, fun x c j x' c' j' y hk hk' e e' h1 h2 => ?_⟩, ⟨w.2.2.1.1, fun x c j y hk e k h1 i => ?_⟩, ?_⟩, hs, ⟨jext_putr, fun x c j hk _ h12 => ro x j (fun q => h12 ⟨hk.2.symm.trans q.1, q.2⟩), fun _ _ _ _ _ _ => rfl, fun _ _ _ _ _ _ _ _ _ => rfl⟩, ra⟩
  · by_cases q : Z.2.1 x = 12 ∧ j = 23
    · by_cases hx : x = a
      · subst hx
        obtain ⟨-, rfl⟩ := q
        rw [ra] at e; cases e
        exact hb.1
      · have : jr (jpR Z a 23 (some b)) x j = jr Z x j := congrFun (va_up_ne _ _ hx) j
        rw [this] at e
        exact w.2.1.2.1 x c j y hk e
    · rw [ro x j q] at e
      exact w.2.1.2.1 x c j y hk e
  · rw [ro x j (nj x c j hk h1)] at e
    rw [ro x' j' (nj x' c' j' hk' h2)] at e'
    exact w.2.1.2.2 x c j x' c' j' y hk hk' e e' h1 h2
  · rw [ro x j (nj x c j hk h1)] at e
    exact w.2.2.1.2 x c j y hk e k h1 i
  · intro x c0 c1 c2 c4 hk g0 g1 g2 g4
    have hk7 : Z.2.1 x = 7 := hk.2
    rw [ro x 0 (fun q => by omega)] at g0
    rw [ro x 1 (fun q => by omega)] at g1
    rw [ro x 2 (fun q => by omega)] at g2
    rw [ro x 4 (fun q => by omega)] at g4
    have old := w.2.2.2 x c0 c1 c2 c4 hk g0 g1 g2 g4
    unfold RI1 at old ⊢
    rw [hs.cap]
    exact old
def Ws_X12_begin : List (Nat × Nat) := [(12, 24), (12, 25), (12, 26), (12, 27)]
theorem s_X12_begin {B : Nat × Nat} {T : Nat} {Z : jZ} {I : jI} {L : jL} (w_I : WD Z I) (bd_Z : BUD B Z T) (v0 v1 : Nat) (v2 v3 : Int32) (kv0 : jk Z v0 12) (kv1 : jk Z v1 13) (o1_ c1_ j1_ : Nat) (_ : jk Z o1_ c1_) (_ : jr Z o1_ j1_ = some v1) {Q : jZ → jI → jL → Prop}
    (hQ : ∀ (Z' : jZ) (I' : jI) (L' : jL), WD Z' I' → BUD B Z' T → FR Ws_X12_begin Z I Z' I' → CP Z Z' → (jr Z' v0 23 = some v1 ∧ (I' v0 24).toInt = v2.toInt ∧ (I' v0 25).toInt = v3.toInt ∧ (I' v0 26).toInt = 0 ∧ (I' v0 27).toInt = -1) → Q Z' I' L') : f_X12_begin B v0 v1 v2 v3 Z I L Q := by
  obtain ⟨w1, s1, f1, r1⟩ := WD_read w_I kv0 kv1
  unfold f_X12_begin
  intro Z1 eZ I2 e2 I3 e3 I4 e4 I5 e5
  rw [← eZ] at w1 s1 f1 r1
  have k1 : jk Z1 v0 12 := s1.kk.mpr kv0
  have w2 : WD Z1 I2 := by rw [e2]; exact WD_putF w1 12 24 k1 (by decide) (by decide) trivial
  have w3 : WD Z1 I3 := by rw [e3]; exact WD_putF w2 12 25 k1 (by decide) (by decide) trivial
  have w4 : WD Z1 I4 := by rw [e4]; exact WD_putF w3 12 26 k1 (by decide) (by decide) trivial
  have w5 : WD Z1 I5 := by rw [e5]; exact WD_putF w4 12 27 k1 (by decide) (by decide) trivial
  have f2 : FR Ws_X12_begin Z1 I Z1 I2 := by rw [e2]; exact FR_putF k1 (by decide) (by decide)
  have f3 : FR Ws_X12_begin Z1 I2 Z1 I3 := by rw [e3]; exact FR_putF k1 (by decide) (by decide)
  have f4 : FR Ws_X12_begin Z1 I3 Z1 I4 := by rw [e4]; exact FR_putF k1 (by decide) (by decide)
  have f5 : FR Ws_X12_begin Z1 I4 Z1 I5 := by rw [e5]; exact FR_putF k1 (by decide) (by decide)
  refine hQ Z1 I5 L w5 (s1.bud bd_Z) (FR.trans w_I.1 w_I.2.1 (f1.mono (fun p h => absurd h List.not_mem_nil)) (FR.trans w1.1 w1.2.1 f2 (FR.trans w1.1 w1.2.1 f3 (FR.trans w1.1 w1.2.1 f4 f5)))) (fun x _ => s1.cap x) ⟨r1, ?_, ?_, ?_, ?_⟩
  · rw [e5, jpI_off (by decide), e4, jpI_off (by decide), e3, jpI_off (by decide), e2, jpI_at]
  · rw [e5, jpI_off (by decide), e4, jpI_off (by decide), e3, jpI_at]
  · rw [e5, jpI_off (by decide), e4, jpI_at]; rfl
  · rw [e5, jpI_at]; rfl
theorem i_mulb {x y : Int32} {A B M N : Int} (hx : x.toInt = A) (hy : y.toInt = B) (a0 : 0 ≤ A) (a1 : A ≤ M) (b0 : 0 ≤ B) (b1 : B ≤ N) (h : M * N ≤ 2147483647) : 0 ≤ (x * y).toInt ∧ (x * y).toInt ≤ M * N := by
  have h1 : 0 ≤ A * B := Int.mul_nonneg a0 b0
  have h2 : A * B ≤ M * N := Int.mul_le_mul a1 b1 b0 (by omega)
  rw [i_mul hx hy (by omega) (by omega)]
  exact ⟨h1, h2⟩
