section
/-! ===== the model's table by effort ===== -/
/-- v is what the table may hold at row f, effort e -/
def DP1 (N : Int) (C E Bf : Nat → Int32) (f e : Nat) (v : Int) : Prop :=
  v = 1000000000 ∨ (0 ≤ v ∧ v ≤ 29701 * (N - f) ∧ (((f : Int) = N ∧ e = 0) ∨ ∃ far k i : Nat, 1 ≤ far ∧ far ≤ 3 ∧ k + 1 = 3 * f + far ∧ ¬ (C k).toInt = 1000000000 ∧ (E k).toInt ≤ (e : Int) ∧ (i : Int) = 1000 * ((f : Int) + far) + e - (E k).toInt ∧ ¬ (Bf i).toInt = 1000000000 ∧ v = (Bf i).toInt + 100 * (C k).toInt + 1))
/-- the rows above F are done, of row F the efforts below e1 -/
def DPR (N most : Int) (C E Bf : Nat → Int32) (F e1 : Int) : Prop :=
  ∀ f e : Nat, (f : Int) ≤ N → (e : Int) ≤ most → (F + 1 ≤ (f : Int) ∨ ((f : Int) = F ∧ (e : Int) < e1)) → DP1 N C E Bf f e (Bf (1000 * f + e)).toInt
theorem DP1.upd {N : Int} {C E Bf Bf' : Nat → Int32} {f e j0 : Nat} {v : Int} (hB : ∀ q, q ≠ j0 → Bf' q = Bf q) (hj : j0 < 1000 * (f + 1)) (h : DP1 N C E Bf f e v) : DP1 N C E Bf' f e v := by
  rcases h with h | ⟨h1, h2, h3⟩
  · exact Or.inl h
  · refine Or.inr ⟨h1, h2, ?_⟩
    rcases h3 with h3 | ⟨far, k, i, g1, g2, g3, g4, g5, g6, g7, g8⟩
    · exact Or.inl h3
    · have : Bf' i = Bf i := hB i (fun q => by omega)
      exact Or.inr ⟨far, k, i, g1, g2, g3, g4, g5, g6, by rw [this]; exact g7, by rw [this]; exact g8⟩
theorem DPR.step {N most : Int} {C E Bf Bf' : Nat → Int32} {F e1 v : Int} {f e j0 : Nat} (h : DPR N most C E Bf F e1) (hd : DP1 N C E Bf f e v) (hf : (f : Int) = F) (he : (e : Int) = e1) (hm : most ≤ 999) (he9 : e ≤ 999) (hj : j0 = 1000 * f + e) (hB : ∀ q, q ≠ j0 → Bf' q = Bf q) (hv : (Bf' j0).toInt = v) {e2 : Int} (h2 : e2 = e1 + 1) : DPR N most C E Bf' F e2 := by
  intro f' e' a1 a2 a3
  by_cases q : f' = f ∧ e' = e
  · obtain ⟨rfl, rfl⟩ := q
    rw [← hj, hv]
    exact DP1.upd hB (by omega) hd
  · have hne : 1000 * f' + e' ≠ j0 := fun z => q (by constructor <;> omega)
    rw [hB _ hne]
    refine DP1.upd hB (by omega) (h f' e' a1 a2 ?_)
    rcases a3 with a3 | a3
    · exact Or.inl a3
    · refine Or.inr ⟨a3.1, ?_⟩
      by_cases z : e' = e
      · exact absurd ⟨by omega, z⟩ q
      · omega
theorem DPR.next {N most : Int} {C E Bf : Nat → Int32} {F e1 : Int} (h : DPR N most C E Bf F e1) (he : most < e1) {F' : Int} (hF : F' + 1 = F) : DPR N most C E Bf F' 0 := by
  intro f e a1 a2 a3
  refine h f e a1 a2 ?_
  omega
theorem DPR.zero {N most : Int} {C E Bf : Nat → Int32} {F : Int} (h : N ≤ F) : DPR N most C E Bf F 0 := fun f e a1 a2 a3 => by omega
/-- what stands in a row above -/
theorem DPR.at {N most : Int} {C E Bf : Nat → Int32} {F e1 : Int} (h : DPR N most C E Bf F e1) {x : Int32} {A : Int} (hx : x.toInt = A) (f e : Int) (hA : A = 1000 * f + e) (h0 : 0 ≤ e ∧ e ≤ most) (h1 : 0 ≤ f ∧ F + 1 ≤ f ∧ f ≤ N) : (Bf x.toNatClampNeg).toInt = 1000000000 ∨ (0 ≤ (Bf x.toNatClampNeg).toInt ∧ (Bf x.toNatClampNeg).toInt ≤ 29701 * (N - f)) := by
  have hn := i_nat hx (by omega)
  have g := h f.toNat e.toNat (by omega) (by omega) (by omega)
  have ei : 1000 * f.toNat + e.toNat = x.toNatClampNeg := by omega
  rw [ei] at g
  rcases g with g | ⟨g1, g2, -⟩
  · exact Or.inl g
  · refine Or.inr ⟨g1, ?_⟩
    have : ((f.toNat : Nat) : Int) = f := by omega
    rw [this] at g2
    exact g2
theorem DP1.cand {N : Int} {C E Bf : Nat → Int32} {f e : Nat} {v : Int} (h : DP1 N C E Bf f e v) {k i x : Int32} {far : Int} (hk : k.toInt = 3 * (f : Int) + far - 1) (h1 : 1 ≤ far ∧ far ≤ 3) (hc : ¬ (C k.toNatClampNeg).toInt = 1000000000) (hc2 : 0 ≤ (C k.toNatClampNeg).toInt ∧ (C k.toNatClampNeg).toInt ≤ 297) (hE : (E k.toNatClampNeg).toInt ≤ (e : Int)) {A : Int} (hi : i.toInt = A) (hA : A = 1000 * ((f : Int) + far) + e - (E k.toNatClampNeg).toInt)
    (ht : ¬ (Bf i.toNatClampNeg).toInt = 1000000000) (ht2 : 0 ≤ (Bf i.toNatClampNeg).toInt ∧ (Bf i.toNatClampNeg).toInt ≤ 29701 * (N - (f + far))) (hx : x.toInt = min v ((Bf i.toNatClampNeg).toInt + 100 * (C k.toNatClampNeg).toInt + 1)) : DP1 N C E Bf f e x.toInt := by
  by_cases q : v ≤ (Bf i.toNatClampNeg).toInt + 100 * (C k.toNatClampNeg).toInt + 1
  · rw [hx, Int.min_eq_left q]
    exact h
  · have hn := i_nat (x := k) rfl (by omega)
    have hm := i_nat (x := i) rfl (by omega)
    have hx' : x.toInt = (Bf i.toNatClampNeg).toInt + 100 * (C k.toNatClampNeg).toInt + 1 := by omega
    refine Or.inr ⟨by omega, by omega, Or.inr ⟨far.toNat, k.toNatClampNeg, i.toNatClampNeg, by omega, by omega, by omega, hc, hE, by omega, ht, hx'⟩⟩
/-- far leads on from row f with e left -/
def CN (C E Bf : Nat → Int32) (f e far : Int) : Prop := ∃ k i : Nat, (k : Int) = 3 * f + far - 1 ∧ ¬ (C k).toInt = 1000000000 ∧ (E k).toInt ≤ e ∧ (i : Int) = 1000 * (f + far) + e - (E k).toInt ∧ ¬ (Bf i).toInt = 1000000000 ∧ (Bf (1000 * f + e).toNat).toInt = (Bf i).toInt + 100 * (C k).toInt + 1
theorem DPR.cn {N most : Int} {C E Bf : Nat → Int32} (h : DPR N most C E Bf (-1) 0) {f e : Int} (h0 : 0 ≤ f ∧ f < N ∧ 0 ≤ e ∧ e ≤ most) (hn : ¬ (Bf (1000 * f + e).toNat).toInt = 1000000000) : ∃ far : Int, 1 ≤ far ∧ far ≤ 3 ∧ CN C E Bf f e far := by
  have g := h f.toNat e.toNat (by omega) (by omega) (by omega)
  have ei : 1000 * f.toNat + e.toNat = (1000 * f + e).toNat := by omega
  rw [ei] at g
  rcases g with g | ⟨-, -, g | ⟨far, k, i, g1, g2, g3, g4, g5, g6, g7, g8⟩⟩
  · exact absurd g hn
  · exfalso; omega
  · exact ⟨(far : Int), by omega, by omega, k, i, by omega, g4, by omega, by omega, g7, g8⟩
theorem CN.no1 {C E Bf : Nat → Int32} {f e far : Int} {k : Int32} (hk : k.toInt = 3 * f + far - 1) (h0 : 0 ≤ k.toInt) (h : (C k.toNatClampNeg).toInt = 1000000000 ∨ e < (E k.toNatClampNeg).toInt) : ¬ CN C E Bf f e far := by
  rintro ⟨k', i', g1, g2, g3, -⟩
  have hn := i_nat (x := k) rfl h0
  obtain rfl : k' = k.toNatClampNeg := by omega
  rcases h with h | h
  · exact g2 h
  · omega
theorem CN.iff {C E Bf : Nat → Int32} {f e far : Int} {k i : Int32} (hk : k.toInt = 3 * f + far - 1) (h0 : 0 ≤ k.toInt) (hi : i.toInt = 1000 * (f + far) + e - (E k.toNatClampNeg).toInt) (h1 : 0 ≤ i.toInt) (hC : ¬ (C k.toNatClampNeg).toInt = 1000000000) (hE : (E k.toNatClampNeg).toInt ≤ e) :
    CN C E Bf f e far ↔ (¬ (Bf i.toNatClampNeg).toInt = 1000000000 ∧ (Bf (1000 * f + e).toNat).toInt = (Bf i.toNatClampNeg).toInt + 100 * (C k.toNatClampNeg).toInt + 1) := by
  have hn := i_nat (x := k) rfl h0
  have hm := i_nat (x := i) rfl h1
  constructor
  · rintro ⟨k', i', g1, g2, g3, g4, g5, g6⟩
    obtain rfl : k' = k.toNatClampNeg := by omega
    obtain rfl : i' = i.toNatClampNeg := by omega
    exact ⟨g5, g6⟩
  · rintro ⟨g5, g6⟩
    exact ⟨k.toNatClampNeg, i.toNatClampNeg, by omega, hC, hE, by omega, g5, g6⟩
/-- the row of a climb: rising, the last one is where it is -/
def CRP (R : Nat → Int32) (m fr : Int) : Prop := (∀ q : Nat, (q : Int) < m → 0 ≤ (R q).toInt ∧ (R q).toInt ≤ fr ∧ ∀ p : Nat, p < q → (R p).toInt < (R q).toInt) ∧ (0 < m → (R (m - 1).toNat).toInt = fr) ∧ (m = 0 → fr = -1)
theorem CRP.zero {R : Nat → Int32} : CRP R 0 (-1) := ⟨fun q h => by omega, fun h => by omega, fun _ => rfl⟩
theorem CRP.step {R R' : Nat → Int32} {m fr m' fr' : Int} {x : Int32} (h : CRP R m fr) (hx : x.toInt = m) (h0 : 0 ≤ m) (hf : fr < fr') (hf0 : 0 ≤ fr') (hR : ∀ q, q ≠ x.toNatClampNeg → R' q = R q) (hv : (R' x.toNatClampNeg).toInt = fr') (hm : m' = m + 1) : CRP R' m' fr' := by
  have hn := i_nat hx h0
  refine ⟨fun q hq => ?_, fun _ => ?_, fun z => by omega⟩
  · by_cases e : q = x.toNatClampNeg
    · subst e
      refine ⟨by omega, by omega, fun p hp => ?_⟩
      rw [hR p (by omega), hv]
      have := (h.1 p (by omega)).2.1
      omega
    · rw [hR q e]
      have g := h.1 q (by omega)
      refine ⟨g.1, by omega, fun p hp => ?_⟩
      rw [hR p (by omega)]
      exact g.2.2 p hp
  · have : (m' - 1).toNat = x.toNatClampNeg := by omega
    rw [this, hv]
end
section
def Ws_X12_layMoves : List (Nat × Nat) := [(12, 24), (12, 25), (12, 26), (12, 27), (12, 31), (12, 32), (12, 33), (12, 34), (12, 37), (12, 38)]
set_option maxHeartbeats 4000000 in
set_option maxRecDepth 100000 in
theorem l_X12_layMoves_L12 {B : Nat × Nat} {T : Nat} {Z0 : jZ} {I0 : jI} {Q : jZ → jI → jL → Prop} (w0 : WD Z0 I0) (v0 : Nat) (v1 : Int32) (kv0 : jk Z0 v0 12) (uC : Nat) (huC : jr Z0 v0 37 = some uC) (uE : Nat) (huE : jr Z0 v0 38 = some uE) (p0 : 0 ≤ v1.toInt ∧ v1.toInt ≤ 5) (v2 : Int32) (hQ : ∀  (Z' : jZ) (I' : jI) (L' : jL), WD Z' I' → BUD B Z' T → FR Ws_X12_layMoves Z0 I0 Z' I' → CP Z0 Z' → MVB (3 * ((I' v0 0).toInt + 1)) (I' v0 0).toInt (I' uC) (I' uE) → Q Z' I' L') {K2 : Nat → Int32 → Int32 → jZ → jI → jL → Prop} {N2 : Int} (hK2 : ∀ (v2 : Int32) (Z : jZ) (I : jI) (L : jL), WD Z I → BUD B Z T → FR Ws_X12_layMoves Z0 I0 Z I → CP Z0 Z →   ((-1 ≤ v2.toInt ∧ v2.toInt ≤ (I0 v0 0).toInt ∧ (I0 v0 0).toInt ≤ 24) ∧ (I v0 0).toInt = (I0 v0 0).toInt ∧ MVB (3 * (v2.toInt + 1)) (I0 v0 0).toInt (I uC) (I uE)) → 24 - v2.toInt < N2 → K2 v0 v1 v2 Z I L) : ∀ (n : Nat) (v3 : Int32) (Z : jZ) (I : jI) (L : jL), WD Z I → BUD B Z T → FR Ws_X12_layMoves Z0 I0 Z I → CP Z0 Z →   ((-1 ≤ v2.toInt ∧ v2.toInt < (I0 v0 0).toInt ∧ (I0 v0 0).toInt ≤ 24 ∧ 1 ≤ v3.toInt ∧ v3.toInt ≤ 4) ∧ (I v0 0).toInt = (I0 v0 0).toInt ∧ MVB (3 * (v2.toInt + 1) + v3.toInt - 1) (I0 v0 0).toInt (I uC) (I uE)) → 24 - v2.toInt ≤ N2 → 4 - v3.toInt < (n : Int) → f_X12_layMoves_L12 B K2 Q n v0 v1 v2 v3 Z I L := by
  intro n
  induction n with
  | zero =>
    intro v3 Z I L w_I bd_Z q_I cp_Z   li hm2 me
    exfalso
    omega
  | succ n ih =>
    intro v3 Z I L w_I bd_Z q_I cp_Z   li hm2 me
    unfold f_X12_layMoves_L12
    have rv3 := i_rng v3
    have rv2 := i_rng v2
    have rv1 := i_rng v1
    obtain ⟨li0, li1, li2⟩ := li
    have kv0_0 := kv0
    have kv0 := (q_I.1 _ _ kv0).1
    have t1 : 0 ≤ (I v0 0).toInt ∧ (I v0 0).toInt ≤ 24 := w_I.fld 12 0 kv0 (by decide)
    have huC_1 : jr Z v0 37 = some uC := (q_I.2.1 v0 12 37 kv0_0 (by decide) (by decide)).trans huC
    have luC : jlen Z uC = 75 := by obtain ⟨b9, e9, -, l9⟩ := sh_f w_I.1 kv0 (j := 37) (k := 14) (m := 75) rfl; cases huC_1.symm.trans e9; exact l9
    have kuC : jk Z uC 14 := by obtain ⟨b9, e9, k9, -⟩ := sh_f w_I.1 kv0 (j := 37) (k := 14) (m := 75) rfl; cases huC_1.symm.trans e9; exact k9
    have huE_1 : jr Z v0 38 = some uE := (q_I.2.1 v0 12 38 kv0_0 (by decide) (by decide)).trans huE
    have luE : jlen Z uE = 75 := by obtain ⟨b9, e9, -, l9⟩ := sh_f w_I.1 kv0 (j := 38) (k := 14) (m := 75) rfl; cases huE_1.symm.trans e9; exact l9
    have kuE : jk Z uE 14 := by obtain ⟨b9, e9, k9, -⟩ := sh_f w_I.1 kv0 (j := 38) (k := 14) (m := 75) rfl; cases huE_1.symm.trans e9; exact k9
    have xq_I := q_I.1
    refine ⟨fun c2 => ?_, fun c2 => ?_⟩
    · skip
      first | (have t3 : (3) < v3.toInt := (i_lt (show (3 : Int32).toInt = 3 from rfl) rfl).mp c2) | (have t3 : (3 : Int32).toInt < v3.toInt := (i_lt rfl rfl).mp c2) | skip
      intro x4 ex4
      have rx4 := i_rng x4
      first | (have tx4 : x4.toInt = v2.toInt + (1) := by (rw [ex4]; exact (i_add rfl (show (1 : Int32).toInt = 1 from rfl) (by omega) (by omega)))) | skip
      exact hK2 x4 Z I L w_I bd_Z q_I cp_Z   (by refine ⟨?_, ?_, ?_⟩; (omega); (omega); first | exact MVB.zero (by omega) | (rw [show 3 * (x4.toInt + 1) = 3 * (v2.toInt + 1) + v3.toInt - 1 by omega]; exact li2))  (by omega)
    · skip
      first | (have t5 : ¬ ((3) < v3.toInt) := (not_congr (i_lt (show (3 : Int32).toInt = 3 from rfl) rfl)).mp c2) | (have t5 : ¬ ((3 : Int32).toInt < v3.toInt) := (not_congr (i_lt rfl rfl)).mp c2) | skip
      intro x6 ex6
      have rx6 := i_rng x6
      first | (have tx6 : x6.toInt = ((((3) * (v2.toInt + (1))) + v3.toInt) - (1)) := by (rw [ex6]; exact (i_sub (i_add (i_mul (show (3 : Int32).toInt = 3 from rfl) (i_add rfl (show (1 : Int32).toInt = 1 from rfl) (by omega) (by omega)) (by omega) (by omega)) rfl (by omega) (by omega)) (show (1 : Int32).toInt = 1 from rfl) (by omega) (by omega)))) | (have tx6 : x6.toInt = ((((3 : Int32) * (v2 + (1 : Int32))) + v3) - (1 : Int32)).toInt := by rw [ex6])
      intro x7 ex7
      have rx7 := i_rng x7
      first | (have tx7 : x7.toInt = (v2.toInt + v3.toInt) := by (rw [ex7]; exact (i_add rfl rfl (by omega) (by omega)))) | (have tx7 : x7.toInt = (v2 + v3).toInt := by rw [ex7])
      intro b8 eb8
      obtain rfl : uC = b8 := Option.some.inj (huC_1.symm.trans eb8)
      have o9 : vp_in x6 75 := vi_of rfl (by omega) (by omega)
      refine ⟨o9, ?_⟩
      intro I10 eI10
      have t11 : (1000000000 : Int32).toInt = 1000000000 := rfl
      have w_I10 : WD Z I10 := by rw [eI10]; exact WD_putA w_I 12 37 kv0 huC_1 kuC rfl rfl (by decide) trivial
      have ao_I10_uC : ∀ q, q ≠ x6.toNatClampNeg → I10 uC q = I uC q := fun q hq => by rw [eI10]; exact jpI_off hq
      first | (have u12 : (I10 uC (x6.toNatClampNeg)).toInt = (1000000000) := by (rw [eI10, show jpI I uC x6.toNatClampNeg (1000000000 : Int32) uC x6.toNatClampNeg = (1000000000 : Int32) from jpI_at] <;> exact (show (1000000000 : Int32).toInt = 1000000000 from rfl))) | skip
      have f_I10 : FR [(12, 37)] Z I Z I10 := by rw [eI10]; exact FR_upA w_I.2.1 kv0 huC_1 kuC rfl rfl List.mem_cons_self
      have q_I10 : FR Ws_X12_layMoves Z0 I0 Z I10 := q_I.trans w0.1 w0.2.1 (f_I10.mono (by decide))
      have ao_I10_uE : I10 uE = I uE := f_I10.2.2.2 v0 12 38 uE kv0 huE_1 (by rw [kuE.2]; rfl) rfl (by decide)
      have u13 : (I10 v0 0).toInt = (I v0 0).toInt := by rw [f_I10.2.2.1 v0 12 0 kv0 (by decide) (by decide)]
      intro b14 eb14
      obtain ⟨x15, ex15, kb14, lb14⟩ := sh_f w_I10.1 kv0 (j := 11) (k := 14) (m := 6) rfl
      cases eb14.symm.trans ex15
      have o16 : vp_in v1 6 := vi_of rfl (by omega) (by omega)
      refine ⟨o16, ?_⟩
      have t17 : 0 ≤ (I10 b14 v1.toNatClampNeg).toInt ∧ (I10 b14 v1.toNatClampNeg).toInt ≤ 3 := w_I10.arr 12 11 kv0 eb14 kb14 rfl rfl _
      refine ⟨fun c18 => ?_, fun c18 => ?_⟩
      · skip
        first | (have t19 : (I10 b14 v1.toNatClampNeg).toInt < v3.toInt := (i_lt rfl rfl).mp c18) | (have t19 : (I10 b14 v1.toNatClampNeg).toInt < v3.toInt := (i_lt rfl rfl).mp c18) | skip
        unfold f_X12_layMoves_b122
        intro x20 ex20
        have rx20 := i_rng x20
        first | (have tx20 : x20.toInt = v3.toInt + (1) := by (rw [ex20]; exact (i_add rfl (show (1 : Int32).toInt = 1 from rfl) (by omega) (by omega)))) | skip
        exact ih x20 Z I10 L w_I10 bd_Z q_I10 cp_Z   (by refine ⟨?_, ?_, ?_⟩; (omega); (omega); first | (rw [show 3 * (v2.toInt + 1) + (1 : Int32).toInt - 1 = 3 * (v2.toInt + 1) by omega]; exact li2) | (have hn := i_nat (x := x6) rfl (by omega); exact MVB.step li2 x6.toNatClampNeg (by omega) ao_I10_uC (fun q _ => congrFun ao_I10_uE q) (by omega) (by omega))) (by omega) (by omega)
      · skip
        first | (have t21 : ¬ ((I10 b14 v1.toNatClampNeg).toInt < v3.toInt) := (not_congr (i_lt rfl rfl)).mp c18) | (have t21 : ¬ ((I10 b14 v1.toNatClampNeg).toInt < v3.toInt) := (not_congr (i_lt rfl rfl)).mp c18) | skip
        have t23 : 0 ≤ (I10 v0 0).toInt ∧ (I10 v0 0).toInt ≤ 24 := w_I10.fld 12 0 kv0 (by decide)
        refine ⟨fun c24 => ?_, fun c24 => ?_⟩
        · skip
          first | (have t25 : (I10 v0 0).toInt ≤ x7.toInt := (i_le rfl rfl).mp c24) | (have t25 : (I10 v0 0).toInt ≤ x7.toInt := (i_le rfl rfl).mp c24) | skip
          unfold f_X12_layMoves_b122
          intro x26 ex26
          have rx26 := i_rng x26
          first | (have tx26 : x26.toInt = v3.toInt + (1) := by (rw [ex26]; exact (i_add rfl (show (1 : Int32).toInt = 1 from rfl) (by omega) (by omega)))) | skip
          exact ih x26 Z I10 L w_I10 bd_Z q_I10 cp_Z   (by refine ⟨?_, ?_, ?_⟩; (omega); (omega); first | (rw [show 3 * (v2.toInt + 1) + (1 : Int32).toInt - 1 = 3 * (v2.toInt + 1) by omega]; exact li2) | (have hn := i_nat (x := x6) rfl (by omega); exact MVB.step li2 x6.toNatClampNeg (by omega) ao_I10_uC (fun q _ => congrFun ao_I10_uE q) (by omega) (by omega))) (by omega) (by omega)
        · skip
          first | (have t27 : ¬ ((I10 v0 0).toInt ≤ x7.toInt) := (not_congr (i_le rfl rfl)).mp c24) | (have t27 : ¬ ((I10 v0 0).toInt ≤ x7.toInt) := (not_congr (i_le rfl rfl)).mp c24) | skip
          have t29 : -1 ≤ (I10 v0 39).toInt ∧ (I10 v0 39).toInt ≤ 23 := w_I10.fld 12 39 kv0 (by decide)
          refine ⟨fun c30 => ?_, fun c30 => ?_⟩
          · skip
            first | (have t31 : x7.toInt = (I10 v0 39).toInt := (i_eq rfl rfl).mp c30) | (have t31 : x7.toInt = (I10 v0 39).toInt := (i_eq rfl rfl).mp c30) | skip
            unfold f_X12_layMoves_b122
            intro x32 ex32
            have rx32 := i_rng x32
            first | (have tx32 : x32.toInt = v3.toInt + (1) := by (rw [ex32]; exact (i_add rfl (show (1 : Int32).toInt = 1 from rfl) (by omega) (by omega)))) | skip
            exact ih x32 Z I10 L w_I10 bd_Z q_I10 cp_Z   (by refine ⟨?_, ?_, ?_⟩; (omega); (omega); first | (rw [show 3 * (v2.toInt + 1) + (1 : Int32).toInt - 1 = 3 * (v2.toInt + 1) by omega]; exact li2) | (have hn := i_nat (x := x6) rfl (by omega); exact MVB.step li2 x6.toNatClampNeg (by omega) ao_I10_uC (fun q _ => congrFun ao_I10_uE q) (by omega) (by omega))) (by omega) (by omega)
          · skip
            first | (have t33 : ¬ (x7.toInt = (I10 v0 39).toInt) := (not_congr (i_eq rfl rfl)).mp c30) | (have t33 : ¬ (x7.toInt = (I10 v0 39).toInt) := (not_congr (i_eq rfl rfl)).mp c30) | skip
            intro b34 eb34
            obtain ⟨x35, ex35, kb34, lb34⟩ := sh_f w_I10.1 kv0 (j := 13) (k := 14) (m := 6) rfl
            cases eb34.symm.trans ex35
            have o36 : vp_in v1 6 := vi_of rfl (by omega) (by omega)
            refine ⟨o36, ?_⟩
            refine s_X12_mainOf w_I10 v0 x7 kv0  (by omega) (fun r37 p38 => ?_)
            have rr37 := i_rng r37
            refine s_X12_has w_I10 (I10 b34 v1.toNatClampNeg) r37    (fun r39  => ?_)
            have rr39 := i_rng r39
            refine ⟨fun c40 => ?_, fun c40 => ?_⟩
            · skip
              first | (have t41 : r39.toInt = (0) := (i_eq rfl (show (0 : Int32).toInt = 0 from rfl)).mp c40) | (have t41 : r39.toInt = (0 : Int32).toInt := (i_eq rfl rfl).mp c40) | skip
              intro b42 eb42
              obtain rfl : uC = b42 := Option.some.inj (huC_1.symm.trans eb42)
              refine s_X12_costOf w_I10 bd_Z v0 v1 v2 x7 kv0  (by omega) (fun r43 Z47 I45 L46 w_I45 bd_Z47 f_I45 c_Z47 p44 => ?_)
              have q_I45 : FR Ws_X12_layMoves Z0 I0 Z47 I45 := q_I10.trans w0.1 w0.2.1 (f_I45.mono (by decide))
              have cp_Z47 : CP Z0 Z47 := cp_Z.trans q_I10.1 c_Z47
              have x_Z47 := f_I45.1
              have k48 := (f_I45.1 _ _ kv0).1
              have k49 := (f_I45.1 _ _ kuC).1
              have l50 := (f_I45.1 _ _ kuC).2.trans luC
              have k51 := (f_I45.1 _ _ kv0).1
              have e52 := (f_I45.2.1 v0 12 37 kv0 (by decide) (by decide)).trans huC_1
              have k53 := (f_I45.1 _ _ kuE).1
              have l54 := (f_I45.1 _ _ kuE).2.trans luE
              have k55 := (f_I45.1 _ _ kv0).1
              have e56 := (f_I45.2.1 v0 12 38 kv0 (by decide) (by decide)).trans huE_1
              have k57 := (f_I45.1 _ _ kb14).1
              have l58 := (f_I45.1 _ _ kb14).2.trans lb14
              have k59 := (f_I45.1 _ _ kv0).1
              have e60 := (f_I45.2.1 v0 12 11 kv0 (by decide) (by decide)).trans eb14
              have k61 := (f_I45.1 _ _ kb34).1
              have l62 := (f_I45.1 _ _ kb34).2.trans lb34
              have k63 := (f_I45.1 _ _ kv0).1
              have e64 := (f_I45.2.1 v0 12 13 kv0 (by decide) (by decide)).trans eb34
              have ao_I45_uC : ∀ q, q ≠ x6.toNatClampNeg → I45 uC q = I uC q := fun q hq => by rw [f_I45.2.2.2 v0 12 37 uC kv0 huC_1 (by rw [kuC.2]; rfl) rfl (by decide)]; exact ao_I10_uC q hq
              have ao_I45_uE : I45 uE = I uE := (f_I45.2.2.2 v0 12 38 uE kv0 huE_1 (by rw [kuE.2]; rfl) rfl (by decide)).trans ao_I10_uE
              have u65 : (I45 uC (x6.toNatClampNeg)).toInt = (I10 uC (x6.toNatClampNeg)).toInt := by rw [f_I45.2.2.2 v0 12 37 uC kv0 huC_1 (by rw [kuC.2]; rfl) rfl (by decide)]
              have u66 : (I45 v0 0).toInt = (I10 v0 0).toInt := by rw [f_I45.2.2.1 v0 12 0 kv0 (by decide) (by decide)]
              have u67 : (I45 v0 39).toInt = (I10 v0 39).toInt := by rw [f_I45.2.2.1 v0 12 39 kv0 (by decide) (by decide)]
              have rr43 := i_rng r43
              have o68 : vp_in x6 75 := vi_of rfl (by omega) (by omega)
              refine ⟨o68, ?_⟩
              intro I69 eI69
              have w_I69 : WD Z47 I69 := by rw [eI69]; exact WD_putA w_I45 12 37 k51 e52 k49 rfl rfl (by decide) trivial
              have ao_I69_uC : ∀ q, q ≠ x6.toNatClampNeg → I69 uC q = I uC q := fun q hq => by rw [eI69, jpI_off hq]; exact ao_I45_uC q hq
              first | (have u70 : (I69 uC (x6.toNatClampNeg)).toInt = r43.toInt := by (rw [eI69, show jpI I45 uC x6.toNatClampNeg r43 uC x6.toNatClampNeg = r43 from jpI_at] <;> exact rfl)) | skip
              have f_I69 : FR [(12, 37)] Z47 I45 Z47 I69 := by rw [eI69]; exact FR_upA w_I45.2.1 k51 e52 k49 rfl rfl List.mem_cons_self
              have q_I69 : FR Ws_X12_layMoves Z0 I0 Z47 I69 := q_I45.trans w0.1 w0.2.1 (f_I69.mono (by decide))
              have ao_I69_uE : I69 uE = I uE := (f_I69.2.2.2 v0 12 38 uE k55 e56 (by rw [k53.2]; rfl) rfl (by decide)).trans ao_I45_uE
              have u71 : (I69 v0 0).toInt = (I45 v0 0).toInt := by rw [f_I69.2.2.1 v0 12 0 k48 (by decide) (by decide)]
              have u72 : (I69 v0 39).toInt = (I45 v0 39).toInt := by rw [f_I69.2.2.1 v0 12 39 k48 (by decide) (by decide)]
              intro b73 eb73
              obtain rfl : uE = b73 := Option.some.inj (e56.symm.trans eb73)
              refine s_X12_effortOf w_I69 v0 v1 v2 x7 k48  (by omega) (fun r74 p75 => ?_)
              have rr74 := i_rng r74
              have o76 : vp_in x6 75 := vi_of rfl (by omega) (by omega)
              refine ⟨o76, ?_⟩
              intro I77 eI77
              have w_I77 : WD Z47 I77 := by rw [eI77]; exact WD_putA w_I69 12 38 k55 e56 k53 rfl rfl (by decide) trivial
              have ao_I77_uE : ∀ q, q ≠ x6.toNatClampNeg → I77 uE q = I uE q := fun q hq => by rw [eI77, jpI_off hq, ao_I69_uE]
              first | (have u78 : (I77 uE (x6.toNatClampNeg)).toInt = r74.toInt := by (rw [eI77, show jpI I69 uE x6.toNatClampNeg r74 uE x6.toNatClampNeg = r74 from jpI_at] <;> exact rfl)) | skip
              have f_I77 : FR [(12, 38)] Z47 I69 Z47 I77 := by rw [eI77]; exact FR_upA w_I69.2.1 k55 e56 k53 rfl rfl List.mem_cons_self
              have q_I77 : FR Ws_X12_layMoves Z0 I0 Z47 I77 := q_I69.trans w0.1 w0.2.1 (f_I77.mono (by decide))
              have ao_I77_uC : ∀ q, q ≠ x6.toNatClampNeg → I77 uC q = I uC q := fun q hq => by rw [f_I77.2.2.2 v0 12 37 uC k51 e52 (by rw [k49.2]; rfl) rfl (by decide)]; exact ao_I69_uC q hq
              have u79 : (I77 uC (x6.toNatClampNeg)).toInt = (I69 uC (x6.toNatClampNeg)).toInt := by rw [f_I77.2.2.2 v0 12 37 uC k51 e52 (by rw [k49.2]; rfl) rfl (by decide)]
              have u80 : (I77 v0 0).toInt = (I69 v0 0).toInt := by rw [f_I77.2.2.1 v0 12 0 k48 (by decide) (by decide)]
              have u81 : (I77 v0 39).toInt = (I69 v0 39).toInt := by rw [f_I77.2.2.1 v0 12 39 k48 (by decide) (by decide)]
              unfold f_X12_layMoves_b122
              intro x82 ex82
              have rx82 := i_rng x82
              first | (have tx82 : x82.toInt = v3.toInt + (1) := by (rw [ex82]; exact (i_add rfl (show (1 : Int32).toInt = 1 from rfl) (by omega) (by omega)))) | skip
              exact ih x82 Z47 I77 L46 w_I77 bd_Z47 q_I77 cp_Z47   (by refine ⟨?_, ?_, ?_⟩; (omega); (omega); first | (rw [show 3 * (v2.toInt + 1) + (1 : Int32).toInt - 1 = 3 * (v2.toInt + 1) by omega]; exact li2) | (have hn := i_nat (x := x6) rfl (by omega); exact MVB.step li2 x6.toNatClampNeg (by omega) ao_I77_uC ao_I77_uE (by omega) (by omega))) (by omega) (by omega)
            · skip
              first | (have t83 : ¬ (r39.toInt = (0)) := (not_congr (i_eq rfl (show (0 : Int32).toInt = 0 from rfl))).mp c40) | (have t83 : ¬ (r39.toInt = (0 : Int32).toInt) := (not_congr (i_eq rfl rfl)).mp c40) | skip
              unfold f_X12_layMoves_b122
              intro x84 ex84
              have rx84 := i_rng x84
              first | (have tx84 : x84.toInt = v3.toInt + (1) := by (rw [ex84]; exact (i_add rfl (show (1 : Int32).toInt = 1 from rfl) (by omega) (by omega)))) | skip
              exact ih x84 Z I10 L w_I10 bd_Z q_I10 cp_Z   (by refine ⟨?_, ?_, ?_⟩; (omega); (omega); first | (rw [show 3 * (v2.toInt + 1) + (1 : Int32).toInt - 1 = 3 * (v2.toInt + 1) by omega]; exact li2) | (have hn := i_nat (x := x6) rfl (by omega); exact MVB.step li2 x6.toNatClampNeg (by omega) ao_I10_uC (fun q _ => congrFun ao_I10_uE q) (by omega) (by omega))) (by omega) (by omega)
set_option maxHeartbeats 4000000 in
set_option maxRecDepth 100000 in
theorem l_X12_layMoves_L2 {B : Nat × Nat} {T : Nat} {Z0 : jZ} {I0 : jI} {Q : jZ → jI → jL → Prop} (w0 : WD Z0 I0) (v0 : Nat) (v1 : Int32) (kv0 : jk Z0 v0 12) (uC : Nat) (huC : jr Z0 v0 37 = some uC) (uE : Nat) (huE : jr Z0 v0 38 = some uE) (p0 : 0 ≤ v1.toInt ∧ v1.toInt ≤ 5) (hQ : ∀  (Z' : jZ) (I' : jI) (L' : jL), WD Z' I' → BUD B Z' T → FR Ws_X12_layMoves Z0 I0 Z' I' → CP Z0 Z' → MVB (3 * ((I' v0 0).toInt + 1)) (I' v0 0).toInt (I' uC) (I' uE) → Q Z' I' L') : ∀ (n : Nat) (v2 : Int32) (Z : jZ) (I : jI) (L : jL), WD Z I → BUD B Z T → FR Ws_X12_layMoves Z0 I0 Z I → CP Z0 Z →   ((-1 ≤ v2.toInt ∧ v2.toInt ≤ (I0 v0 0).toInt ∧ (I0 v0 0).toInt ≤ 24) ∧ (I v0 0).toInt = (I0 v0 0).toInt ∧ MVB (3 * (v2.toInt + 1)) (I0 v0 0).toInt (I uC) (I uE)) → 24 - v2.toInt < (n : Int) → f_X12_layMoves_L2 B  Q n v0 v1 v2 Z I L := by
  intro n
  induction n with
  | zero =>
    intro v2 Z I L w_I bd_Z q_I cp_Z   li  me
    exfalso
    omega
  | succ n ih =>
    intro v2 Z I L w_I bd_Z q_I cp_Z   li  me
    unfold f_X12_layMoves_L2
    have rv2 := i_rng v2
    have rv1 := i_rng v1
    obtain ⟨li0, li1, li2⟩ := li
    have kv0_0 := kv0
    have kv0 := (q_I.1 _ _ kv0).1
    have t85 : 0 ≤ (I v0 0).toInt ∧ (I v0 0).toInt ≤ 24 := w_I.fld 12 0 kv0 (by decide)
    have huC_1 : jr Z v0 37 = some uC := (q_I.2.1 v0 12 37 kv0_0 (by decide) (by decide)).trans huC
    have luC : jlen Z uC = 75 := by obtain ⟨b9, e9, -, l9⟩ := sh_f w_I.1 kv0 (j := 37) (k := 14) (m := 75) rfl; cases huC_1.symm.trans e9; exact l9
    have kuC : jk Z uC 14 := by obtain ⟨b9, e9, k9, -⟩ := sh_f w_I.1 kv0 (j := 37) (k := 14) (m := 75) rfl; cases huC_1.symm.trans e9; exact k9
    have huE_1 : jr Z v0 38 = some uE := (q_I.2.1 v0 12 38 kv0_0 (by decide) (by decide)).trans huE
    have luE : jlen Z uE = 75 := by obtain ⟨b9, e9, -, l9⟩ := sh_f w_I.1 kv0 (j := 38) (k := 14) (m := 75) rfl; cases huE_1.symm.trans e9; exact l9
    have kuE : jk Z uE 14 := by obtain ⟨b9, e9, k9, -⟩ := sh_f w_I.1 kv0 (j := 38) (k := 14) (m := 75) rfl; cases huE_1.symm.trans e9; exact k9
    have xq_I := q_I.1
    have t87 : 0 ≤ (I v0 0).toInt ∧ (I v0 0).toInt ≤ 24 := w_I.fld 12 0 kv0 (by decide)
    refine ⟨fun c88 => ?_, fun c88 => ?_⟩
    · skip
      first | (have t89 : (I v0 0).toInt ≤ v2.toInt := (i_le rfl rfl).mp c88) | (have t89 : (I v0 0).toInt ≤ v2.toInt := (i_le rfl rfl).mp c88) | skip
      exact hQ  Z I L w_I bd_Z q_I cp_Z (by rw [li1]; have e9 : v2.toInt = (I0 v0 0).toInt := (by omega); rw [← e9]; rw [← e9] at li2; exact li2)
    · skip
      first | (have t90 : ¬ ((I v0 0).toInt ≤ v2.toInt) := (not_congr (i_le rfl rfl)).mp c88) | (have t90 : ¬ ((I v0 0).toInt ≤ v2.toInt) := (not_congr (i_le rfl rfl)).mp c88) | skip
      have t91 : (1 : Int32).toInt = 1 := rfl
      exact ⟨(4 - (1 : Int32).toInt).toNat + 1, l_X12_layMoves_L12 w0 v0 v1 kv0_0 uC huC uE huE p0 v2  hQ ih  _ (1 : Int32) Z I L w_I bd_Z q_I cp_Z   (by refine ⟨?_, ?_, ?_⟩; (omega); (omega); first | (rw [show 3 * (v2.toInt + 1) + (1 : Int32).toInt - 1 = 3 * (v2.toInt + 1) by omega]; exact li2) | (have hn := i_nat (x := 0) rfl (by omega); exact MVB.step li2 0 (by omega) (fun _ _ => rfl) (fun _ _ => rfl) (by omega) (by omega))) (by omega) (by omega)⟩
set_option maxHeartbeats 4000000 in
set_option maxRecDepth 100000 in
theorem s_X12_layMoves {B : Nat × Nat} {T : Nat} {Z : jZ} {I : jI} {L : jL} (w_I : WD Z I) (bd_Z : BUD B Z T) (v0 : Nat) (v1 : Int32) (kv0 : jk Z v0 12) (uC : Nat) (huC : jr Z v0 37 = some uC) (uE : Nat) (huE : jr Z v0 38 = some uE) (p0 : 0 ≤ v1.toInt ∧ v1.toInt ≤ 5) {Q : jZ → jI → jL → Prop} (hQ : ∀  (Z' : jZ) (I' : jI) (L' : jL), WD Z' I' → BUD B Z' T → FR Ws_X12_layMoves Z I Z' I' → CP Z Z' → MVB (3 * ((I' v0 0).toInt + 1)) (I' v0 0).toInt (I' uC) (I' uE) → Q Z' I' L') : f_X12_layMoves B v0 v1 Z I L Q := by
  unfold f_X12_layMoves
  have q_I : FR Ws_X12_layMoves Z I Z I := FR.rf
  have cp_Z : CP Z Z := CP.rf
  have rv1 := i_rng v1
  have t92 : 0 ≤ (I v0 0).toInt ∧ (I v0 0).toInt ≤ 24 := w_I.fld 12 0 kv0 (by decide)
  have luC : jlen Z uC = 75 := by obtain ⟨b9, e9, -, l9⟩ := sh_f w_I.1 kv0 (j := 37) (k := 14) (m := 75) rfl; cases huC.symm.trans e9; exact l9
  have kuC : jk Z uC 14 := by obtain ⟨b9, e9, k9, -⟩ := sh_f w_I.1 kv0 (j := 37) (k := 14) (m := 75) rfl; cases huC.symm.trans e9; exact k9
  have luE : jlen Z uE = 75 := by obtain ⟨b9, e9, -, l9⟩ := sh_f w_I.1 kv0 (j := 38) (k := 14) (m := 75) rfl; cases huE.symm.trans e9; exact l9
  have kuE : jk Z uE 14 := by obtain ⟨b9, e9, k9, -⟩ := sh_f w_I.1 kv0 (j := 38) (k := 14) (m := 75) rfl; cases huE.symm.trans e9; exact k9
  have t93 : (-1 : Int32).toInt = -1 := rfl
  exact ⟨(24 - (-1 : Int32).toInt).toNat + 1, l_X12_layMoves_L2 w_I v0 v1 kv0 uC huC uE huE p0   hQ   _ (-1 : Int32) Z I L w_I bd_Z q_I cp_Z   (by refine ⟨?_, ?_, ?_⟩; (omega); (omega); first | exact MVB.zero (by omega) | (rw [show 3 * ((-1 : Int32).toInt + 1) = 3 * (v2.toInt + 1) + v3.toInt - 1 by omega]; exact li2))  (by omega)⟩
set_option maxHeartbeats 4000000 in
set_option maxRecDepth 100000 in
theorem s_X12_isOn {Z : jZ} {I : jI} {L : jL} (w_I : WD Z I) (v0 : Nat) (v1 : Int32) (v2 : Int32) (v3 : Int32) (kv0 : jk Z v0 12) (uC : Nat) (huC : jr Z v0 37 = some uC) (uE : Nat) (huE : jr Z v0 38 = some uE) (uB : Nat) (huB : jr Z v0 40 = some uB) (p0 : MVB (3 * ((I v0 0).toInt + 1)) (I v0 0).toInt (I uC) (I uE)) (p1 : -1 ≤ v1.toInt ∧ v1.toInt < (I v0 0).toInt ∧ 1 ≤ v2.toInt ∧ v2.toInt ≤ 3 ∧ 0 ≤ v3.toInt ∧ v3.toInt ≤ 999) (p2 : ∃ M : Int, v3.toInt ≤ M ∧ DPR (I v0 0).toInt M (I uC) (I uE) (I uB) (-1) 0) {Q : Int32 → jI → jL → Prop} (hQ : ∀ (r : Int32), ((r.toInt = 1 ∧ CN (I uC) (I uE) (I uB) (v1.toInt + 1) v3.toInt v2.toInt) ∨ (r.toInt = 0 ∧ ¬ CN (I uC) (I uE) (I uB) (v1.toInt + 1) v3.toInt v2.toInt)) → Q r I L) : f_X12_isOn v0 v1 v2 v3 Z I L Q := by
  unfold f_X12_isOn
  have rv1 := i_rng v1
  have rv2 := i_rng v2
  have rv3 := i_rng v3
  have t1 : 0 ≤ (I v0 0).toInt ∧ (I v0 0).toInt ≤ 24 := w_I.fld 12 0 kv0 (by decide)
  have luC : jlen Z uC = 75 := by obtain ⟨b9, e9, -, l9⟩ := sh_f w_I.1 kv0 (j := 37) (k := 14) (m := 75) rfl; cases huC.symm.trans e9; exact l9
  have kuC : jk Z uC 14 := by obtain ⟨b9, e9, k9, -⟩ := sh_f w_I.1 kv0 (j := 37) (k := 14) (m := 75) rfl; cases huC.symm.trans e9; exact k9
  have luE : jlen Z uE = 75 := by obtain ⟨b9, e9, -, l9⟩ := sh_f w_I.1 kv0 (j := 38) (k := 14) (m := 75) rfl; cases huE.symm.trans e9; exact l9
  have kuE : jk Z uE 14 := by obtain ⟨b9, e9, k9, -⟩ := sh_f w_I.1 kv0 (j := 38) (k := 14) (m := 75) rfl; cases huE.symm.trans e9; exact k9
  have luB : jlen Z uB = 25000 := by obtain ⟨b9, e9, -, l9⟩ := sh_f w_I.1 kv0 (j := 40) (k := 14) (m := 25000) rfl; cases huB.symm.trans e9; exact l9
  have kuB : jk Z uB 14 := by obtain ⟨b9, e9, k9, -⟩ := sh_f w_I.1 kv0 (j := 40) (k := 14) (m := 25000) rfl; cases huB.symm.trans e9; exact k9
  have mv := p0
  obtain ⟨M, hM, dp⟩ := p2
  intro x2 ex2
  have rx2 := i_rng x2
  first | (have tx2 : x2.toInt = ((((3) * (v1.toInt + (1))) + v2.toInt) - (1)) := by (rw [ex2]; exact (i_sub (i_add (i_mul (show (3 : Int32).toInt = 3 from rfl) (i_add rfl (show (1 : Int32).toInt = 1 from rfl) (by omega) (by omega)) (by omega) (by omega)) rfl (by omega) (by omega)) (show (1 : Int32).toInt = 1 from rfl) (by omega) (by omega)))) | (have tx2 : x2.toInt = ((((3 : Int32) * (v1 + (1 : Int32))) + v2) - (1 : Int32)).toInt := by rw [ex2])
  intro b3 eb3
  obtain rfl : uC = b3 := Option.some.inj (huC.symm.trans eb3)
  have hm := MVB.at mv (x := x2) rfl (by omega) (by omega)
  have hk4 : x2.toInt = 3 * (v1.toInt + 1) + v2.toInt - 1 := by omega
  have o4 : vp_in x2 75 := vi_of rfl (by omega) (by omega)
  refine ⟨o4, ?_⟩
  refine ⟨fun c5 => ?_, fun c5 => ?_⟩
  · skip
    first | (have t6 : (I uC x2.toNatClampNeg).toInt = (1000000000) := (i_eq rfl (show (1000000000 : Int32).toInt = 1000000000 from rfl)).mp c5) | (have t6 : (I uC x2.toNatClampNeg).toInt = (1000000000 : Int32).toInt := (i_eq rfl rfl).mp c5) | skip
    have t7 : (0 : Int32).toInt = 0 := rfl
    exact hQ (0 : Int32) (by first | exact Or.inr ⟨rfl, CN.no1 hk4 (by omega) (by omega)⟩ | (refine Or.inr ⟨rfl, fun h9 => ?_⟩; have h8 := (hcn (by omega) (by omega)).mp h9; first | (exfalso; omega) | (rw [← hself] at h8; exfalso; omega)) | (refine Or.inl ⟨rfl, (hcn (by omega) (by omega)).mpr ?_⟩; rw [← hself]; constructor <;> omega))
  · skip
    first | (have t8 : ¬ ((I uC x2.toNatClampNeg).toInt = (1000000000)) := (not_congr (i_eq rfl (show (1000000000 : Int32).toInt = 1000000000 from rfl))).mp c5) | (have t8 : ¬ ((I uC x2.toNatClampNeg).toInt = (1000000000 : Int32).toInt) := (not_congr (i_eq rfl rfl)).mp c5) | skip
    intro b9 eb9
    obtain rfl : uE = b9 := Option.some.inj (huE.symm.trans eb9)
    have o10 : vp_in x2 75 := vi_of rfl (by omega) (by omega)
    refine ⟨o10, ?_⟩
    refine ⟨fun c11 => ?_, fun c11 => ?_⟩
    · skip
      first | (have t12 : (I uE x2.toNatClampNeg).toInt ≤ v3.toInt := (i_le rfl rfl).mp c11) | (have t12 : (I uE x2.toNatClampNeg).toInt ≤ v3.toInt := (i_le rfl rfl).mp c11) | skip
      intro b13 eb13
      obtain rfl : uB = b13 := Option.some.inj (huB.symm.trans eb13)
      intro b14 eb14
      obtain rfl : uE = b14 := Option.some.inj (huE.symm.trans eb14)
      have o15 : vp_in x2 75 := vi_of rfl (by omega) (by omega)
      refine ⟨o15, ?_⟩
      have hix : ((((1000 : Int32) * ((v1 + v2) + (1 : Int32))) + v3) - (I uE x2.toNatClampNeg)).toInt = ((((1000) * ((v1.toInt + v2.toInt) + (1))) + v3.toInt) - (I uE x2.toNatClampNeg).toInt) := (i_sub (i_add (i_mul (show (1000 : Int32).toInt = 1000 from rfl) (i_add (i_add rfl rfl (by omega) (by omega)) (show (1 : Int32).toInt = 1 from rfl) (by omega) (by omega)) (by omega) (by omega)) rfl (by omega) (by omega)) rfl (by omega) (by omega))
      have hdp := DPR.at (F := -1) dp hix (v1.toInt + 1 + v2.toInt) (v3.toInt - (I uE x2.toNatClampNeg).toInt) (by omega) (by omega) (by omega)
      have hcn := fun h1 h2 => CN.iff (C := I uC) (E := I uE) (Bf := I uB) (f := v1.toInt + 1) (e := v3.toInt) (far := v2.toInt) (i := ((((1000 : Int32) * ((v1 + v2) + (1 : Int32))) + v3) - (I uE x2.toNatClampNeg))) hk4 (by omega) (by omega) (by omega) h1 h2
      have o16 : vp_in ((((1000 : Int32) * ((v1 + v2) + (1 : Int32))) + v3) - (I uE x2.toNatClampNeg)) 25000 := vi_of (i_sub (i_add (i_mul (show (1000 : Int32).toInt = 1000 from rfl) (i_add (i_add rfl rfl (by omega) (by omega)) (show (1 : Int32).toInt = 1 from rfl) (by omega) (by omega)) (by omega) (by omega)) rfl (by omega) (by omega)) rfl (by omega) (by omega)) (by omega) (by omega)
      refine ⟨o16, ?_⟩
      intro x17 ex17
      have rx17 := i_rng x17
      first | (have tx17 : x17.toInt = (I uB ((((1000 : Int32) * ((v1 + v2) + (1 : Int32))) + v3) - (I uE x2.toNatClampNeg)).toNatClampNeg).toInt := by (rw [ex17]; exact rfl)) | (have tx17 : x17.toInt = (I uB ((((1000 : Int32) * ((v1 + v2) + (1 : Int32))) + v3) - (I uE x2.toNatClampNeg)).toNatClampNeg).toInt := by rw [ex17])
      refine ⟨fun c18 => ?_, fun c18 => ?_⟩
      · skip
        first | (have t19 : x17.toInt = (1000000000) := (i_eq rfl (show (1000000000 : Int32).toInt = 1000000000 from rfl)).mp c18) | (have t19 : x17.toInt = (1000000000 : Int32).toInt := (i_eq rfl rfl).mp c18) | skip
        have t20 : (0 : Int32).toInt = 0 := rfl
        exact hQ (0 : Int32) (by first | exact Or.inr ⟨rfl, CN.no1 hk4 (by omega) (by omega)⟩ | (refine Or.inr ⟨rfl, fun h9 => ?_⟩; have h8 := (hcn (by omega) (by omega)).mp h9; first | (exfalso; omega) | (rw [← hself] at h8; exfalso; omega)) | (refine Or.inl ⟨rfl, (hcn (by omega) (by omega)).mpr ?_⟩; rw [← hself]; constructor <;> omega))
      · skip
        first | (have t21 : ¬ (x17.toInt = (1000000000)) := (not_congr (i_eq rfl (show (1000000000 : Int32).toInt = 1000000000 from rfl))).mp c18) | (have t21 : ¬ (x17.toInt = (1000000000 : Int32).toInt) := (not_congr (i_eq rfl rfl)).mp c18) | skip
        intro b22 eb22
        obtain rfl : uC = b22 := Option.some.inj (huC.symm.trans eb22)
        have o23 : vp_in x2 75 := vi_of rfl (by omega) (by omega)
        refine ⟨o23, ?_⟩
        intro b24 eb24
        obtain rfl : uB = b24 := Option.some.inj (huB.symm.trans eb24)
        have hself : ((((1000 : Int32) * (v1 + (1 : Int32))) + v3)).toNatClampNeg = (1000 * (v1.toInt + 1) + v3.toInt).toNat := by (have h9 := i_nat (x := (((1000 : Int32) * (v1 + (1 : Int32))) + v3)) (i_add (i_mul (show (1000 : Int32).toInt = 1000 from rfl) (i_add rfl (show (1 : Int32).toInt = 1 from rfl) (by omega) (by omega)) (by omega) (by omega)) rfl (by omega) (by omega)) (by omega); omega)
        have o25 : vp_in (((1000 : Int32) * (v1 + (1 : Int32))) + v3) 25000 := vi_of (i_add (i_mul (show (1000 : Int32).toInt = 1000 from rfl) (i_add rfl (show (1 : Int32).toInt = 1 from rfl) (by omega) (by omega)) (by omega) (by omega)) rfl (by omega) (by omega)) (by omega) (by omega)
        refine ⟨o25, ?_⟩
        refine ⟨fun c26 => ?_, fun c26 => ?_⟩
        · skip
          first | (have t27 : ¬ (((x17.toInt + ((100) * (I uC x2.toNatClampNeg).toInt)) + (1)) = (I uB (((1000 : Int32) * (v1 + (1 : Int32))) + v3).toNatClampNeg).toInt) := (not_congr (i_eq (i_add (i_add rfl (i_mul (show (100 : Int32).toInt = 100 from rfl) rfl (by omega) (by omega)) (by omega) (by omega)) (show (1 : Int32).toInt = 1 from rfl) (by omega) (by omega)) rfl)).mp c26) | (have t27 : ¬ (((x17 + ((100 : Int32) * (I uC x2.toNatClampNeg))) + (1 : Int32)).toInt = (I uB (((1000 : Int32) * (v1 + (1 : Int32))) + v3).toNatClampNeg).toInt) := (not_congr (i_eq rfl rfl)).mp c26) | skip
          have t28 : (0 : Int32).toInt = 0 := rfl
          exact hQ (0 : Int32) (by first | exact Or.inr ⟨rfl, CN.no1 hk4 (by omega) (by omega)⟩ | (refine Or.inr ⟨rfl, fun h9 => ?_⟩; have h8 := (hcn (by omega) (by omega)).mp h9; first | (exfalso; omega) | (rw [← hself] at h8; exfalso; omega)) | (refine Or.inl ⟨rfl, (hcn (by omega) (by omega)).mpr ?_⟩; rw [← hself]; constructor <;> omega))
        · skip
          first | (have t29 : ((x17.toInt + ((100) * (I uC x2.toNatClampNeg).toInt)) + (1)) = (I uB (((1000 : Int32) * (v1 + (1 : Int32))) + v3).toNatClampNeg).toInt := (i_eq (i_add (i_add rfl (i_mul (show (100 : Int32).toInt = 100 from rfl) rfl (by omega) (by omega)) (by omega) (by omega)) (show (1 : Int32).toInt = 1 from rfl) (by omega) (by omega)) rfl).mp c26) | (have t29 : ((x17 + ((100 : Int32) * (I uC x2.toNatClampNeg))) + (1 : Int32)).toInt = (I uB (((1000 : Int32) * (v1 + (1 : Int32))) + v3).toNatClampNeg).toInt := (i_eq rfl rfl).mp c26) | skip
          have t30 : (1 : Int32).toInt = 1 := rfl
          exact hQ (1 : Int32) (by first | exact Or.inr ⟨rfl, CN.no1 hk4 (by omega) (by omega)⟩ | (refine Or.inr ⟨rfl, fun h9 => ?_⟩; have h8 := (hcn (by omega) (by omega)).mp h9; first | (exfalso; omega) | (rw [← hself] at h8; exfalso; omega)) | (refine Or.inl ⟨rfl, (hcn (by omega) (by omega)).mpr ?_⟩; rw [← hself]; constructor <;> omega))
    · skip
      first | (have t31 : ¬ ((I uE x2.toNatClampNeg).toInt ≤ v3.toInt) := (not_congr (i_le rfl rfl)).mp c11) | (have t31 : ¬ ((I uE x2.toNatClampNeg).toInt ≤ v3.toInt) := (not_congr (i_le rfl rfl)).mp c11) | skip
      have t32 : (0 : Int32).toInt = 0 := rfl
      exact hQ (0 : Int32) (by first | exact Or.inr ⟨rfl, CN.no1 hk4 (by omega) (by omega)⟩ | (refine Or.inr ⟨rfl, fun h9 => ?_⟩; have h8 := (hcn (by omega) (by omega)).mp h9; first | (exfalso; omega) | (rw [← hself] at h8; exfalso; omega)) | (refine Or.inl ⟨rfl, (hcn (by omega) (by omega)).mpr ?_⟩; rw [← hself]; constructor <;> omega))
def Ws_X12_findByCost : List (Nat × Nat) := [(12, 40)]
set_option maxHeartbeats 4000000 in
set_option maxRecDepth 100000 in
theorem l_X12_findByCost_L45 {Z : jZ} {I0 : jI} {Q : jI → jL → Prop} (w0 : WD Z I0) (v0 : Nat) (v1 : Int32) (kv0 : jk Z v0 12) (uC : Nat) (huC : jr Z v0 37 = some uC) (uE : Nat) (huE : jr Z v0 38 = some uE) (uB : Nat) (huB : jr Z v0 40 = some uB) (p0 : MVB (3 * ((I0 v0 0).toInt + 1)) (I0 v0 0).toInt (I0 uC) (I0 uE)) (p1 : 0 ≤ v1.toInt ∧ v1.toInt ≤ 999) (v2 : Int32) (v3 : Int32) (hQ : ∀  (I' : jI) (L' : jL), WD Z I' → FR Ws_X12_findByCost Z I0 Z I' → Q I' L') {K7 : Nat → Int32 → Int32 → jI → jL → Prop} {N7 : Int} (hK7 : ∀ (v2 : Int32) (I : jI) (L : jL), WD Z I → FR Ws_X12_findByCost Z I0 Z I →   (-2 ≤ v2.toInt ∧ (I0 v0 0).toInt ≤ 24 ∧ v2.toInt < (I0 v0 0).toInt) → v2.toInt + 2 < N7 → K7 v0 v1 v2 I L) {K14 : Nat → Int32 → Int32 → Int32 → jI → jL → Prop} {N14 : Int} (hK14 : ∀ (v3 : Int32) (I : jI) (L : jL), WD Z I → FR Ws_X12_findByCost Z I0 Z I →   (-1 ≤ v2.toInt ∧ (I0 v0 0).toInt ≤ 24 ∧ v2.toInt < (I0 v0 0).toInt ∧ 0 ≤ v3.toInt ∧ v3.toInt ≤ 1000) → v2.toInt + 2 ≤ N7 → 1000 - v3.toInt < N14 → K14 v0 v1 v2 v3 I L) : ∀ (n : Nat) (v4 : Int32) (v5 : Int32) (I : jI) (L : jL), WD Z I → FR Ws_X12_findByCost Z I0 Z I →   (-1 ≤ v2.toInt ∧ (I0 v0 0).toInt ≤ 24 ∧ v2.toInt < (I0 v0 0).toInt ∧ 0 ≤ v3.toInt ∧ v3.toInt ≤ 999 ∧ 1 ≤ v5.toInt ∧ v5.toInt ≤ 4) → v2.toInt + 2 ≤ N7 → 1000 - v3.toInt ≤ N14 → 4 - v5.toInt < (n : Int) → f_X12_findByCost_L45 K7 K14 Z Q n v0 v1 v2 v3 v4 v5 I L := by
  intro n
  induction n with
  | zero =>
    intro v4 v5 I L w_I q_I   li hm7 hm14 me
    exfalso
    omega
  | succ n ih =>
    intro v4 v5 I L w_I q_I   li hm7 hm14 me
    unfold f_X12_findByCost_L45
    have rv4 := i_rng v4
    have rv5 := i_rng v5
    have rv2 := i_rng v2
    have rv3 := i_rng v3
    have rv1 := i_rng v1
    have t1 : 0 ≤ (I v0 0).toInt ∧ (I v0 0).toInt ≤ 24 := w_I.fld 12 0 kv0 (by decide)
    have luC : jlen Z uC = 75 := by obtain ⟨b9, e9, -, l9⟩ := sh_f w_I.1 kv0 (j := 37) (k := 14) (m := 75) rfl; cases huC.symm.trans e9; exact l9
    have kuC : jk Z uC 14 := by obtain ⟨b9, e9, k9, -⟩ := sh_f w_I.1 kv0 (j := 37) (k := 14) (m := 75) rfl; cases huC.symm.trans e9; exact k9
    have luE : jlen Z uE = 75 := by obtain ⟨b9, e9, -, l9⟩ := sh_f w_I.1 kv0 (j := 38) (k := 14) (m := 75) rfl; cases huE.symm.trans e9; exact l9
    have kuE : jk Z uE 14 := by obtain ⟨b9, e9, k9, -⟩ := sh_f w_I.1 kv0 (j := 38) (k := 14) (m := 75) rfl; cases huE.symm.trans e9; exact k9
    have luB : jlen Z uB = 25000 := by obtain ⟨b9, e9, -, l9⟩ := sh_f w_I.1 kv0 (j := 40) (k := 14) (m := 25000) rfl; cases huB.symm.trans e9; exact l9
    have kuB : jk Z uB 14 := by obtain ⟨b9, e9, k9, -⟩ := sh_f w_I.1 kv0 (j := 40) (k := 14) (m := 25000) rfl; cases huB.symm.trans e9; exact k9
    have e0 : (I v0 0).toInt = (I0 v0 0).toInt := by rw [q_I.2.2.1 v0 12 0 kv0 (by decide) (by decide)]
    have ec : I uC = I0 uC := q_I.2.2.2 v0 12 37 uC kv0 huC (by rw [kuC.2]; rfl) rfl (by decide)
    have ee : I uE = I0 uE := q_I.2.2.2 v0 12 38 uE kv0 huE (by rw [kuE.2]; rfl) rfl (by decide)
    have mv : MVB (3 * ((I0 v0 0).toInt + 1)) (I0 v0 0).toInt (I uC) (I uE) := by rw [ec, ee]; exact p0
    refine ⟨fun c2 => ?_, fun c2 => ?_⟩
    · skip
      first | (have t3 : (3) < v5.toInt := (i_lt (show (3 : Int32).toInt = 3 from rfl) rfl).mp c2) | (have t3 : (3 : Int32).toInt < v5.toInt := (i_lt rfl rfl).mp c2) | skip
      intro b4 eb4
      obtain rfl : uB = b4 := Option.some.inj (huB.symm.trans eb4)
      have o5 : vp_in (((1000 : Int32) * (v2 + (1 : Int32))) + v3) 25000 := vi_of (i_add (i_mul (show (1000 : Int32).toInt = 1000 from rfl) (i_add rfl (show (1 : Int32).toInt = 1 from rfl) (by omega) (by omega)) (by omega) (by omega)) rfl (by omega) (by omega)) (by omega) (by omega)
      refine ⟨o5, ?_⟩
      intro I6 eI6
      have w_I6 : WD Z I6 := by rw [eI6]; exact WD_putA w_I 12 40 kv0 huB kuB rfl rfl (by decide) trivial
      have f_I6 : FR [(12, 40)] Z I Z I6 := by rw [eI6]; exact FR_upA w_I.2.1 kv0 huB kuB rfl rfl List.mem_cons_self
      have q_I6 : FR Ws_X12_findByCost Z I0 Z I6 := q_I.trans w0.1 w0.2.1 (f_I6.mono (by decide))
      have u7 : (I6 v0 0).toInt = (I v0 0).toInt := by rw [f_I6.2.2.1 v0 12 0 kv0 (by decide) (by decide)]
      intro x8 ex8
      have rx8 := i_rng x8
      first | (have tx8 : x8.toInt = v3.toInt + (1) := by (rw [ex8]; exact (i_add rfl (show (1 : Int32).toInt = 1 from rfl) (by omega) (by omega)))) | skip
      exact hK14 x8 I6 L w_I6 q_I6   (by omega) (by omega) (by omega)
    · skip
      first | (have t9 : ¬ ((3) < v5.toInt) := (not_congr (i_lt (show (3 : Int32).toInt = 3 from rfl) rfl)).mp c2) | (have t9 : ¬ ((3 : Int32).toInt < v5.toInt) := (not_congr (i_lt rfl rfl)).mp c2) | skip
      intro x10 ex10
      have rx10 := i_rng x10
      first | (have tx10 : x10.toInt = ((((3) * (v2.toInt + (1))) + v5.toInt) - (1)) := by (rw [ex10]; exact (i_sub (i_add (i_mul (show (3 : Int32).toInt = 3 from rfl) (i_add rfl (show (1 : Int32).toInt = 1 from rfl) (by omega) (by omega)) (by omega) (by omega)) rfl (by omega) (by omega)) (show (1 : Int32).toInt = 1 from rfl) (by omega) (by omega)))) | (have tx10 : x10.toInt = ((((3 : Int32) * (v2 + (1 : Int32))) + v5) - (1 : Int32)).toInt := by rw [ex10])
      intro b11 eb11
      obtain rfl : uC = b11 := Option.some.inj (huC.symm.trans eb11)
      have hm := MVB.at mv (x := x10) rfl (by omega) (by omega)
      have o12 : vp_in x10 75 := vi_of rfl (by omega) (by omega)
      refine ⟨o12, ?_⟩
      refine ⟨fun c13 => ?_, fun c13 => ?_⟩
      · skip
        first | (have t14 : (I uC x10.toNatClampNeg).toInt = (1000000000) := (i_eq rfl (show (1000000000 : Int32).toInt = 1000000000 from rfl)).mp c13) | (have t14 : (I uC x10.toNatClampNeg).toInt = (1000000000 : Int32).toInt := (i_eq rfl rfl).mp c13) | skip
        unfold f_X12_findByCost_b142
        intro x15 ex15
        have rx15 := i_rng x15
        first | (have tx15 : x15.toInt = v5.toInt + (1) := by (rw [ex15]; exact (i_add rfl (show (1 : Int32).toInt = 1 from rfl) (by omega) (by omega)))) | skip
        exact ih v4 x15 I L w_I q_I   (by omega) (by omega) (by omega) (by omega)
      · skip
        first | (have t16 : ¬ ((I uC x10.toNatClampNeg).toInt = (1000000000)) := (not_congr (i_eq rfl (show (1000000000 : Int32).toInt = 1000000000 from rfl))).mp c13) | (have t16 : ¬ ((I uC x10.toNatClampNeg).toInt = (1000000000 : Int32).toInt) := (not_congr (i_eq rfl rfl)).mp c13) | skip
        intro b17 eb17
        obtain rfl : uC = b17 := Option.some.inj (huC.symm.trans eb17)
        have o18 : vp_in x10 75 := vi_of rfl (by omega) (by omega)
        refine ⟨o18, ?_⟩
        refine ⟨fun c19 => ?_, fun c19 => ?_⟩
        · skip
          first | (have t20 : (I uC x10.toNatClampNeg).toInt ≤ v3.toInt := (i_le rfl rfl).mp c19) | (have t20 : (I uC x10.toNatClampNeg).toInt ≤ v3.toInt := (i_le rfl rfl).mp c19) | skip
          intro b21 eb21
          obtain rfl : uB = b21 := Option.some.inj (huB.symm.trans eb21)
          intro b22 eb22
          obtain rfl : uC = b22 := Option.some.inj (huC.symm.trans eb22)
          have o23 : vp_in x10 75 := vi_of rfl (by omega) (by omega)
          refine ⟨o23, ?_⟩
          have o24 : vp_in ((((1000 : Int32) * ((v2 + v5) + (1 : Int32))) + v3) - (I uC x10.toNatClampNeg)) 25000 := vi_of (i_sub (i_add (i_mul (show (1000 : Int32).toInt = 1000 from rfl) (i_add (i_add rfl rfl (by omega) (by omega)) (show (1 : Int32).toInt = 1 from rfl) (by omega) (by omega)) (by omega) (by omega)) rfl (by omega) (by omega)) rfl (by omega) (by omega)) (by omega) (by omega)
          refine ⟨o24, ?_⟩
          intro x25 ex25
          have rx25 := i_rng x25
          first | (have tx25 : x25.toInt = (I uB ((((1000 : Int32) * ((v2 + v5) + (1 : Int32))) + v3) - (I uC x10.toNatClampNeg)).toNatClampNeg).toInt := by (rw [ex25]; exact rfl)) | (have tx25 : x25.toInt = (I uB ((((1000 : Int32) * ((v2 + v5) + (1 : Int32))) + v3) - (I uC x10.toNatClampNeg)).toNatClampNeg).toInt := by rw [ex25])
          refine ⟨fun c26 => ?_, fun c26 => ?_⟩
          · skip
            first | (have t27 : x25.toInt = (1000000000) := (i_eq rfl (show (1000000000 : Int32).toInt = 1000000000 from rfl)).mp c26) | (have t27 : x25.toInt = (1000000000 : Int32).toInt := (i_eq rfl rfl).mp c26) | skip
            unfold f_X12_findByCost_b142
            intro x28 ex28
            have rx28 := i_rng x28
            first | (have tx28 : x28.toInt = v5.toInt + (1) := by (rw [ex28]; exact (i_add rfl (show (1 : Int32).toInt = 1 from rfl) (by omega) (by omega)))) | skip
            exact ih v4 x28 I L w_I q_I   (by omega) (by omega) (by omega) (by omega)
          · skip
            first | (have t29 : ¬ (x25.toInt = (1000000000)) := (not_congr (i_eq rfl (show (1000000000 : Int32).toInt = 1000000000 from rfl))).mp c26) | (have t29 : ¬ (x25.toInt = (1000000000 : Int32).toInt) := (not_congr (i_eq rfl rfl)).mp c26) | skip
            intro b30 eb30
            obtain rfl : uE = b30 := Option.some.inj (huE.symm.trans eb30)
            have o31 : vp_in x10 75 := vi_of rfl (by omega) (by omega)
            refine ⟨o31, ?_⟩
            intro x32 ex32
            have rx32 := i_rng x32
            first | (have tx32 : x32.toInt = (min v4.toInt (x25.toInt + (I uE x10.toNatClampNeg).toInt)) := by (rw [ex32]; exact (i_min rfl (i_add rfl rfl (by omega) (by omega))))) | (have tx32 : x32.toInt = (if (x25 + (I uE x10.toNatClampNeg)) < v4 then (x25 + (I uE x10.toNatClampNeg)) else v4).toInt := by rw [ex32])
            unfold f_X12_findByCost_b142
            intro x33 ex33
            have rx33 := i_rng x33
            first | (have tx33 : x33.toInt = v5.toInt + (1) := by (rw [ex33]; exact (i_add rfl (show (1 : Int32).toInt = 1 from rfl) (by omega) (by omega)))) | skip
            exact ih x32 x33 I L w_I q_I   (by omega) (by omega) (by omega) (by omega)
        · skip
          first | (have t34 : ¬ ((I uC x10.toNatClampNeg).toInt ≤ v3.toInt) := (not_congr (i_le rfl rfl)).mp c19) | (have t34 : ¬ ((I uC x10.toNatClampNeg).toInt ≤ v3.toInt) := (not_congr (i_le rfl rfl)).mp c19) | skip
          unfold f_X12_findByCost_b142
          intro x35 ex35
          have rx35 := i_rng x35
          first | (have tx35 : x35.toInt = v5.toInt + (1) := by (rw [ex35]; exact (i_add rfl (show (1 : Int32).toInt = 1 from rfl) (by omega) (by omega)))) | skip
          exact ih v4 x35 I L w_I q_I   (by omega) (by omega) (by omega) (by omega)
set_option maxHeartbeats 4000000 in
set_option maxRecDepth 100000 in
theorem l_X12_findByCost_L14 {Z : jZ} {I0 : jI} {Q : jI → jL → Prop} (w0 : WD Z I0) (v0 : Nat) (v1 : Int32) (kv0 : jk Z v0 12) (uC : Nat) (huC : jr Z v0 37 = some uC) (uE : Nat) (huE : jr Z v0 38 = some uE) (uB : Nat) (huB : jr Z v0 40 = some uB) (p0 : MVB (3 * ((I0 v0 0).toInt + 1)) (I0 v0 0).toInt (I0 uC) (I0 uE)) (p1 : 0 ≤ v1.toInt ∧ v1.toInt ≤ 999) (v2 : Int32) (hQ : ∀  (I' : jI) (L' : jL), WD Z I' → FR Ws_X12_findByCost Z I0 Z I' → Q I' L') {K7 : Nat → Int32 → Int32 → jI → jL → Prop} {N7 : Int} (hK7 : ∀ (v2 : Int32) (I : jI) (L : jL), WD Z I → FR Ws_X12_findByCost Z I0 Z I →   (-2 ≤ v2.toInt ∧ (I0 v0 0).toInt ≤ 24 ∧ v2.toInt < (I0 v0 0).toInt) → v2.toInt + 2 < N7 → K7 v0 v1 v2 I L) : ∀ (n : Nat) (v3 : Int32) (I : jI) (L : jL), WD Z I → FR Ws_X12_findByCost Z I0 Z I →   (-1 ≤ v2.toInt ∧ (I0 v0 0).toInt ≤ 24 ∧ v2.toInt < (I0 v0 0).toInt ∧ 0 ≤ v3.toInt ∧ v3.toInt ≤ 1000) → v2.toInt + 2 ≤ N7 → 1000 - v3.toInt < (n : Int) → f_X12_findByCost_L14 K7 Z Q n v0 v1 v2 v3 I L := by
  intro n
  induction n with
  | zero =>
    intro v3 I L w_I q_I   li hm7 me
    exfalso
    omega
  | succ n ih =>
    intro v3 I L w_I q_I   li hm7 me
    unfold f_X12_findByCost_L14
    have rv3 := i_rng v3
    have rv2 := i_rng v2
    have rv1 := i_rng v1
    have t36 : 0 ≤ (I v0 0).toInt ∧ (I v0 0).toInt ≤ 24 := w_I.fld 12 0 kv0 (by decide)
    have luC : jlen Z uC = 75 := by obtain ⟨b9, e9, -, l9⟩ := sh_f w_I.1 kv0 (j := 37) (k := 14) (m := 75) rfl; cases huC.symm.trans e9; exact l9
    have kuC : jk Z uC 14 := by obtain ⟨b9, e9, k9, -⟩ := sh_f w_I.1 kv0 (j := 37) (k := 14) (m := 75) rfl; cases huC.symm.trans e9; exact k9
    have luE : jlen Z uE = 75 := by obtain ⟨b9, e9, -, l9⟩ := sh_f w_I.1 kv0 (j := 38) (k := 14) (m := 75) rfl; cases huE.symm.trans e9; exact l9
    have kuE : jk Z uE 14 := by obtain ⟨b9, e9, k9, -⟩ := sh_f w_I.1 kv0 (j := 38) (k := 14) (m := 75) rfl; cases huE.symm.trans e9; exact k9
    have luB : jlen Z uB = 25000 := by obtain ⟨b9, e9, -, l9⟩ := sh_f w_I.1 kv0 (j := 40) (k := 14) (m := 25000) rfl; cases huB.symm.trans e9; exact l9
    have kuB : jk Z uB 14 := by obtain ⟨b9, e9, k9, -⟩ := sh_f w_I.1 kv0 (j := 40) (k := 14) (m := 25000) rfl; cases huB.symm.trans e9; exact k9
    have e0 : (I v0 0).toInt = (I0 v0 0).toInt := by rw [q_I.2.2.1 v0 12 0 kv0 (by decide) (by decide)]
    have ec : I uC = I0 uC := q_I.2.2.2 v0 12 37 uC kv0 huC (by rw [kuC.2]; rfl) rfl (by decide)
    have ee : I uE = I0 uE := q_I.2.2.2 v0 12 38 uE kv0 huE (by rw [kuE.2]; rfl) rfl (by decide)
    have mv : MVB (3 * ((I0 v0 0).toInt + 1)) (I0 v0 0).toInt (I uC) (I uE) := by rw [ec, ee]; exact p0
    refine ⟨fun c37 => ?_, fun c37 => ?_⟩
    · skip
      first | (have t38 : v1.toInt < v3.toInt := (i_lt rfl rfl).mp c37) | (have t38 : v1.toInt < v3.toInt := (i_lt rfl rfl).mp c37) | skip
      intro x39 ex39
      have rx39 := i_rng x39
      first | (have tx39 : x39.toInt = v2.toInt + (-1) := by (rw [ex39]; exact (i_add rfl (show (-1 : Int32).toInt = -1 from rfl) (by omega) (by omega)))) | skip
      exact hK7 x39 I L w_I q_I   (by omega)  (by omega)
    · skip
      first | (have t40 : ¬ (v1.toInt < v3.toInt) := (not_congr (i_lt rfl rfl)).mp c37) | (have t40 : ¬ (v1.toInt < v3.toInt) := (not_congr (i_lt rfl rfl)).mp c37) | skip
      have t42 : 0 ≤ (I v0 0).toInt ∧ (I v0 0).toInt ≤ 24 := w_I.fld 12 0 kv0 (by decide)
      refine ⟨fun c43 => ?_, fun c43 => ?_⟩
      · skip
        first | (have t44 : ¬ (v2.toInt = ((I v0 0).toInt - (1))) := (not_congr (i_eq rfl (i_sub rfl (show (1 : Int32).toInt = 1 from rfl) (by omega) (by omega)))).mp c43) | (have t44 : ¬ (v2.toInt = ((I v0 0) - (1 : Int32)).toInt) := (not_congr (i_eq rfl rfl)).mp c43) | skip
        unfold f_X12_findByCost_b37
        unfold f_X12_findByCost_b40
        have t45 : (1000000000 : Int32).toInt = 1000000000 := rfl
        have t46 : (1 : Int32).toInt = 1 := rfl
        exact ⟨(4 - (1 : Int32).toInt).toNat + 1, l_X12_findByCost_L45 w0 v0 v1 kv0 uC huC uE huE uB huB p0 p1 v2 v3  hQ hK7 ih  _ (1000000000 : Int32) (1 : Int32) I L w_I q_I   (by omega) (by omega) (by omega) (by omega)⟩
      · skip
        first | (have t47 : v2.toInt = ((I v0 0).toInt - (1)) := (i_eq rfl (i_sub rfl (show (1 : Int32).toInt = 1 from rfl) (by omega) (by omega))).mp c43) | (have t47 : v2.toInt = ((I v0 0) - (1 : Int32)).toInt := (i_eq rfl rfl).mp c43) | skip
        refine ⟨fun c48 => ?_, fun c48 => ?_⟩
        · skip
          first | (have t49 : ¬ (v3.toInt = (0)) := (not_congr (i_eq rfl (show (0 : Int32).toInt = 0 from rfl))).mp c48) | (have t49 : ¬ (v3.toInt = (0 : Int32).toInt) := (not_congr (i_eq rfl rfl)).mp c48) | skip
          unfold f_X12_findByCost_b37
          unfold f_X12_findByCost_b40
          have t50 : (1000000000 : Int32).toInt = 1000000000 := rfl
          have t51 : (1 : Int32).toInt = 1 := rfl
          exact ⟨(4 - (1 : Int32).toInt).toNat + 1, l_X12_findByCost_L45 w0 v0 v1 kv0 uC huC uE huE uB huB p0 p1 v2 v3  hQ hK7 ih  _ (1000000000 : Int32) (1 : Int32) I L w_I q_I   (by omega) (by omega) (by omega) (by omega)⟩
        · skip
          first | (have t52 : v3.toInt = (0) := (i_eq rfl (show (0 : Int32).toInt = 0 from rfl)).mp c48) | (have t52 : v3.toInt = (0 : Int32).toInt := (i_eq rfl rfl).mp c48) | skip
          unfold f_X12_findByCost_b40
          have t53 : (0 : Int32).toInt = 0 := rfl
          have t54 : (1 : Int32).toInt = 1 := rfl
          exact ⟨(4 - (1 : Int32).toInt).toNat + 1, l_X12_findByCost_L45 w0 v0 v1 kv0 uC huC uE huE uB huB p0 p1 v2 v3  hQ hK7 ih  _ (0 : Int32) (1 : Int32) I L w_I q_I   (by omega) (by omega) (by omega) (by omega)⟩
set_option maxHeartbeats 4000000 in
set_option maxRecDepth 100000 in
theorem l_X12_findByCost_L7 {Z : jZ} {I0 : jI} {Q : jI → jL → Prop} (w0 : WD Z I0) (v0 : Nat) (v1 : Int32) (kv0 : jk Z v0 12) (uC : Nat) (huC : jr Z v0 37 = some uC) (uE : Nat) (huE : jr Z v0 38 = some uE) (uB : Nat) (huB : jr Z v0 40 = some uB) (p0 : MVB (3 * ((I0 v0 0).toInt + 1)) (I0 v0 0).toInt (I0 uC) (I0 uE)) (p1 : 0 ≤ v1.toInt ∧ v1.toInt ≤ 999) (hQ : ∀  (I' : jI) (L' : jL), WD Z I' → FR Ws_X12_findByCost Z I0 Z I' → Q I' L') : ∀ (n : Nat) (v2 : Int32) (I : jI) (L : jL), WD Z I → FR Ws_X12_findByCost Z I0 Z I →   (-2 ≤ v2.toInt ∧ (I0 v0 0).toInt ≤ 24 ∧ v2.toInt < (I0 v0 0).toInt) → v2.toInt + 2 < (n : Int) → f_X12_findByCost_L7  Z Q n v0 v1 v2 I L := by
  intro n
  induction n with
  | zero =>
    intro v2 I L w_I q_I   li  me
    exfalso
    omega
  | succ n ih =>
    intro v2 I L w_I q_I   li  me
    unfold f_X12_findByCost_L7
    have rv2 := i_rng v2
    have rv1 := i_rng v1
    have t55 : 0 ≤ (I v0 0).toInt ∧ (I v0 0).toInt ≤ 24 := w_I.fld 12 0 kv0 (by decide)
    have luC : jlen Z uC = 75 := by obtain ⟨b9, e9, -, l9⟩ := sh_f w_I.1 kv0 (j := 37) (k := 14) (m := 75) rfl; cases huC.symm.trans e9; exact l9
    have kuC : jk Z uC 14 := by obtain ⟨b9, e9, k9, -⟩ := sh_f w_I.1 kv0 (j := 37) (k := 14) (m := 75) rfl; cases huC.symm.trans e9; exact k9
    have luE : jlen Z uE = 75 := by obtain ⟨b9, e9, -, l9⟩ := sh_f w_I.1 kv0 (j := 38) (k := 14) (m := 75) rfl; cases huE.symm.trans e9; exact l9
    have kuE : jk Z uE 14 := by obtain ⟨b9, e9, k9, -⟩ := sh_f w_I.1 kv0 (j := 38) (k := 14) (m := 75) rfl; cases huE.symm.trans e9; exact k9
    have luB : jlen Z uB = 25000 := by obtain ⟨b9, e9, -, l9⟩ := sh_f w_I.1 kv0 (j := 40) (k := 14) (m := 25000) rfl; cases huB.symm.trans e9; exact l9
    have kuB : jk Z uB 14 := by obtain ⟨b9, e9, k9, -⟩ := sh_f w_I.1 kv0 (j := 40) (k := 14) (m := 25000) rfl; cases huB.symm.trans e9; exact k9
    have e0 : (I v0 0).toInt = (I0 v0 0).toInt := by rw [q_I.2.2.1 v0 12 0 kv0 (by decide) (by decide)]
    have ec : I uC = I0 uC := q_I.2.2.2 v0 12 37 uC kv0 huC (by rw [kuC.2]; rfl) rfl (by decide)
    have ee : I uE = I0 uE := q_I.2.2.2 v0 12 38 uE kv0 huE (by rw [kuE.2]; rfl) rfl (by decide)
    have mv : MVB (3 * ((I0 v0 0).toInt + 1)) (I0 v0 0).toInt (I uC) (I uE) := by rw [ec, ee]; exact p0
    refine ⟨fun c56 => ?_, fun c56 => ?_⟩
    · skip
      first | (have t57 : v2.toInt < (-1) := (i_lt rfl (show (-1 : Int32).toInt = -1 from rfl)).mp c56) | (have t57 : v2.toInt < (-1 : Int32).toInt := (i_lt rfl rfl).mp c56) | skip
      exact hQ  I L w_I q_I 
    · skip
      first | (have t58 : ¬ (v2.toInt < (-1)) := (not_congr (i_lt rfl (show (-1 : Int32).toInt = -1 from rfl))).mp c56) | (have t58 : ¬ (v2.toInt < (-1 : Int32).toInt) := (not_congr (i_lt rfl rfl)).mp c56) | skip
      have t59 : (0 : Int32).toInt = 0 := rfl
      exact ⟨(1000 - (0 : Int32).toInt).toNat + 1, l_X12_findByCost_L14 w0 v0 v1 kv0 uC huC uE huE uB huB p0 p1 v2  hQ ih  _ (0 : Int32) I L w_I q_I   (by omega) (by omega) (by omega)⟩
set_option maxHeartbeats 4000000 in
set_option maxRecDepth 100000 in
theorem s_X12_findByCost {Z : jZ} {I : jI} {L : jL} (w_I : WD Z I) (v0 : Nat) (v1 : Int32) (kv0 : jk Z v0 12) (uC : Nat) (huC : jr Z v0 37 = some uC) (uE : Nat) (huE : jr Z v0 38 = some uE) (uB : Nat) (huB : jr Z v0 40 = some uB) (p0 : MVB (3 * ((I v0 0).toInt + 1)) (I v0 0).toInt (I uC) (I uE)) (p1 : 0 ≤ v1.toInt ∧ v1.toInt ≤ 999) {Q : jI → jL → Prop} (hQ : ∀  (I' : jI) (L' : jL), WD Z I' → FR Ws_X12_findByCost Z I Z I' → Q I' L') : f_X12_findByCost v0 v1 Z I L Q := by
  unfold f_X12_findByCost
  have q_I : FR Ws_X12_findByCost Z I Z I := FR.rf
  have rv1 := i_rng v1
  have t60 : 0 ≤ (I v0 0).toInt ∧ (I v0 0).toInt ≤ 24 := w_I.fld 12 0 kv0 (by decide)
  have luC : jlen Z uC = 75 := by obtain ⟨b9, e9, -, l9⟩ := sh_f w_I.1 kv0 (j := 37) (k := 14) (m := 75) rfl; cases huC.symm.trans e9; exact l9
  have kuC : jk Z uC 14 := by obtain ⟨b9, e9, k9, -⟩ := sh_f w_I.1 kv0 (j := 37) (k := 14) (m := 75) rfl; cases huC.symm.trans e9; exact k9
  have luE : jlen Z uE = 75 := by obtain ⟨b9, e9, -, l9⟩ := sh_f w_I.1 kv0 (j := 38) (k := 14) (m := 75) rfl; cases huE.symm.trans e9; exact l9
  have kuE : jk Z uE 14 := by obtain ⟨b9, e9, k9, -⟩ := sh_f w_I.1 kv0 (j := 38) (k := 14) (m := 75) rfl; cases huE.symm.trans e9; exact k9
  have luB : jlen Z uB = 25000 := by obtain ⟨b9, e9, -, l9⟩ := sh_f w_I.1 kv0 (j := 40) (k := 14) (m := 25000) rfl; cases huB.symm.trans e9; exact l9
  have kuB : jk Z uB 14 := by obtain ⟨b9, e9, k9, -⟩ := sh_f w_I.1 kv0 (j := 40) (k := 14) (m := 25000) rfl; cases huB.symm.trans e9; exact k9
  have t62 : 0 ≤ (I v0 0).toInt ∧ (I v0 0).toInt ≤ 24 := w_I.fld 12 0 kv0 (by decide)
  intro x63 ex63
  have rx63 := i_rng x63
  first | (have tx63 : x63.toInt = ((I v0 0).toInt - (1)) := by (rw [ex63]; exact (i_sub rfl (show (1 : Int32).toInt = 1 from rfl) (by omega) (by omega)))) | (have tx63 : x63.toInt = ((I v0 0) - (1 : Int32)).toInt := by rw [ex63])
  exact ⟨(x63.toInt + 2).toNat + 1, l_X12_findByCost_L7 w_I v0 v1 kv0 uC huC uE huE uB huB p0 p1   hQ   _ x63 I L w_I q_I   (by omega)  (by omega)⟩
def Ws_X12_next : List (Nat × Nat) := [(12, 21), (12, 22), (12, 24), (12, 25), (12, 26), (12, 27), (12, 31), (12, 32), (12, 33), (12, 34), (12, 37), (12, 38), (12, 40)]
set_option maxHeartbeats 4000000 in
set_option maxRecDepth 100000 in
theorem l_X12_next_L52 {B : Nat × Nat} {T : Nat} {Z0 : jZ} {I0 : jI} {Q : Int32 → jZ → jI → jL → Prop} (w0 : WD Z0 I0) (v0 : Nat) (v1 : Int32) (v2 : Int32) (kv0 : jk Z0 v0 12) (uC : Nat) (huC : jr Z0 v0 37 = some uC) (uE : Nat) (huE : jr Z0 v0 38 = some uE) (uB : Nat) (huB : jr Z0 v0 40 = some uB) (hQ : ∀ (r : Int32) (Z' : jZ) (I' : jI) (L' : jL), WD Z' I' → BUD B Z' T → FR Ws_X12_next Z0 I0 Z' I' → CP Z0 Z' → Q r Z' I' L') : ∀ (n : Nat) (v3 : Int32) (Z : jZ) (I : jI) (L : jL), WD Z I → BUD B Z T → FR Ws_X12_next Z0 I0 Z I → CP Z0 Z →   (0 ≤ v3.toInt ∧ v3.toInt ≤ 1000 ∧ 0 ≤ v1.toInt ∧ v1.toInt ≤ 5) → 1000 - v3.toInt < (n : Int) → f_X12_next_L52 B  Q n v0 v1 v3 Z I L := by
  intro n
  induction n with
  | zero =>
    intro v3 Z I L w_I bd_Z q_I cp_Z   li  me
    exfalso
    omega
  | succ n ih =>
    intro v3 Z I L w_I bd_Z q_I cp_Z   li  me
    unfold f_X12_next_L52
    have rv3 := i_rng v3
    have rv1 := i_rng v1
    have rv2 := i_rng v2
    have kv0_0 := kv0
    have kv0 := (q_I.1 _ _ kv0).1
    have huC_1 : jr Z v0 37 = some uC := (q_I.2.1 v0 12 37 kv0_0 (by decide) (by decide)).trans huC
    have luC : jlen Z uC = 75 := by obtain ⟨b9, e9, -, l9⟩ := sh_f w_I.1 kv0 (j := 37) (k := 14) (m := 75) rfl; cases huC_1.symm.trans e9; exact l9
    have kuC : jk Z uC 14 := by obtain ⟨b9, e9, k9, -⟩ := sh_f w_I.1 kv0 (j := 37) (k := 14) (m := 75) rfl; cases huC_1.symm.trans e9; exact k9
    have huE_1 : jr Z v0 38 = some uE := (q_I.2.1 v0 12 38 kv0_0 (by decide) (by decide)).trans huE
    have luE : jlen Z uE = 75 := by obtain ⟨b9, e9, -, l9⟩ := sh_f w_I.1 kv0 (j := 38) (k := 14) (m := 75) rfl; cases huE_1.symm.trans e9; exact l9
    have kuE : jk Z uE 14 := by obtain ⟨b9, e9, k9, -⟩ := sh_f w_I.1 kv0 (j := 38) (k := 14) (m := 75) rfl; cases huE_1.symm.trans e9; exact k9
    have huB_1 : jr Z v0 40 = some uB := (q_I.2.1 v0 12 40 kv0_0 (by decide) (by decide)).trans huB
    have luB : jlen Z uB = 25000 := by obtain ⟨b9, e9, -, l9⟩ := sh_f w_I.1 kv0 (j := 40) (k := 14) (m := 25000) rfl; cases huB_1.symm.trans e9; exact l9
    have kuB : jk Z uB 14 := by obtain ⟨b9, e9, k9, -⟩ := sh_f w_I.1 kv0 (j := 40) (k := 14) (m := 25000) rfl; cases huB_1.symm.trans e9; exact k9
    have xq_I := q_I.1
    intro b1 eb1
    obtain ⟨x2, ex2, kb1, lb1⟩ := sh_f w_I.1 kv0 (j := 10) (k := 14) (m := 6) rfl
    cases eb1.symm.trans ex2
    have o3 : vp_in v1 6 := vi_of rfl (by omega) (by omega)
    refine ⟨o3, ?_⟩
    have t4 : 0 ≤ (I b1 v1.toNatClampNeg).toInt ∧ (I b1 v1.toNatClampNeg).toInt ≤ 999 := w_I.arr 12 10 kv0 eb1 kb1 rfl rfl _
    refine ⟨fun c5 => ?_, fun c5 => ?_⟩
    · skip
      first | (have t6 : (I b1 v1.toNatClampNeg).toInt < v3.toInt := (i_lt rfl rfl).mp c5) | (have t6 : (I b1 v1.toNatClampNeg).toInt < v3.toInt := (i_lt rfl rfl).mp c5) | skip
      have t7 : (-2 : Int32).toInt = -2 := rfl
      exact hQ (-2 : Int32) Z I L w_I bd_Z q_I cp_Z 
    · skip
      first | (have t8 : ¬ ((I b1 v1.toNatClampNeg).toInt < v3.toInt) := (not_congr (i_lt rfl rfl)).mp c5) | (have t8 : ¬ ((I b1 v1.toNatClampNeg).toInt < v3.toInt) := (not_congr (i_lt rfl rfl)).mp c5) | skip
      intro b9 eb9
      obtain rfl : uB = b9 := Option.some.inj (huB_1.symm.trans eb9)
      have o10 : vp_in v3 25000 := vi_of rfl (by omega) (by omega)
      refine ⟨o10, ?_⟩
      intro b11 eb11
      obtain ⟨x12, ex12, kb11, lb11⟩ := sh_f w_I.1 kv0 (j := 9) (k := 14) (m := 6) rfl
      cases eb11.symm.trans ex12
      have o13 : vp_in v1 6 := vi_of rfl (by omega) (by omega)
      refine ⟨o13, ?_⟩
      have t14 : 0 ≤ (I b11 v1.toNatClampNeg).toInt ∧ (I b11 v1.toNatClampNeg).toInt ≤ 120 := w_I.arr 12 9 kv0 eb11 kb11 rfl rfl _
      refine ⟨fun c15 => ?_, fun c15 => ?_⟩
      · skip
        first | (have t16 : (I uB v3.toNatClampNeg).toInt ≤ (I b11 v1.toNatClampNeg).toInt := (i_le rfl rfl).mp c15) | (have t16 : (I uB v3.toNatClampNeg).toInt ≤ (I b11 v1.toNatClampNeg).toInt := (i_le rfl rfl).mp c15) | skip
        intro I17 eI17
        have t18 : (0 : Int32).toInt = 0 := rfl
        have w_I17 : WD Z I17 := by rw [eI17]; exact WD_putF w_I 12 21 kv0 (by decide) (by decide) (by constructor <;> omega)
        have f_I17 : FR [(12, 21)] Z I Z I17 := by rw [eI17]; exact FR_putF kv0 (by decide) List.mem_cons_self
        have q_I17 : FR Ws_X12_next Z0 I0 Z I17 := q_I.trans w0.1 w0.2.1 (f_I17.mono (by decide))
        first | (have u19 : (I17 v0 21).toInt = (0) := by (rw [eI17, show jpI I v0 21 (0 : Int32) v0 21 = (0 : Int32) from jpI_at] <;> exact (show (0 : Int32).toInt = 0 from rfl))) | skip
        intro b20 eb20
        obtain rfl : uB = b20 := Option.some.inj (huB_1.symm.trans eb20)
        have o21 : vp_in v3 25000 := vi_of rfl (by omega) (by omega)
        refine ⟨o21, ?_⟩
        refine s_X12_tell w_I17 v0 ((I17 uB v3.toNatClampNeg).toInt64) kv0  (by omega) (fun  I23 L24 w_I23 f_I23 p22 => ?_)
        have q_I23 : FR Ws_X12_next Z0 I0 Z I23 := q_I17.trans w0.1 w0.2.1 (f_I23.mono (by decide))
        exact hQ v3 Z I23 L24 w_I23 bd_Z q_I23 cp_Z 
      · skip
        first | (have t25 : ¬ ((I uB v3.toNatClampNeg).toInt ≤ (I b11 v1.toNatClampNeg).toInt) := (not_congr (i_le rfl rfl)).mp c15) | (have t25 : ¬ ((I uB v3.toNatClampNeg).toInt ≤ (I b11 v1.toNatClampNeg).toInt) := (not_congr (i_le rfl rfl)).mp c15) | skip
        intro x26 ex26
        have rx26 := i_rng x26
        first | (have tx26 : x26.toInt = v3.toInt + (1) := by (rw [ex26]; exact (i_add rfl (show (1 : Int32).toInt = 1 from rfl) (by omega) (by omega)))) | skip
        exact ih x26 Z I L w_I bd_Z q_I cp_Z   (by omega)  (by omega)
set_option maxHeartbeats 4000000 in
set_option maxRecDepth 100000 in
theorem s_X12_next {B : Nat × Nat} {T : Nat} {Z : jZ} {I : jI} {L : jL} (w_I : WD Z I) (bd_Z : BUD B Z T) (v0 : Nat) (v1 : Int32) (v2 : Int32) (kv0 : jk Z v0 12) (uC : Nat) (huC : jr Z v0 37 = some uC) (uE : Nat) (huE : jr Z v0 38 = some uE) (uB : Nat) (huB : jr Z v0 40 = some uB) {Q : Int32 → jZ → jI → jL → Prop} (hQ : ∀ (r : Int32) (Z' : jZ) (I' : jI) (L' : jL), WD Z' I' → BUD B Z' T → FR Ws_X12_next Z I Z' I' → CP Z Z' → Q r Z' I' L') : f_X12_next B v0 v1 v2 Z I L Q := by
  unfold f_X12_next
  have q_I : FR Ws_X12_next Z I Z I := FR.rf
  have cp_Z : CP Z Z := CP.rf
  have rv1 := i_rng v1
  have rv2 := i_rng v2
  have luC : jlen Z uC = 75 := by obtain ⟨b9, e9, -, l9⟩ := sh_f w_I.1 kv0 (j := 37) (k := 14) (m := 75) rfl; cases huC.symm.trans e9; exact l9
  have kuC : jk Z uC 14 := by obtain ⟨b9, e9, k9, -⟩ := sh_f w_I.1 kv0 (j := 37) (k := 14) (m := 75) rfl; cases huC.symm.trans e9; exact k9
  have luE : jlen Z uE = 75 := by obtain ⟨b9, e9, -, l9⟩ := sh_f w_I.1 kv0 (j := 38) (k := 14) (m := 75) rfl; cases huE.symm.trans e9; exact l9
  have kuE : jk Z uE 14 := by obtain ⟨b9, e9, k9, -⟩ := sh_f w_I.1 kv0 (j := 38) (k := 14) (m := 75) rfl; cases huE.symm.trans e9; exact k9
  have luB : jlen Z uB = 25000 := by obtain ⟨b9, e9, -, l9⟩ := sh_f w_I.1 kv0 (j := 40) (k := 14) (m := 25000) rfl; cases huB.symm.trans e9; exact l9
  have kuB : jk Z uB 14 := by obtain ⟨b9, e9, k9, -⟩ := sh_f w_I.1 kv0 (j := 40) (k := 14) (m := 25000) rfl; cases huB.symm.trans e9; exact k9
  intro I27 eI27
  have t28 : (0 : Int32).toInt = 0 := rfl
  have w_I27 : WD Z I27 := by rw [eI27]; exact WD_putF w_I 12 22 kv0 (by decide) (by decide) trivial
  have f_I27 : FR [(12, 22)] Z I Z I27 := by rw [eI27]; exact FR_putF kv0 (by decide) List.mem_cons_self
  have q_I27 : FR Ws_X12_next Z I Z I27 := q_I.trans w_I.1 w_I.2.1 (f_I27.mono (by decide))
  first | (have u29 : (I27 v0 22).toInt = (0) := by (rw [eI27, show jpI I v0 22 (0 : Int32) v0 22 = (0 : Int32) from jpI_at] <;> exact (show (0 : Int32).toInt = 0 from rfl))) | skip
  refine s_X12_isOne w_I27 v0 v1 kv0   (fun r30 p31 => ?_)
  have rr30 := i_rng r30
  refine ⟨fun c32 => ?_, fun c32 => ?_⟩
  · skip
    first | (have t33 : r30.toInt = (0) := (i_eq rfl (show (0 : Int32).toInt = 0 from rfl)).mp c32) | (have t33 : r30.toInt = (0 : Int32).toInt := (i_eq rfl rfl).mp c32) | skip
    have t34 : (-1 : Int32).toInt = -1 := rfl
    exact hQ (-1 : Int32) Z I27 L w_I27 bd_Z q_I27 cp_Z 
  · skip
    first | (have t35 : ¬ (r30.toInt = (0)) := (not_congr (i_eq rfl (show (0 : Int32).toInt = 0 from rfl))).mp c32) | (have t35 : ¬ (r30.toInt = (0 : Int32).toInt) := (not_congr (i_eq rfl rfl)).mp c32) | skip
    have t37 : 0 ≤ (I27 v0 0).toInt ∧ (I27 v0 0).toInt ≤ 24 := w_I27.fld 12 0 kv0 (by decide)
    refine ⟨fun c38 => ?_, fun c38 => ?_⟩
    · skip
      first | (have t39 : (I27 v0 0).toInt = (0) := (i_eq rfl (show (0 : Int32).toInt = 0 from rfl)).mp c38) | (have t39 : (I27 v0 0).toInt = (0 : Int32).toInt := (i_eq rfl rfl).mp c38) | skip
      have t40 : (-1 : Int32).toInt = -1 := rfl
      exact hQ (-1 : Int32) Z I27 L w_I27 bd_Z q_I27 cp_Z 
    · skip
      first | (have t41 : ¬ ((I27 v0 0).toInt = (0)) := (not_congr (i_eq rfl (show (0 : Int32).toInt = 0 from rfl))).mp c38) | (have t41 : ¬ ((I27 v0 0).toInt = (0 : Int32).toInt) := (not_congr (i_eq rfl rfl)).mp c38) | skip
      have t42 : (-1 : Int32).toInt = -1 := rfl
      have t43 : (998 : Int32).toInt = 998 := rfl
      refine s_X12_in w_I27 v2 (-1 : Int32) (998 : Int32)    (fun r44 p45 => ?_)
      have rr44 := i_rng r44
      refine ⟨fun c46 => ?_, fun c46 => ?_⟩
      · skip
        first | (have t47 : ¬ (r44.toInt = (0)) := (not_congr (i_eq rfl (show (0 : Int32).toInt = 0 from rfl))).mp c46) | (have t47 : ¬ (r44.toInt = (0 : Int32).toInt) := (not_congr (i_eq rfl rfl)).mp c46) | skip
        refine s_X12_layMoves w_I27 bd_Z v0 v1 kv0 uC huC uE huE (by omega) (fun  Z51 I49 L50 w_I49 bd_Z51 f_I49 c_Z51 p48 => ?_)
        have q_I49 : FR Ws_X12_next Z I Z51 I49 := q_I27.trans w_I.1 w_I.2.1 (f_I49.mono (by decide))
        have cp_Z51 : CP Z Z51 := cp_Z.trans q_I27.1 c_Z51
        have x_Z51 := f_I49.1
        have k52 := (f_I49.1 _ _ kv0).1
        have k53 := (f_I49.1 _ _ kuC).1
        have l54 := (f_I49.1 _ _ kuC).2.trans luC
        have k55 := (f_I49.1 _ _ kv0).1
        have e56 := (f_I49.2.1 v0 12 37 kv0 (by decide) (by decide)).trans huC
        have k57 := (f_I49.1 _ _ kuE).1
        have l58 := (f_I49.1 _ _ kuE).2.trans luE
        have k59 := (f_I49.1 _ _ kv0).1
        have e60 := (f_I49.2.1 v0 12 38 kv0 (by decide) (by decide)).trans huE
        have k61 := (f_I49.1 _ _ kuB).1
        have l62 := (f_I49.1 _ _ kuB).2.trans luB
        have k63 := (f_I49.1 _ _ kv0).1
        have e64 := (f_I49.2.1 v0 12 40 kv0 (by decide) (by decide)).trans huB
        have u65 : (I49 v0 22).toInt = (I27 v0 22).toInt := by rw [f_I49.2.2.1 v0 12 22 kv0 (by decide) (by decide)]
        have u66 : (I49 v0 0).toInt = (I27 v0 0).toInt := by rw [f_I49.2.2.1 v0 12 0 kv0 (by decide) (by decide)]
        intro b67 eb67
        obtain ⟨x68, ex68, kb67, lb67⟩ := sh_f w_I49.1 k52 (j := 10) (k := 14) (m := 6) rfl
        cases eb67.symm.trans ex68
        have o69 : vp_in v1 6 := vi_of rfl (by omega) (by omega)
        refine ⟨o69, ?_⟩
        have t70 : 0 ≤ (I49 b67 v1.toNatClampNeg).toInt ∧ (I49 b67 v1.toNatClampNeg).toInt ≤ 999 := w_I49.arr 12 10 k52 eb67 kb67 rfl rfl _
        refine s_X12_findByCost w_I49 v0 (I49 b67 v1.toNatClampNeg) k52 uC e56 uE e60 uB e64 (by assumption) (by omega) (fun  I71 L72 w_I71 f_I71  => ?_)
        have q_I71 : FR Ws_X12_next Z I Z51 I71 := q_I49.trans w_I.1 w_I.2.1 (f_I71.mono (by decide))
        have u73 : (I71 v0 22).toInt = (I49 v0 22).toInt := by rw [f_I71.2.2.1 v0 12 22 k52 (by decide) (by decide)]
        have u74 : (I71 v0 0).toInt = (I49 v0 0).toInt := by rw [f_I71.2.2.1 v0 12 0 k52 (by decide) (by decide)]
        intro x75 ex75
        have rx75 := i_rng x75
        first | (have tx75 : x75.toInt = (v2.toInt + (1)) := by (rw [ex75]; exact (i_add rfl (show (1 : Int32).toInt = 1 from rfl) (by omega) (by omega)))) | (have tx75 : x75.toInt = (v2 + (1 : Int32)).toInt := by rw [ex75])
        exact ⟨(1000 - x75.toInt).toNat + 1, l_X12_next_L52 w_I v0 v1 v2 kv0 uC huC uE huE uB huB   hQ   _ x75 Z51 I71 L72 w_I71 bd_Z51 q_I71 cp_Z51   (by omega)  (by omega)⟩
      · skip
        first | (have t76 : r44.toInt = (0) := (i_eq rfl (show (0 : Int32).toInt = 0 from rfl)).mp c46) | (have t76 : r44.toInt = (0 : Int32).toInt := (i_eq rfl rfl).mp c46) | skip
        have t77 : (-1 : Int32).toInt = -1 := rfl
        exact hQ (-1 : Int32) Z I27 L w_I27 bd_Z q_I27 cp_Z 
end
section
/-! ===== the text's signs, and what a line of THE STAIRS says ===== -/
theorem i_and255 {x : Int32} : (x &&& (255 : Int32)).toInt = x.toInt % 256 := by
  have e : (x &&& (255 : Int32)).toBitVec = x.toBitVec &&& (255 : Int32).toBitVec := rfl
  have hn : (x &&& (255 : Int32)).toBitVec.toNat = x.toBitVec.toNat % 256 := by
    rw [e, BitVec.toNat_and]
    exact Nat.and_two_pow_sub_one_eq_mod _ 8
  have h1 : (x &&& (255 : Int32)).toInt = (x &&& (255 : Int32)).toBitVec.toInt := rfl
  have h2 : x.toInt = x.toBitVec.toInt := rfl
  have hl := x.toBitVec.isLt
  rw [h1, h2, BitVec.toInt_eq_toNat_cond, BitVec.toInt_eq_toNat_cond, hn]
  split <;> split <;> omega
/-- bytes -/
def BY (f : Nat → Int32) : Prop := ∀ i, -128 ≤ (f i).toInt ∧ (f i).toInt ≤ 127
theorem nar_byte (x : Int32) : -128 ≤ (vp_nar .byte x).toInt ∧ (vp_nar .byte x).toInt ≤ 127 := by
  have e : vp_nar .byte x = x.toInt8.toInt32 := rfl
  have h1 := Int8.le_toInt x.toInt8
  have h2 := Int8.toInt_lt x.toInt8
  rw [e, Int8.toInt_toInt32]
  omega
/-- the sign of v that is appended with shift m -/
def byt (v : Int32) (m : Nat) : Int32 := vp_nar .byte ((v >>> (nI m &&& 31)).toInt8.toInt32)
/-- k signs of v appended at s -/
def apk (f : Nat → Int32) (s : Nat) (v : Int32) (k : Nat) : Nat → Int32 := fun j => if s ≤ j ∧ j < s + k then byt v (24 - 8 * (j - s)) else f j
theorem apk_0 {f : Nat → Int32} {s : Nat} {v : Int32} : apk f s v 0 = f := funext fun j => if_neg (by omega)
theorem apk_step {I : jI} {b s k : Nat} {f : Nat → Int32} {v x : Int32} (h : I b = apk f s v k) (hk : k < 4) (hx : x.toInt = 24 - 8 * (k : Int)) : jpI I b (s + k) (vp_nar .byte ((v >>> (x &&& 31)).toInt8.toInt32)) b = apk f s v (k + 1) := by
  have e : x = nI (24 - 8 * k) := (i_eq hx (i_nI (by omega))).mpr (by omega)
  subst e
  funext j
  show va_up I b (upd (I b) (s + k) (byt v (24 - 8 * k))) b j = _
  rw [va_up_self, h]
  by_cases c : j = s + k
  · subst c
    rw [show upd (apk f s v k) (s + k) (byt v (24 - 8 * k)) (s + k) = byt v (24 - 8 * k) from if_pos rfl]
    unfold apk
    rw [if_pos (by omega), show s + k - s = k by omega]
  · rw [show upd (apk f s v k) (s + k) (byt v (24 - 8 * k)) j = apk f s v k j from if_neg c]
    unfold apk
    by_cases d : s ≤ j ∧ j < s + k
    · rw [if_pos d, if_pos (by omega)]
    · rw [if_neg d, if_neg (by omega)]
theorem apk_BY {f : Nat → Int32} {s k : Nat} {v : Int32} (h : BY f) : BY (apk f s v k) := fun i => by
  unfold apk
  split
  · exact nar_byte _
  · exact h i
/-- the sign at a place; -1 behind the end -/
def GS (f : Nat → Int32) (lim a : Int) : Int := if 0 ≤ a ∧ a < lim then (f a.toNat).toInt else -1
/-- what the class sees of it -/
def CLk (x r : Int) : Prop := (0 ≤ x → r = x) ∧ (x < 0 → r = -1 ∨ 128 ≤ r)
theorem CLk_in {f : Nat → Int32} {lim : Int} {x : Int32} (hb : BY f) (h0 : 0 ≤ x.toInt) (h1 : x.toInt < lim) : CLk (GS f lim x.toInt) ((f x.toNatClampNeg) &&& (255 : Int32)).toInt := by
  unfold GS
  rw [if_pos ⟨h0, h1⟩, i_and255, show x.toInt.toNat = x.toNatClampNeg from rfl]
  have := hb x.toNatClampNeg
  unfold CLk
  omega
theorem CLk_out {f : Nat → Int32} {lim a : Int} (h1 : lim ≤ a) : CLk (GS f lim a) (-1) := by
  unfold GS
  rw [if_neg (by omega)]
  unfold CLk
  omega
theorem GS_in {f : Nat → Int32} {lim : Int} {x : Int32} (h0 : 0 ≤ x.toInt) (h1 : x.toInt < lim) : (f x.toNatClampNeg).toInt = GS f lim x.toInt := by
  unfold GS
  rw [if_pos ⟨h0, h1⟩]
  rfl
theorem GS_out {f : Nat → Int32} {lim a : Int} (h1 : lim ≤ a) : GS f lim a = -1 := by
  unfold GS
  rw [if_neg (by omega)]
theorem GS_rng {f : Nat → Int32} {lim a : Int} (hb : BY f) : -128 ≤ GS f lim a ∧ GS f lim a ≤ 127 := by
  unfold GS
  have := hb a.toNat
  split <;> omega
theorem GS_cong {f g : Nat → Int32} {s lim : Int} (hs : lim ≤ s) (h : ∀ i : Nat, (i : Int) < s → f i = g i) : GS f lim = GS g lim := by
  funext a
  unfold GS
  by_cases c : 0 ≤ a ∧ a < lim
  · rw [if_pos c, if_pos c, h a.toNat (by omega)]
  · rw [if_neg c, if_neg c]
/-- how many digits a number of one or two has; what it is -/
def nd (g : Int → Int) (a : Int) : Int := if 48 ≤ g a ∧ g a ≤ 57 then (if 48 ≤ g (a + 1) ∧ g (a + 1) ≤ 57 then 2 else 1) else 0
def nv (g : Int → Int) (a : Int) : Int := if 48 ≤ g a ∧ g a ≤ 57 then (if 48 ≤ g (a + 1) ∧ g (a + 1) ≤ 57 then 10 * (g a - 48) + (g (a + 1) - 48) else g a - 48) else 0
theorem nd_cases (g : Int → Int) (a : Int) : (nd g a = 0 ∧ nv g a = 0 ∧ ¬ (48 ≤ g a ∧ g a ≤ 57)) ∨ (nd g a = 1 ∧ nv g a = g a - 48 ∧ (48 ≤ g a ∧ g a ≤ 57) ∧ ¬ (48 ≤ g (a + 1) ∧ g (a + 1) ≤ 57)) ∨ (nd g a = 2 ∧ nv g a = 10 * (g a - 48) + (g (a + 1) - 48) ∧ (48 ≤ g a ∧ g a ≤ 57) ∧ (48 ≤ g (a + 1) ∧ g (a + 1) ≤ 57)) := by
  unfold nd nv
  by_cases c : 48 ≤ g a ∧ g a ≤ 57
  · by_cases d : 48 ≤ g (a + 1) ∧ g (a + 1) ≤ 57
    · rw [if_pos c, if_pos c, if_pos d, if_pos d]; exact Or.inr (Or.inr ⟨rfl, rfl, c, d⟩)
    · rw [if_pos c, if_pos c, if_neg d, if_neg d]; exact Or.inr (Or.inl ⟨rfl, rfl, c, d⟩)
  · rw [if_neg c, if_neg c]; exact Or.inl ⟨rfl, rfl, c⟩
/-- while a number is read: d digits from a on, worth v, the place at hand p -/
def NI (g : Int → Int) (a d v p : Int) : Prop := p = a + d ∧ ((d = 0 ∧ v = 0) ∨ (d = 1 ∧ v = g a - 48 ∧ 48 ≤ g a ∧ g a ≤ 57) ∨ (d = 2 ∧ v = 10 * (g a - 48) + (g (a + 1) - 48) ∧ 48 ≤ g a ∧ g a ≤ 57 ∧ 48 ≤ g (a + 1) ∧ g (a + 1) ≤ 57))
theorem NI_0 {g : Int → Int} {a : Int} : NI g a 0 0 a := ⟨by omega, Or.inl ⟨rfl, rfl⟩⟩
theorem NI_step {g : Int → Int} {a d v p d' v' p' : Int} (h : NI g a d v p) (hd : d < 2) (hp : 48 ≤ g p ∧ g p ≤ 57) (e1 : d' = d + 1) (e2 : v' = v * 10 + g p - 48) (e3 : p' = p + 1) : NI g a d' v' p' := by
  obtain ⟨rfl, h | h | h⟩ := h
  · obtain ⟨rfl, rfl⟩ := h
    rw [show a + 0 = a by omega] at hp e2 e3
    exact ⟨by omega, Or.inr (Or.inl ⟨by omega, by omega, hp.1, hp.2⟩)⟩
  · obtain ⟨rfl, rfl, h1, h2⟩ := h
    exact ⟨by omega, Or.inr (Or.inr ⟨by omega, by omega, h1, h2, hp.1, hp.2⟩)⟩
  · omega
theorem NI_end {g : Int → Int} {a d v p : Int} (h : NI g a d v p) (he : 2 ≤ d ∨ ¬ (48 ≤ g p ∧ g p ≤ 57)) : nd g a = d ∧ nv g a = v ∧ p = a + d := by
  obtain ⟨rfl, h | h | h⟩ := h
  · obtain ⟨rfl, rfl⟩ := h
    have he := he.resolve_left (by omega)
    rw [show a + 0 = a by omega] at he
    rcases nd_cases g a with c | c | c
    · exact ⟨c.1, c.2.1, rfl⟩
    · exact absurd c.2.2.1 he
    · exact absurd c.2.2.1 he
  · obtain ⟨rfl, rfl, h1, h2⟩ := h
    have he := he.resolve_left (by omega)
    rcases nd_cases g a with c | c | c
    · exact absurd ⟨h1, h2⟩ c.2.2
    · exact ⟨c.1, c.2.1, rfl⟩
    · exact absurd c.2.2.2 he
  · obtain ⟨rfl, rfl, h1, h2, h3, h4⟩ := h
    rcases nd_cases g a with c | c | c
    · exact absurd ⟨h1, h2⟩ c.2.2
    · exact absurd ⟨h3, h4⟩ c.2.2.2
    · exact ⟨c.1, c.2.1, rfl⟩
/-- a number that fits; where a wrong one is at fault; the place behind it -/
def nok (g : Int → Int) (a lo hi : Int) : Prop := 1 ≤ nd g a ∧ lo ≤ nv g a ∧ nv g a ≤ hi
def nbad (g : Int → Int) (a : Int) : Int := if nd g a = 0 then a else a + nd g a - 1
theorem nbad_eq (g : Int → Int) (a : Int) : (nd g a = 0 → nbad g a = a) ∧ (1 ≤ nd g a → nbad g a = a + nd g a - 1) := by
  unfold nbad
  constructor
  · intro h; rw [if_pos h]
  · intro h; rw [if_neg (by omega)]
theorem nd_rng (g : Int → Int) (a : Int) : 0 ≤ nd g a ∧ nd g a ≤ 2 := by
  rcases nd_cases g a with c | c | c <;> omega
/-- a line of THE STAIRS from a on, n steps told before: (where it is at fault, or -1; the place behind it; how many steps) -/
def lnE (g : Int → Int) (a n : Int) : Int × Int × Int := if g a = 42 then (if 1 ≤ nd g (a + 1) ∧ 1 ≤ nv g (a + 1) ∧ nv g (a + 1) ≤ 24 - n then (-1, a + 1 + nd g (a + 1), nv g (a + 1)) else (nbad g (a + 1), 0, 0)) else (-1, a, 1)
def lnD (g : Int → Int) (a n : Int) : Int × Int × Int := if 48 ≤ g a ∧ g a ≤ 55 then lnE g (a + 1 + (if g (a + 1) = 119 then 1 else 0)) n else (a, 0, 0)
def lnC (g : Int → Int) (a n : Int) : Int × Int × Int := if 1 ≤ nd g a ∧ 0 ≤ nv g a ∧ nv g a ≤ 20 then (if g (a + nd g a) = 64 then lnD g (a + nd g a + 1) n else (a + nd g a, 0, 0)) else (nbad g a, 0, 0)
def lnB (g : Int → Int) (a n : Int) : Int × Int × Int := if 1 ≤ nd g a ∧ 0 ≤ nv g a ∧ nv g a ≤ 9 then (if g (a + nd g a) = 44 then lnC g (a + nd g a + 1) n else (a + nd g a, 0, 0)) else (nbad g a, 0, 0)
def lnA (g : Int → Int) (a n : Int) : Int × Int × Int := if 1 ≤ nd g a ∧ 1 ≤ nv g a ∧ nv g a ≤ 30 then (if g (a + nd g a) = 44 then lnB g (a + nd g a + 1) n else (a + nd g a, 0, 0)) else (nbad g a, 0, 0)
/-- all lines: (where at fault, or -1; steps told) -/
def rdS (g : Int → Int) (lim : Int) : Nat → Int → Int → Int × Int
  | 0, a, n => (a, n)
  | k + 1, a, n => if n < 24 then (if (lnA g a n).1 = -1 then (if (lnA g a n).2.1 < lim then (if g (lnA g a n).2.1 = 59 then rdS g lim k ((lnA g a n).2.1 + 1) (n + (lnA g a n).2.2) else ((lnA g a n).2.1, n + (lnA g a n).2.2)) else (-1, n + (lnA g a n).2.2)) else ((lnA g a n).1, n)) else (a, n)
/-- what stairs() answers to a text of s signs -/
def stA (f : Nat → Int32) (s : Int) : Int :=
  if s ≤ 0 then -100 else
  if (rdS (GS f (min s 76)) (min s 76) 77 0 0).1 = -1 then (if s ≤ 76 then (if 2 ≤ (rdS (GS f (min s 76)) (min s 76) 77 0 0).2 then (rdS (GS f (min s 76)) (min s 76) 77 0 0).2 else -100) else -77) else -1 - (rdS (GS f (min s 76)) (min s 76) 77 0 0).1
theorem lnE_ok {g : Int → Int} {a n : Int} (hn : n < 24) (h : (lnE g a n).1 = -1) (h0 : 0 ≤ a) : a ≤ (lnE g a n).2.1 ∧ (lnE g a n).2.1 ≤ a + 3 ∧ 1 ≤ (lnE g a n).2.2 ∧ n + (lnE g a n).2.2 ≤ 24 := by
  have nb := nbad_eq g (a + 1)
  have nr := nd_rng g (a + 1)
  unfold lnE at h ⊢
  by_cases c : g a = 42
  · rw [if_pos c] at h ⊢
    by_cases d : 1 ≤ nd g (a + 1) ∧ 1 ≤ nv g (a + 1) ∧ nv g (a + 1) ≤ 24 - n
    · rw [if_pos d]
      show a ≤ a + 1 + nd g (a + 1) ∧ a + 1 + nd g (a + 1) ≤ a + 3 ∧ 1 ≤ nv g (a + 1) ∧ n + nv g (a + 1) ≤ 24
      omega
    · rw [if_neg d] at h
      have h : nbad g (a + 1) = -1 := h
      omega
  · rw [if_neg c]
    show a ≤ a ∧ a ≤ a + 3 ∧ 1 ≤ (1 : Int) ∧ n + 1 ≤ 24
    omega
theorem lnD_ok {g : Int → Int} {a n : Int} (hn : n < 24) (h : (lnD g a n).1 = -1) (h0 : 0 ≤ a) : a + 1 ≤ (lnD g a n).2.1 ∧ (lnD g a n).2.1 ≤ a + 5 ∧ 1 ≤ (lnD g a n).2.2 ∧ n + (lnD g a n).2.2 ≤ 24 := by
  unfold lnD at h ⊢
  by_cases c : 48 ≤ g a ∧ g a ≤ 55
  · rw [if_pos c] at h ⊢
    by_cases d : g (a + 1) = 119
    · rw [if_pos d] at h ⊢
      have := lnE_ok hn h (by omega)
      omega
    · rw [if_neg d] at h ⊢
      have := lnE_ok hn h (by omega)
      omega
  · rw [if_neg c] at h
    have h : a = -1 := h
    omega
theorem lnC_ok {g : Int → Int} {a n : Int} (hn : n < 24) (h : (lnC g a n).1 = -1) (h0 : 0 ≤ a) : a + 3 ≤ (lnC g a n).2.1 ∧ (lnC g a n).2.1 ≤ a + 8 ∧ 1 ≤ (lnC g a n).2.2 ∧ n + (lnC g a n).2.2 ≤ 24 := by
  have nb := nbad_eq g a
  have nr := nd_rng g a
  unfold lnC at h ⊢
  by_cases c : 1 ≤ nd g a ∧ 0 ≤ nv g a ∧ nv g a ≤ 20
  · rw [if_pos c] at h ⊢
    by_cases d : g (a + nd g a) = 64
    · rw [if_pos d] at h ⊢
      have := lnD_ok hn h (by omega)
      omega
    · rw [if_neg d] at h
      have h : a + nd g a = -1 := h
      omega
  · rw [if_neg c] at h
    have h : nbad g a = -1 := h
    omega
theorem lnB_ok {g : Int → Int} {a n : Int} (hn : n < 24) (h : (lnB g a n).1 = -1) (h0 : 0 ≤ a) : a + 5 ≤ (lnB g a n).2.1 ∧ (lnB g a n).2.1 ≤ a + 11 ∧ 1 ≤ (lnB g a n).2.2 ∧ n + (lnB g a n).2.2 ≤ 24 := by
  have nb := nbad_eq g a
  have nr := nd_rng g a
  unfold lnB at h ⊢
  by_cases c : 1 ≤ nd g a ∧ 0 ≤ nv g a ∧ nv g a ≤ 9
  · rw [if_pos c] at h ⊢
    by_cases d : g (a + nd g a) = 44
    · rw [if_pos d] at h ⊢
      have := lnC_ok hn h (by omega)
      omega
    · rw [if_neg d] at h
      have h : a + nd g a = -1 := h
      omega
  · rw [if_neg c] at h
    have h : nbad g a = -1 := h
    omega
theorem lnA_ok {g : Int → Int} {a n : Int} (hn : n < 24) (h : (lnA g a n).1 = -1) (h0 : 0 ≤ a) : a + 7 ≤ (lnA g a n).2.1 ∧ (lnA g a n).2.1 ≤ a + 14 ∧ 1 ≤ (lnA g a n).2.2 ∧ n + (lnA g a n).2.2 ≤ 24 := by
  have nb := nbad_eq g a
  have nr := nd_rng g a
  unfold lnA at h ⊢
  by_cases c : 1 ≤ nd g a ∧ 1 ≤ nv g a ∧ nv g a ≤ 30
  · rw [if_pos c] at h ⊢
    by_cases d : g (a + nd g a) = 44
    · rw [if_pos d] at h ⊢
      have := lnB_ok hn h (by omega)
      omega
    · rw [if_neg d] at h
      have h : a + nd g a = -1 := h
      omega
  · rw [if_neg c] at h
    have h : nbad g a = -1 := h
    omega
/-- fuel does not matter -/
theorem rdS_fuel {g : Int → Int} {lim : Int} : ∀ (k k' : Nat) (a n : Int), 0 ≤ a → lim + 1 - a ≤ (k : Int) → lim + 1 - a ≤ (k' : Int) → a ≤ lim → rdS g lim k a n = rdS g lim k' a n := by
  intro k
  induction k with
  | zero => intro k' a n h0 h1 h2 h3; omega
  | succ k ih =>
    intro k' a n h0 h1 h2 h3
    cases k' with
    | zero => omega
    | succ k' =>
      unfold rdS
      by_cases c : n < 24
      · rw [if_pos c, if_pos c]
        by_cases d : (lnA g a n).1 = -1
        · rw [if_pos d, if_pos d]
          have := lnA_ok c d h0
          by_cases e : (lnA g a n).2.1 < lim
          · rw [if_pos e, if_pos e]
            by_cases f : g (lnA g a n).2.1 = 59
            · rw [if_pos f, if_pos f]
              exact ih k' _ _ (by omega) (by omega) (by omega) (by omega)
            · rw [if_neg f, if_neg f]
          · rw [if_neg e, if_neg e]
        · rw [if_neg d, if_neg d]
      · rw [if_neg c, if_neg c]
theorem lnE_lo {g : Int → Int} {a n : Int} (h0 : 0 ≤ a) : -1 ≤ (lnE g a n).1 := by
  have nb := nbad_eq g (a + 1)
  have nr := nd_rng g (a + 1)
  unfold lnE
  split
  · split
    · show (-1 : Int) ≤ -1; omega
    · show -1 ≤ nbad g (a + 1); omega
  · show (-1 : Int) ≤ -1; omega
theorem lnD_lo {g : Int → Int} {a n : Int} (h0 : 0 ≤ a) : -1 ≤ (lnD g a n).1 := by
  unfold lnD
  split
  · exact lnE_lo (by split <;> omega)
  · show -1 ≤ a; omega
theorem lnC_lo {g : Int → Int} {a n : Int} (h0 : 0 ≤ a) : -1 ≤ (lnC g a n).1 := by
  have nb := nbad_eq g a
  have nr := nd_rng g a
  unfold lnC
  split
  · split
    · exact lnD_lo (by omega)
    · show -1 ≤ a + nd g a; omega
  · show -1 ≤ nbad g a; omega
theorem lnB_lo {g : Int → Int} {a n : Int} (h0 : 0 ≤ a) : -1 ≤ (lnB g a n).1 := by
  have nb := nbad_eq g a
  have nr := nd_rng g a
  unfold lnB
  split
  · split
    · exact lnC_lo (by omega)
    · show -1 ≤ a + nd g a; omega
  · show -1 ≤ nbad g a; omega
theorem lnA_lo {g : Int → Int} {a n : Int} (h0 : 0 ≤ a) : -1 ≤ (lnA g a n).1 := by
  have nb := nbad_eq g a
  have nr := nd_rng g a
  unfold lnA
  split
  · split
    · exact lnB_lo (by omega)
    · show -1 ≤ a + nd g a; omega
  · show -1 ≤ nbad g a; omega
theorem rdS_lo {g : Int → Int} {lim : Int} : ∀ (k : Nat) (a n : Int), 0 ≤ a → -1 ≤ (rdS g lim k a n).1 := by
  intro k
  induction k with
  | zero => intro a n h0; unfold rdS; show -1 ≤ a; omega
  | succ k ih =>
    intro a n h0
    unfold rdS
    by_cases c : n < 24
    · rw [if_pos c]
      by_cases d : (lnA g a n).1 = -1
      · rw [if_pos d]
        have := lnA_ok c d h0
        split
        · split
          · exact ih _ _ (by omega)
          · show -1 ≤ (lnA g a n).2.1; omega
        · show (-1 : Int) ≤ -1; omega
      · rw [if_neg d]; exact lnA_lo h0
    · rw [if_neg c]; show -1 ≤ a; omega
/-- nothing is read behind the end -/
theorem nd_lim {g : Int → Int} {lim a : Int} (hg : ∀ x, lim ≤ x → g x = -1) (h : a ≤ lim) : a + nd g a ≤ lim := by
  rcases nd_cases g a with c | c | c
  · omega
  · have : ¬ lim ≤ a := fun q => by have := hg a q; omega
    omega
  · have : ¬ lim ≤ a + 1 := fun q => by have := hg (a + 1) q; omega
    omega
theorem at_lim {g : Int → Int} {lim a k : Int} (hg : ∀ x, lim ≤ x → g x = -1) (h : g a = k) (hk : 0 ≤ k) : a + 1 ≤ lim := by
  have : ¬ lim ≤ a := fun q => by have := hg a q; omega
  omega
theorem lnE_lim {g : Int → Int} {lim a n : Int} (hg : ∀ x, lim ≤ x → g x = -1) (h0 : 0 ≤ a) (ha : a ≤ lim) (h : (lnE g a n).1 = -1) : (lnE g a n).2.1 ≤ lim := by
  have nb := nbad_eq g (a + 1)
  have nr := nd_rng g (a + 1)
  unfold lnE at h ⊢
  by_cases c : g a = 42
  · rw [if_pos c] at h ⊢
    have h1 := at_lim hg c (by omega)
    by_cases d : 1 ≤ nd g (a + 1) ∧ 1 ≤ nv g (a + 1) ∧ nv g (a + 1) ≤ 24 - n
    · rw [if_pos d]
      exact nd_lim hg h1
    · rw [if_neg d] at h
      have h : nbad g (a + 1) = -1 := h
      omega
  · rw [if_neg c]
    exact ha
theorem lnD_lim {g : Int → Int} {lim a n : Int} (hg : ∀ x, lim ≤ x → g x = -1) (h0 : 0 ≤ a) (h : (lnD g a n).1 = -1) : (lnD g a n).2.1 ≤ lim := by
  unfold lnD at h ⊢
  by_cases c : 48 ≤ g a ∧ g a ≤ 55
  · rw [if_pos c] at h ⊢
    have h1 : a + 1 ≤ lim := at_lim hg rfl (by omega)
    by_cases d : g (a + 1) = 119
    · rw [if_pos d] at h ⊢
      have h2 := at_lim hg d (by omega)
      exact lnE_lim hg (by omega) h2 h
    · rw [if_neg d] at h ⊢
      exact lnE_lim hg (by omega) (by omega) h
  · rw [if_neg c] at h
    have h : a = -1 := h
    omega
theorem lnC_lim {g : Int → Int} {lim a n : Int} (hg : ∀ x, lim ≤ x → g x = -1) (h0 : 0 ≤ a) (h : (lnC g a n).1 = -1) : (lnC g a n).2.1 ≤ lim := by
  have nb := nbad_eq g a
  have nr := nd_rng g a
  unfold lnC at h ⊢
  by_cases c : 1 ≤ nd g a ∧ 0 ≤ nv g a ∧ nv g a ≤ 20
  · rw [if_pos c] at h ⊢
    by_cases d : g (a + nd g a) = 64
    · rw [if_pos d] at h ⊢
      exact lnD_lim hg (by omega) h
    · rw [if_neg d] at h
      have h : a + nd g a = -1 := h
      omega
  · rw [if_neg c] at h
    have h : nbad g a = -1 := h
    omega
theorem lnB_lim {g : Int → Int} {lim a n : Int} (hg : ∀ x, lim ≤ x → g x = -1) (h0 : 0 ≤ a) (h : (lnB g a n).1 = -1) : (lnB g a n).2.1 ≤ lim := by
  have nb := nbad_eq g a
  have nr := nd_rng g a
  unfold lnB at h ⊢
  by_cases c : 1 ≤ nd g a ∧ 0 ≤ nv g a ∧ nv g a ≤ 9
  · rw [if_pos c] at h ⊢
    by_cases d : g (a + nd g a) = 44
    · rw [if_pos d] at h ⊢
      exact lnC_lim hg (by omega) h
    · rw [if_neg d] at h
      have h : a + nd g a = -1 := h
      omega
  · rw [if_neg c] at h
    have h : nbad g a = -1 := h
    omega
theorem lnA_lim {g : Int → Int} {lim a n : Int} (hg : ∀ x, lim ≤ x → g x = -1) (h0 : 0 ≤ a) (h : (lnA g a n).1 = -1) : (lnA g a n).2.1 ≤ lim := by
  have nb := nbad_eq g a
  have nr := nd_rng g a
  unfold lnA at h ⊢
  by_cases c : 1 ≤ nd g a ∧ 1 ≤ nv g a ∧ nv g a ≤ 30
  · rw [if_pos c] at h ⊢
    by_cases d : g (a + nd g a) = 44
    · rw [if_pos d] at h ⊢
      exact lnB_lim hg (by omega) h
    · rw [if_neg d] at h
      have h : a + nd g a = -1 := h
      omega
  · rw [if_neg c] at h
    have h : nbad g a = -1 := h
    omega
theorem rdS_hi {g : Int → Int} {lim : Int} : ∀ (k : Nat) (a n : Int), 0 ≤ a → n ≤ 24 → (rdS g lim k a n).2 ≤ 24 := by
  intro k
  induction k with
  | zero => intro a n h0 hn; unfold rdS; exact hn
  | succ k ih =>
    intro a n h0 hn
    unfold rdS
    by_cases c : n < 24
    · rw [if_pos c]
      by_cases d : (lnA g a n).1 = -1
      · rw [if_pos d]
        have := lnA_ok c d h0
        split
        · split
          · exact ih _ _ (by omega) (by omega)
          · show n + (lnA g a n).2.2 ≤ 24; omega
        · show n + (lnA g a n).2.2 ≤ 24; omega
      · rw [if_neg d]; exact hn
    · rw [if_neg c]; exact hn
end
section

set_option maxHeartbeats 4000000 in
set_option maxRecDepth 100000 in
theorem s9_X9_put {Z : jZ} {I : jI} {L : jL} (w_I : WD Z I) (v0 : Nat) (v1 : Int32) (v2 : Int32) (v3 : Int32) (v4 : Int32) (v5 : Int32) (kv0 : jk Z v0 9) (p0 : 0 ≤ v3.toInt ∧ v3.toInt ≤ 20) {Q : jI → jL → Prop} (hQ : ∀  (I' : jI) (L' : jL), WD Z I' → FR Ws_X9_put Z I Z I' → ((I v0 5).toInt < 24 → (I' v0 5).toInt = (I v0 5).toInt + 1) → Q I' L') : f_X9_put v0 v1 v2 v3 v4 v5 Z I L Q := by
  unfold f_X9_put
  have q_I : FR Ws_X9_put Z I Z I := FR.rf
  have rv1 := i_rng v1
  have rv2 := i_rng v2
  have rv3 := i_rng v3
  have rv4 := i_rng v4
  have rv5 := i_rng v5
  have t1 : 0 ≤ (I v0 5).toInt ∧ (I v0 5).toInt ≤ 24 := w_I.fld 9 5 kv0 (by decide)
  have t3 : 0 ≤ (I v0 5).toInt ∧ (I v0 5).toInt ≤ 24 := w_I.fld 9 5 kv0 (by decide)
  refine ⟨fun c4 => ?_, fun c4 => ?_⟩
  · skip
    first | (have t5 : (24) ≤ (I v0 5).toInt := (i_le (show (24 : Int32).toInt = 24 from rfl) rfl).mp c4) | (have t5 : (24 : Int32).toInt ≤ (I v0 5).toInt := (i_le rfl rfl).mp c4) | skip
    exact hQ  I L w_I q_I (by intro h9; omega)
  · skip
    first | (have t6 : ¬ ((24) ≤ (I v0 5).toInt) := (not_congr (i_le (show (24 : Int32).toInt = 24 from rfl) rfl)).mp c4) | (have t6 : ¬ ((24 : Int32).toInt ≤ (I v0 5).toInt) := (not_congr (i_le rfl rfl)).mp c4) | skip
    intro b7 eb7
    obtain ⟨x8, ex8, kb7, lb7⟩ := sh_f w_I.1 kv0 (j := 0) (k := 14) (m := 24) rfl
    cases eb7.symm.trans ex8
    have t10 : 0 ≤ (I v0 5).toInt ∧ (I v0 5).toInt ≤ 24 := w_I.fld 9 5 kv0 (by decide)
    have o11 : vp_in (I v0 5) 24 := vi_of rfl (by omega) (by omega)
    refine ⟨o11, ?_⟩
    intro I12 eI12
    have w_I12 : WD Z I12 := by rw [eI12]; exact WD_putA w_I 9 0 kv0 eb7 kb7 rfl rfl (by decide) trivial
    have f_I12 : FR [(9, 0)] Z I Z I12 := by rw [eI12]; exact FR_upA w_I.2.1 kv0 eb7 kb7 rfl rfl List.mem_cons_self
    have q_I12 : FR Ws_X9_put Z I Z I12 := q_I.trans w_I.1 w_I.2.1 (f_I12.mono (by decide))
    have u13 : (I12 v0 5).toInt = (I v0 5).toInt := by rw [f_I12.2.2.1 v0 9 5 kv0 (by decide) (by decide)]
    intro b14 eb14
    obtain ⟨x15, ex15, kb14, lb14⟩ := sh_f w_I12.1 kv0 (j := 1) (k := 14) (m := 24) rfl
    cases eb14.symm.trans ex15
    have t17 : 0 ≤ (I12 v0 5).toInt ∧ (I12 v0 5).toInt ≤ 24 := w_I12.fld 9 5 kv0 (by decide)
    have o18 : vp_in (I12 v0 5) 24 := vi_of rfl (by omega) (by omega)
    refine ⟨o18, ?_⟩
    intro I19 eI19
    have w_I19 : WD Z I19 := by rw [eI19]; exact WD_putA w_I12 9 1 kv0 eb14 kb14 rfl rfl (by decide) trivial
    have f_I19 : FR [(9, 1)] Z I12 Z I19 := by rw [eI19]; exact FR_upA w_I12.2.1 kv0 eb14 kb14 rfl rfl List.mem_cons_self
    have q_I19 : FR Ws_X9_put Z I Z I19 := q_I12.trans w_I.1 w_I.2.1 (f_I19.mono (by decide))
    have u20 : (I19 v0 5).toInt = (I12 v0 5).toInt := by rw [f_I19.2.2.1 v0 9 5 kv0 (by decide) (by decide)]
    intro b21 eb21
    obtain ⟨x22, ex22, kb21, lb21⟩ := sh_f w_I19.1 kv0 (j := 2) (k := 14) (m := 24) rfl
    cases eb21.symm.trans ex22
    have t24 : 0 ≤ (I19 v0 5).toInt ∧ (I19 v0 5).toInt ≤ 24 := w_I19.fld 9 5 kv0 (by decide)
    have o25 : vp_in (I19 v0 5) 24 := vi_of rfl (by omega) (by omega)
    refine ⟨o25, ?_⟩
    intro I26 eI26
    have w_I26 : WD Z I26 := by rw [eI26]; exact WD_putA w_I19 9 2 kv0 eb21 kb21 rfl rfl (by decide) (by constructor <;> omega)
    have f_I26 : FR [(9, 2)] Z I19 Z I26 := by rw [eI26]; exact FR_upA w_I19.2.1 kv0 eb21 kb21 rfl rfl List.mem_cons_self
    have q_I26 : FR Ws_X9_put Z I Z I26 := q_I19.trans w_I.1 w_I.2.1 (f_I26.mono (by decide))
    have u27 : (I26 v0 5).toInt = (I19 v0 5).toInt := by rw [f_I26.2.2.1 v0 9 5 kv0 (by decide) (by decide)]
    intro b28 eb28
    obtain ⟨x29, ex29, kb28, lb28⟩ := sh_f w_I26.1 kv0 (j := 3) (k := 14) (m := 24) rfl
    cases eb28.symm.trans ex29
    have t31 : 0 ≤ (I26 v0 5).toInt ∧ (I26 v0 5).toInt ≤ 24 := w_I26.fld 9 5 kv0 (by decide)
    have o32 : vp_in (I26 v0 5) 24 := vi_of rfl (by omega) (by omega)
    refine ⟨o32, ?_⟩
    intro I33 eI33
    have w_I33 : WD Z I33 := by rw [eI33]; exact WD_putA w_I26 9 3 kv0 eb28 kb28 rfl rfl (by decide) trivial
    have f_I33 : FR [(9, 3)] Z I26 Z I33 := by rw [eI33]; exact FR_upA w_I26.2.1 kv0 eb28 kb28 rfl rfl List.mem_cons_self
    have q_I33 : FR Ws_X9_put Z I Z I33 := q_I26.trans w_I.1 w_I.2.1 (f_I33.mono (by decide))
    have u34 : (I33 v0 5).toInt = (I26 v0 5).toInt := by rw [f_I33.2.2.1 v0 9 5 kv0 (by decide) (by decide)]
    intro b35 eb35
    obtain ⟨x36, ex36, kb35, lb35⟩ := sh_f w_I33.1 kv0 (j := 4) (k := 14) (m := 24) rfl
    cases eb35.symm.trans ex36
    have t38 : 0 ≤ (I33 v0 5).toInt ∧ (I33 v0 5).toInt ≤ 24 := w_I33.fld 9 5 kv0 (by decide)
    have o39 : vp_in (I33 v0 5) 24 := vi_of rfl (by omega) (by omega)
    refine ⟨o39, ?_⟩
    intro I40 eI40
    have w_I40 : WD Z I40 := by rw [eI40]; exact WD_putA w_I33 9 4 kv0 eb35 kb35 rfl rfl (by decide) trivial
    have f_I40 : FR [(9, 4)] Z I33 Z I40 := by rw [eI40]; exact FR_upA w_I33.2.1 kv0 eb35 kb35 rfl rfl List.mem_cons_self
    have q_I40 : FR Ws_X9_put Z I Z I40 := q_I33.trans w_I.1 w_I.2.1 (f_I40.mono (by decide))
    have u41 : (I40 v0 5).toInt = (I33 v0 5).toInt := by rw [f_I40.2.2.1 v0 9 5 kv0 (by decide) (by decide)]
    have t43 : 0 ≤ (I40 v0 5).toInt ∧ (I40 v0 5).toInt ≤ 24 := w_I40.fld 9 5 kv0 (by decide)
    intro I44 eI44
    try (have t45 : ((I40 v0 5) + (1 : Int32)).toInt = ((I40 v0 5).toInt + (1)) := (i_add rfl (show (1 : Int32).toInt = 1 from rfl) (by omega) (by omega)))
    have w_I44 : WD Z I44 := by rw [eI44]; exact WD_putF w_I40 9 5 kv0 (by decide) (by decide) (by constructor <;> omega)
    have f_I44 : FR [(9, 5)] Z I40 Z I44 := by rw [eI44]; exact FR_putF kv0 (by decide) List.mem_cons_self
    have q_I44 : FR Ws_X9_put Z I Z I44 := q_I40.trans w_I.1 w_I.2.1 (f_I44.mono (by decide))
    first | (have u46 : (I44 v0 5).toInt = ((I40 v0 5).toInt + (1)) := by (rw [eI44, show jpI I40 v0 5 ((I40 v0 5) + (1 : Int32)) v0 5 = ((I40 v0 5) + (1 : Int32)) from jpI_at] <;> exact (i_add rfl (show (1 : Int32).toInt = 1 from rfl) (by omega) (by omega)))) | skip
    exact hQ  I44 L w_I44 q_I44 (by intro h9; omega)

/-! ===== the class reads THE STAIRS ===== -/
/-- the text that is read: cell v1, its signs uB -/
def TX (Z : jZ) (I0 : jI) (v0 v1 uB : Nat) (lim : Int) : Prop := WD Z I0 ∧ jk Z v0 9 ∧ jk Z v1 10 ∧ jr Z v1 0 = some uB ∧ jk Z uB 13 ∧ (lim ≤ (I0 v1 1).toInt ∧ (I0 v1 1).toInt ≤ 80 ∧ lim ≤ 76) ∧ BY (I0 uB)
/-- the reader at place a, n steps told, fault F -/
def RS (Z : jZ) (I0 : jI) (v0 : Nat) (lim : Int) (I : jI) (a n F : Int) : Prop := WD Z I ∧ FR Ws_X9_read Z I0 Z I ∧ (I v0 6).toInt = a ∧ (I v0 5).toInt = n ∧ (I v0 8).toInt = F ∧ (I v0 7).toInt = lim
theorem RS_txt {Z : jZ} {I0 I : jI} {v0 v1 uB : Nat} {lim a n F : Int} (t : TX Z I0 v0 v1 uB lim) (s : RS Z I0 v0 lim I a n F) : I v1 1 = I0 v1 1 ∧ I uB = I0 uB := by
  obtain ⟨w0, k0, k1, hB, kB, hl, hb⟩ := t
  exact ⟨s.2.1.2.2.1 v1 10 1 k1 (by decide) (by decide), s.2.1.2.2.2 v1 10 0 uB k1 hB (by rw [kB.2]; rfl) rfl (by decide)⟩
theorem RS_put {Z : jZ} {I0 I : jI} {v0 v1 uB j : Nat} {lim a n F : Int} {x : Int32} (t : TX Z I0 v0 v1 uB lim) (s : RS Z I0 v0 lim I a n F) (hm : (9, j) ∈ Ws_X9_read) (ok : okF 9 j x) : WD Z (jpI I v0 j x) ∧ FR Ws_X9_read Z I0 Z (jpI I v0 j x) := by
  obtain ⟨w0, k0, k1, hB, kB, hl, hb⟩ := t
  exact ⟨WD_putF s.1 9 j k0 (by decide) (by decide) ok, s.2.1.trans w0.1 w0.2.1 (FR_putF k0 (by decide) hm)⟩
theorem jpI_o {I : jI} {a j i : Nat} {x : Int32} (h : i ≠ j) : jpI I a j x a i = I a i := by
  show va_up I a (upd (I a) j x) a i = _
  rw [va_up_self]
  exact if_neg h
/-- the place moves on -/
theorem RS_at {Z : jZ} {I0 I : jI} {v0 v1 uB : Nat} {lim a n F : Int} {y : Int32} {d : Int} (t : TX Z I0 v0 v1 uB lim) (s : RS Z I0 v0 lim I a n F) (hy : y.toInt = d) (h1 : -1000 ≤ a + d) (h2 : a + d ≤ 1000) : RS Z I0 v0 lim (jpI I v0 6 ((I v0 6) + y)) (a + d) n F := by
  obtain ⟨g1, g2⟩ := RS_put (j := 6) (x := (I v0 6) + y) t s (by decide) trivial
  refine ⟨g1, g2, ?_, ?_, ?_, ?_⟩
  · rw [jpI_at]; exact i_add s.2.2.1 hy (by omega) (by omega)
  · rw [jpI_o (by decide)]; exact s.2.2.2.1
  · rw [jpI_o (by decide)]; exact s.2.2.2.2.1
  · rw [jpI_o (by decide)]; exact s.2.2.2.2.2
theorem r_fail {Z : jZ} {I0 I : jI} {L : jL} {v0 v1 uB : Nat} {lim a n F : Int} {y : Int32} {Q : Int32 → jI → jL → Prop} (t : TX Z I0 v0 v1 uB lim) (s : RS Z I0 v0 lim I a n F) (h : ∀ I', RS Z I0 v0 lim I' a n y.toInt → Q 0 I' L) : f_X9_fail v0 y Z I L Q := by
  unfold f_X9_fail
  intro I1 e1
  obtain ⟨g1, g2⟩ := RS_put (j := 8) (x := y) t s (by decide) trivial
  rw [e1]
  refine h _ ⟨g1, g2, ?_, ?_, ?_, ?_⟩
  · rw [jpI_o (by decide)]; exact s.2.2.1
  · rw [jpI_o (by decide)]; exact s.2.2.2.1
  · rw [jpI_at]
  · rw [jpI_o (by decide)]; exact s.2.2.2.2.2
theorem CLk_neg {f : Nat → Int32} {lim a : Int} (h1 : a < 0) : CLk (GS f lim a) (-1) := by
  unfold GS
  rw [if_neg (by omega)]
  unfold CLk
  omega
theorem r_look {Z : jZ} {I0 I : jI} {L : jL} {v0 v1 uB : Nat} {lim a n F : Int} {Q : Int32 → jI → jL → Prop} (t : TX Z I0 v0 v1 uB lim) (s : RS Z I0 v0 lim I a n F) (h0 : 0 ≤ a) (h : ∀ r : Int32, CLk (GS (I0 uB) lim a) r.toInt → Q r I L) : f_X9_look v0 v1 Z I L Q := by
  obtain ⟨e1, e2⟩ := RS_txt t s
  obtain ⟨w0, k0, k1, hB, kB, hl, hb⟩ := t
  obtain ⟨w, f, sa, sn, sF, sl⟩ := s
  unfold f_X9_look
  refine ⟨fun c => h _ ?_, fun c => ?_⟩
  · exact CLk_out ((i_le sl sa).mp c)
  have c := (not_congr (i_le sl sa)).mp c
  unfold f_X10_signAt
  refine ⟨fun c1 => ?_, fun c1 => ⟨fun c2 => ?_, fun c2 => ⟨fun c3 => ?_, fun c3 => ?_⟩⟩⟩
  · have := (i_lt sa (show (0 : Int32).toInt = 0 from rfl)).mp c1
    omega
  · rw [e1] at c2
    have := (i_le rfl sa).mp c2
    omega
  · have := (i_le (show (80 : Int32).toInt = 80 from rfl) sa).mp c3
    omega
  · intro b eb
    cases hB.symm.trans eb
    refine ⟨vi_of sa (by omega) (by omega), h _ ?_⟩
    rw [e2]
    have := CLk_in (f := I0 uB) (lim := lim) (x := I v0 6) hb (by omega) (by omega)
    rw [sa] at this
    exact this
theorem r_mark {Z : jZ} {I0 I : jI} {L : jL} {v0 v1 uB : Nat} {lim a n F : Int} {c : Int32} {k : Int} {Q : Int32 → jI → jL → Prop} (t : TX Z I0 v0 v1 uB lim) (s : RS Z I0 v0 lim I a n F) (h0 : 0 ≤ a ∧ a ≤ 100) (hk : c.toInt = k) (hc : 0 ≤ k ∧ k ≤ 127) (h1 : GS (I0 uB) lim a = k → ∀ I', RS Z I0 v0 lim I' (a + 1) n F → Q 1 I' L) (h2 : GS (I0 uB) lim a ≠ k → ∀ I', RS Z I0 v0 lim I' a n a → Q 0 I' L) : f_X9_readMark v0 v1 c Z I L Q := by
  unfold f_X9_readMark
  refine r_look t s h0.1 (fun r hr => ⟨fun e => ?_, fun e => ?_⟩)
  · intro I9 e9
    rw [e9]
    refine h1 ?_ _ (RS_at t s (show (1 : Int32).toInt = 1 from rfl) (by omega) (by omega))
    subst e
    unfold CLk at hr
    omega
  · refine r_fail t s (fun I' s' => ?_)
    rw [s.2.2.1] at s'
    refine h2 (fun q => e ((i_eq rfl rfl).mpr ?_)) _ s'
    have := hr.1 (by omega)
    omega
theorem r_break {Z : jZ} {I0 I : jI} {L : jL} {v0 v1 uB : Nat} {lim a n F : Int} {Q : Int32 → jI → jL → Prop} (t : TX Z I0 v0 v1 uB lim) (s : RS Z I0 v0 lim I a n F) (h0 : 0 ≤ a ∧ a ≤ 100) (h1 : a < lim → GS (I0 uB) lim a = 59 → ∀ I', RS Z I0 v0 lim I' (a + 1) n F → Q 1 I' L) (h2 : a < lim → GS (I0 uB) lim a ≠ 59 → ∀ I', RS Z I0 v0 lim I' a n a → Q 0 I' L) (h3 : lim ≤ a → Q 0 I L) : f_X9_readBreak v0 v1 Z I L Q := by
  unfold f_X9_readBreak
  refine ⟨fun c => h3 ((i_le s.2.2.2.2.2 s.2.2.1).mp c), fun c => ?_⟩
  have c := (not_congr (i_le s.2.2.2.2.2 s.2.2.1)).mp c
  refine r_mark (k := 59) t s h0 rfl (by decide) (fun g I' s' => ⟨fun e => absurd e (by decide), fun _ => h1 (by omega) g I' s'⟩) (fun g I' s' => ⟨fun _ => h2 (by omega) g I' s', fun e => absurd rfl e⟩)
theorem r_num {Z : jZ} {I0 : jI} {L : jL} {v0 v1 uB : Nat} {lim a n F : Int} {v2 v3 : Int32} {Q : Int32 → jI → jL → Prop} (t : TX Z I0 v0 v1 uB lim) (h0 : 0 ≤ a ∧ a ≤ 100)
    (h1 : 1 ≤ nd (GS (I0 uB) lim) a ∧ v2.toInt ≤ nv (GS (I0 uB) lim) a ∧ nv (GS (I0 uB) lim) a ≤ v3.toInt → ∀ (r : Int32) I', r.toInt = nv (GS (I0 uB) lim) a → RS Z I0 v0 lim I' (a + nd (GS (I0 uB) lim) a) n F → Q r I' L)
    (h2 : ¬ (1 ≤ nd (GS (I0 uB) lim) a ∧ v2.toInt ≤ nv (GS (I0 uB) lim) a ∧ nv (GS (I0 uB) lim) a ≤ v3.toInt) → ∀ I', RS Z I0 v0 lim I' (a + nd (GS (I0 uB) lim) a) n (nbad (GS (I0 uB) lim) a) → Q (-1) I' L) :
    ∀ (m : Nat) (v4 v5 : Int32) (p : Int) (I : jI), RS Z I0 v0 lim I p n F → NI (GS (I0 uB) lim) a v5.toInt v4.toInt p → 3 - v5.toInt ≤ (m : Int) → f_X9_readNumber_L6 Z Q m v0 v1 v2 v3 v4 v5 I L := by
  have fin : ∀ (v4 v5 : Int32) (I : jI), RS Z I0 v0 lim I (a + nd (GS (I0 uB) lim) a) n F → nd (GS (I0 uB) lim) a = v5.toInt → nv (GS (I0 uB) lim) a = v4.toInt → f_X9_readNumber_b55 Z Q v0 v2 v3 v4 v5 I L := by
    intro v4 v5 I s e1 e2
    have nr := nd_rng (GS (I0 uB) lim) a
    have nb := nbad_eq (GS (I0 uB) lim) a
    have bad : ¬ (1 ≤ nd (GS (I0 uB) lim) a ∧ v2.toInt ≤ nv (GS (I0 uB) lim) a ∧ nv (GS (I0 uB) lim) a ≤ v3.toInt) → f_X9_readNumber_b77 Z Q v0 v4 v5 0 I L := by
      intro hb
      unfold f_X9_readNumber_b77
      refine ⟨fun c => absurd rfl c, fun _ => ⟨fun c => ?_, fun c => ?_⟩⟩
      · unfold f_X9_readNumber_b103
        refine r_fail t s (fun I' s' => ?_)
        unfold f_X9_readNumber_b107
        refine ⟨fun _ => h2 hb I' ?_, fun c => absurd rfl c⟩
        have hc := (not_congr (i_eq (x := v5) (y := 0) rfl (show (0 : Int32).toInt = 0 from rfl))).mp c
        have : ((I v0 6) - (1 : Int32)).toInt = nbad (GS (I0 uB) lim) a := (i_sub s.2.2.1 (show (1 : Int32).toInt = 1 from rfl) (by omega) (by omega)).trans (by omega)
        rw [this] at s'
        exact s'
      · unfold f_X9_readNumber_b103
        refine r_fail t s (fun I' s' => ?_)
        unfold f_X9_readNumber_b107
        refine ⟨fun _ => h2 hb I' ?_, fun c => absurd rfl c⟩
        have hc := (i_eq (x := v5) (y := 0) rfl (show (0 : Int32).toInt = 0 from rfl)).mp c
        have : (I v0 6).toInt = nbad (GS (I0 uB) lim) a := s.2.2.1.trans (by omega)
        rw [this] at s'
        exact s'
    unfold f_X9_readNumber_b55 f_X9_readNumber_b76
    refine ⟨fun c => bad ?_, fun c => ⟨fun c1 => bad ?_, fun c1 => ⟨fun c2 => bad ?_, fun c2 => ?_⟩⟩⟩
    · have := (i_le (x := v5) (y := 0) rfl (show (0 : Int32).toInt = 0 from rfl)).mp c
      omega
    · have := (i_lt (x := v4) (y := v2) rfl rfl).mp c1
      omega
    · have := (i_lt (x := v3) (y := v4) rfl rfl).mp c2
      omega
    · have g := (not_congr (i_le (x := v5) (y := 0) rfl (show (0 : Int32).toInt = 0 from rfl))).mp c
      have g1 := (not_congr (i_lt (x := v4) (y := v2) rfl rfl)).mp c1
      have g2 := (not_congr (i_lt (x := v3) (y := v4) rfl rfl)).mp c2
      unfold f_X9_readNumber_b77
      refine ⟨fun _ => ?_, fun c => absurd c (by decide)⟩
      unfold f_X9_readNumber_b107
      exact ⟨fun c => absurd c (by decide), fun _ => h1 (by omega) v4 I (by omega) s⟩
  intro m
  induction m with
  | zero =>
    intro v4 v5 p I s hN hm
    exfalso
    obtain ⟨-, h | h | h⟩ := hN <;> omega
  | succ m ih =>
    intro v4 v5 p I s hN hm
    have hp : p = a + v5.toInt := hN.1
    have hd : 0 ≤ v5.toInt ∧ v5.toInt ≤ 2 := by obtain ⟨-, h | h | h⟩ := hN <;> omega
    have hv : 0 ≤ v4.toInt ∧ v4.toInt ≤ 99 := by obtain ⟨-, h | h | h⟩ := hN <;> omega
    unfold f_X9_readNumber_L6
    refine ⟨fun c => ?_, fun c => ?_⟩
    · have c := (i_le (x := 2) (y := v5) (show (2 : Int32).toInt = 2 from rfl) rfl).mp c
      obtain ⟨g1, g2, g3⟩ := NI_end hN (Or.inl (by omega))
      rw [g3, ← g1] at s
      exact fin v4 v5 I s g1 g2
    have c := (not_congr (i_le (x := 2) (y := v5) (show (2 : Int32).toInt = 2 from rfl) rfl)).mp c
    refine r_look t s (by omega) (fun r hr => ?_)
    unfold f_X10_isDigit
    have stop : ¬ (48 ≤ GS (I0 uB) lim p ∧ GS (I0 uB) lim p ≤ 57) → f_X9_readNumber_b55 Z Q v0 v2 v3 v4 v5 I L := fun hn => by
      obtain ⟨g1, g2, g3⟩ := NI_end hN (Or.inr hn)
      rw [g3, ← g1] at s
      exact fin v4 v5 I s g1 g2
    refine ⟨fun c1 => ?_, fun c1 => ⟨fun c2 => ?_, fun c2 => ?_⟩⟩
    · have c1 := (i_lt (x := r) (y := 48) rfl (show (48 : Int32).toInt = 48 from rfl)).mp c1
      exact ⟨fun _ => stop (fun q => by have := hr.1 (by omega); omega), fun e => absurd rfl e⟩
    · have c2 := (i_lt (x := 57) (y := r) (show (57 : Int32).toInt = 57 from rfl) rfl).mp c2
      exact ⟨fun _ => stop (fun q => by have := hr.1 (by omega); omega), fun e => absurd rfl e⟩
    · have c1 := (not_congr (i_lt (x := r) (y := 48) rfl (show (48 : Int32).toInt = 48 from rfl))).mp c1
      have c2 := (not_congr (i_lt (x := 57) (y := r) (show (57 : Int32).toInt = 57 from rfl) rfl)).mp c2
      have hg : GS (I0 uB) lim p = r.toInt := by unfold CLk at hr; omega
      refine ⟨fun e => absurd e (by decide), fun _ => ?_⟩
      refine r_look t s (by omega) (fun r2 hr2 => ?_)
      have hg2 : r2.toInt = r.toInt := by have := hr2.1 (by omega); omega
      intro x37 e37 I38 e38 x39 e39
      rw [e38]
      have d37 : x37.toInt = v4.toInt * 10 + GS (I0 uB) lim p - 48 := by
        rw [e37]
        exact (i_sub (i_add (i_mul (x := v4) rfl (show (10 : Int32).toInt = 10 from rfl) (by omega) (by omega)) hg2 (by omega) (by omega)) (show (48 : Int32).toInt = 48 from rfl) (by omega) (by omega)).trans (by omega)
      have d39 : x39.toInt = v5.toInt + 1 := by
        rw [e39]
        exact i_add rfl (show (1 : Int32).toInt = 1 from rfl) (by omega) (by omega)
      exact ih x37 x39 (p + 1) _ (RS_at t s (show (1 : Int32).toInt = 1 from rfl) (by omega) (by omega)) (NI_step hN (by omega) (by omega) d39 d37 rfl) (by omega)
theorem r_number {Z : jZ} {I0 I : jI} {L : jL} {v0 v1 uB : Nat} {lim a n F lo hi : Int} {v2 v3 : Int32} {Q : Int32 → jI → jL → Prop} (t : TX Z I0 v0 v1 uB lim) (s : RS Z I0 v0 lim I a n F) (h0 : 0 ≤ a ∧ a ≤ 100) (e2 : v2.toInt = lo) (e3 : v3.toInt = hi)
    (h1 : 1 ≤ nd (GS (I0 uB) lim) a ∧ lo ≤ nv (GS (I0 uB) lim) a ∧ nv (GS (I0 uB) lim) a ≤ hi → ∀ (r : Int32) I', r.toInt = nv (GS (I0 uB) lim) a → RS Z I0 v0 lim I' (a + nd (GS (I0 uB) lim) a) n F → Q r I' L)
    (h2 : ¬ (1 ≤ nd (GS (I0 uB) lim) a ∧ lo ≤ nv (GS (I0 uB) lim) a ∧ nv (GS (I0 uB) lim) a ≤ hi) → ∀ I', RS Z I0 v0 lim I' (a + nd (GS (I0 uB) lim) a) n (nbad (GS (I0 uB) lim) a) → Q (-1) I' L) : f_X9_readNumber v0 v1 v2 v3 Z I L Q := by
  subst e2; subst e3
  unfold f_X9_readNumber
  have z : (0 : Int32).toInt = 0 := rfl
  exact ⟨3, r_num t h0 h1 h2 3 0 0 a I s (by rw [z]; exact NI_0) (by rw [z]; omega)⟩
theorem r_family {Z : jZ} {I0 I : jI} {L : jL} {v0 v1 uB : Nat} {lim a n F : Int} {Q : Int32 → jI → jL → Prop} (t : TX Z I0 v0 v1 uB lim) (s : RS Z I0 v0 lim I a n F) (h0 : 0 ≤ a ∧ a ≤ 100)
    (h1 : 48 ≤ GS (I0 uB) lim a ∧ GS (I0 uB) lim a ≤ 55 → ∀ (r : Int32) I', r.toInt = GS (I0 uB) lim a - 48 → RS Z I0 v0 lim I' (a + 1) n F → Q r I' L)
    (h2 : ¬ (48 ≤ GS (I0 uB) lim a ∧ GS (I0 uB) lim a ≤ 55) → ∀ I', RS Z I0 v0 lim I' a n a → Q (-1) I' L) : f_X9_readFamily v0 v1 Z I L Q := by
  unfold f_X9_readFamily
  refine r_look t s h0.1 (fun r hr => ?_)
  have rr := i_rng r
  intro x8 e8
  have hbig : r.toInt ≤ 255 ∨ 255 < r.toInt := by omega
  have hr2 : -1 ≤ r.toInt := by
    have gr := GS_rng (f := I0 uB) (lim := lim) (a := a) t.2.2.2.2.2.2
    unfold CLk at hr
    omega
  have d8 : x8.toInt = r.toInt - 48 := by
    rw [e8]
    exact i_sub rfl (show (48 : Int32).toInt = 48 from rfl) (by omega) (by omega)
  refine s_X11_isFamily s.1 x8 (fun r15 p15 => ⟨fun c => ?_, fun c => ?_⟩)
  · intro I17 e17
    rw [e17]
    have c := (not_congr (i_eq (x := r15) (y := 0) rfl (show (0 : Int32).toInt = 0 from rfl))).mp c
    have hg : GS (I0 uB) lim a = r.toInt := by unfold CLk at hr; omega
    exact h1 (by omega) x8 _ (by omega) (RS_at t s (show (1 : Int32).toInt = 1 from rfl) (by omega) (by omega))
  · have c := (i_eq (x := r15) (y := 0) rfl (show (0 : Int32).toInt = 0 from rfl)).mp c
    refine r_fail t s (fun I' s' => ?_)
    rw [s.2.2.1] at s'
    refine h2 (fun q => ?_) I' s'
    have := hr.1 (by omega)
    omega
theorem r_times {Z : jZ} {I0 I : jI} {L : jL} {v0 v1 uB : Nat} {lim a n F : Int} {Q : Int32 → jI → jL → Prop} (t : TX Z I0 v0 v1 uB lim) (s : RS Z I0 v0 lim I a n F) (h0 : 0 ≤ a ∧ a ≤ 99) (hn : 0 ≤ n ∧ n ≤ 24)
    (h1 : GS (I0 uB) lim a ≠ 42 → Q 1 I L)
    (h2 : GS (I0 uB) lim a = 42 → 1 ≤ nd (GS (I0 uB) lim) (a + 1) ∧ 1 ≤ nv (GS (I0 uB) lim) (a + 1) ∧ nv (GS (I0 uB) lim) (a + 1) ≤ 24 - n → ∀ (r : Int32) I', r.toInt = nv (GS (I0 uB) lim) (a + 1) → RS Z I0 v0 lim I' (a + 1 + nd (GS (I0 uB) lim) (a + 1)) n F → Q r I' L)
    (h3 : GS (I0 uB) lim a = 42 → ¬ (1 ≤ nd (GS (I0 uB) lim) (a + 1) ∧ 1 ≤ nv (GS (I0 uB) lim) (a + 1) ∧ nv (GS (I0 uB) lim) (a + 1) ≤ 24 - n) → ∀ I', RS Z I0 v0 lim I' (a + 1 + nd (GS (I0 uB) lim) (a + 1)) n (nbad (GS (I0 uB) lim) (a + 1)) → Q (-1) I' L) : f_X9_readTimes v0 v1 Z I L Q := by
  unfold f_X9_readTimes
  refine r_look t s h0.1 (fun r hr => ⟨fun c => ?_, fun c => ?_⟩)
  · have c := (i_eq (x := r) (y := 42) rfl (show (42 : Int32).toInt = 42 from rfl)).mp c
    have hg : GS (I0 uB) lim a = 42 := by unfold CLk at hr; omega
    intro I9 e9
    rw [e9]
    have s9 := RS_at t s (show (1 : Int32).toInt = 1 from rfl) (by omega) (by omega)
    refine r_number (lo := 1) (hi := 24 - n) t s9 (by omega) rfl (i_sub (show (24 : Int32).toInt = 24 from rfl) s9.2.2.2.1 (by omega) (by omega)) (fun g r I' e s' => h2 hg g r I' e s') (fun g I' s' => h3 hg g I' s')
  · refine h1 (fun q => c ((i_eq rfl (show (42 : Int32).toInt = 42 from rfl)).mpr ?_))
    have := hr.1 (by omega)
    omega
theorem r_puts {Z : jZ} {I0 : jI} {v0 v1 uB : Nat} {lim a n F : Int} {v2 v3 v4 v5 v6 v7 : Int32} {Q : Int32 → jI → jL → Prop} (t : TX Z I0 v0 v1 uB lim) (h4 : 0 ≤ v4.toInt ∧ v4.toInt ≤ 20) (h7 : 1 ≤ v7.toInt ∧ n + v7.toInt ≤ 24 ∧ 0 ≤ n)
    (hQ : ∀ I' L', RS Z I0 v0 lim I' a (n + v7.toInt) F → Q 1 I' L') :
    ∀ (m : Nat) (v8 : Int32) (I : jI) (L : jL), RS Z I0 v0 lim I a (n + v8.toInt) F → 0 ≤ v8.toInt → v8.toInt ≤ v7.toInt → v7.toInt - v8.toInt < (m : Int) → f_X9_readLine_L151 Z Q m v0 v2 v3 v4 v5 v6 v7 v8 I L := by
  intro m
  induction m with
  | zero => intro v8 I L s h1 h2 h3; exfalso; omega
  | succ m ih =>
    intro v8 I L s h1 h2 h3
    unfold f_X9_readLine_L151
    refine ⟨fun c => ⟨fun e => ?_, fun _ => ?_⟩, fun c => ?_⟩
    · have := (i_eq (x := v7) (y := -1) rfl (show (-1 : Int32).toInt = -1 from rfl)).mp e
      omega
    · have c := (i_le (x := v7) (y := v8) rfl rfl).mp c
      rw [show v8.toInt = v7.toInt by omega] at s
      exact hQ I L s
    · have c := (not_congr (i_le (x := v7) (y := v8) rfl rfl)).mp c
      have k0 := t.2.1
      refine s9_X9_put s.1 v0 v2 v3 v4 v6 v5 k0 h4 (fun I5 L6 w5 f5 p5 => ?_)
      intro x9 e9
      have d9 : x9.toInt = v8.toInt + 1 := by
        rw [e9]
        exact i_add rfl (show (1 : Int32).toInt = 1 from rfl) (by omega) (by omega)
      have sn := s.2.2.2.1
      refine ih x9 I5 L6 ⟨w5, s.2.1.trans t.1.1 t.1.2.1 (f5.mono (by decide)), ?_, ?_, ?_, ?_⟩ (by omega) (by omega) (by omega)
      · rw [f5.2.2.1 v0 9 6 k0 (by decide) (by decide)]; exact s.2.2.1
      · have := p5 (by omega)
        omega
      · rw [f5.2.2.1 v0 9 8 k0 (by decide) (by decide)]; exact s.2.2.2.2.1
      · rw [f5.2.2.1 v0 9 7 k0 (by decide) (by decide)]; exact s.2.2.2.2.2
/-- the end of a line: how many steps -/
theorem r_lineE {Z : jZ} {I0 I : jI} {L : jL} {v0 v1 uB : Nat} {lim a n : Int} {v2 v3 v4 v5 s0 : Int32} {d : Int} {Q : Int32 → jI → jL → Prop} (t : TX Z I0 v0 v1 uB lim) (s : RS Z I0 v0 lim I a n (-1)) (hd : s0.toInt = d) (h0 : 0 ≤ a + d ∧ a + d ≤ 99) (hn : 0 ≤ n ∧ n < 24) (h4 : 0 ≤ v4.toInt ∧ v4.toInt ≤ 20)
    (h1 : (lnE (GS (I0 uB) lim) (a + d) n).1 = -1 → ∀ I' L', RS Z I0 v0 lim I' (lnE (GS (I0 uB) lim) (a + d) n).2.1 (n + (lnE (GS (I0 uB) lim) (a + d) n).2.2) (-1) → Q 1 I' L')
    (h2 : (lnE (GS (I0 uB) lim) (a + d) n).1 ≠ -1 → ∀ I' L' a', RS Z I0 v0 lim I' a' n (lnE (GS (I0 uB) lim) (a + d) n).1 → Q 0 I' L') : f_X9_readLine_b128 Z Q v0 v1 v2 v3 v4 v5 s0 I L := by
  unfold f_X9_readLine_b128
  intro I10 e10
  rw [e10]
  have s1 := RS_at t s hd (by omega) (by omega)
  have z : (0 : Int32).toInt = 0 := rfl
  refine r_times t s1 h0 (by omega) (fun g => ?_) (fun g g1 r I' er s' => ?_) (fun g g1 I' s' => ?_)
  · have e : lnE (GS (I0 uB) lim) (a + d) n = (-1, a + d, 1) := by unfold lnE; rw [if_neg g]
    rw [e] at h1
    have o : (1 : Int32).toInt = 1 := rfl
    exact ⟨2, r_puts (n := n) (v7 := 1) t h4 (by rw [o]; omega) (fun I' L' s' => h1 rfl I' L' (by rw [o] at s'; exact s')) 2 0 _ L (by rw [z]; rw [show n + 0 = n by omega]; exact s1) (by rw [z]; omega) (by rw [z, o]; omega) (by rw [z, o]; omega)⟩
  · have e : lnE (GS (I0 uB) lim) (a + d) n = (-1, a + d + 1 + nd (GS (I0 uB) lim) (a + d + 1), nv (GS (I0 uB) lim) (a + d + 1)) := by unfold lnE; rw [if_pos g, if_pos g1]
    rw [e] at h1
    exact ⟨r.toInt.toNat + 1, r_puts (n := n) (v7 := r) t h4 (by omega) (fun I' L' s' => h1 rfl I' L' (by rw [er] at s'; exact s')) _ 0 _ L (by rw [z]; rw [show n + 0 = n by omega]; exact s') (by rw [z]; omega) (by rw [z]; omega) (by rw [z]; omega)⟩
  · have e : lnE (GS (I0 uB) lim) (a + d) n = (nbad (GS (I0 uB) lim) (a + d + 1), 0, 0) := by unfold lnE; rw [if_pos g, if_neg g1]
    rw [e] at h2
    have nb := nbad_eq (GS (I0 uB) lim) (a + d + 1)
    have nr := nd_rng (GS (I0 uB) lim) (a + d + 1)
    refine ⟨1, ?_⟩
    unfold f_X9_readLine_L151
    refine ⟨fun _ => ⟨fun _ => h2 (by show nbad _ _ ≠ -1; omega) I' L _ s', fun c => absurd rfl c⟩, fun c => ?_⟩
    exact absurd (by decide) c
/-- a line -/
theorem r_line {Z : jZ} {I0 I : jI} {L : jL} {v0 v1 uB : Nat} {lim a n : Int} {Q : Int32 → jI → jL → Prop} (t : TX Z I0 v0 v1 uB lim) (s : RS Z I0 v0 lim I a n (-1)) (h0 : 0 ≤ a ∧ a ≤ 80) (hn : 0 ≤ n ∧ n ≤ 24)
    (h1 : n < 24 → (lnA (GS (I0 uB) lim) a n).1 = -1 → ∀ I' L', RS Z I0 v0 lim I' (lnA (GS (I0 uB) lim) a n).2.1 (n + (lnA (GS (I0 uB) lim) a n).2.2) (-1) → Q 1 I' L')
    (h2 : n < 24 → (lnA (GS (I0 uB) lim) a n).1 ≠ -1 → ∀ I' L' a', RS Z I0 v0 lim I' a' n (lnA (GS (I0 uB) lim) a n).1 → Q 0 I' L')
    (h3 : 24 ≤ n → ∀ I', RS Z I0 v0 lim I' a n a → Q 0 I' L) : f_X9_readLine v0 v1 Z I L Q := by
  unfold f_X9_readLine
  refine ⟨fun c => ?_, fun c => ?_⟩
  · have c := (i_lt s.2.2.2.1 (show (24 : Int32).toInt = 24 from rfl)).mp c
    have h1 := h1 c
    have h2 := h2 c
    have s0 := s
    have nb0 := nbad_eq (GS (I0 uB) lim) a
    have nr0 := nd_rng (GS (I0 uB) lim) a
    refine r_number (lo := 1) (hi := 30) t s0 (by omega) rfl rfl (fun g0 r0 Ia0 e0 s1 => ⟨fun c => ?_, fun _ => ?_⟩) (fun g0 Ia0 s1 => ⟨fun _ => ?_, fun c => absurd rfl c⟩)
    rotate_left 2
    · have e : lnA (GS (I0 uB) lim) a n = (nbad (GS (I0 uB) lim) a, 0, 0) := by unfold lnA; rw [if_neg g0]
      rw [e] at h2
      exact h2 (by show nbad _ _ ≠ -1; omega) Ia0 L _ s1
    · have := (i_eq (x := r0) (y := -1) rfl (show (-1 : Int32).toInt = -1 from rfl)).mp c
      omega
    refine r_mark (k := 44) t s1 (by omega) rfl (by decide) (fun m0 J0 s2 => ⟨fun _ => ?_, fun c => absurd c (by decide)⟩) (fun m0 J0 s2 => ⟨fun c => absurd rfl c, fun _ => ?_⟩)
    rotate_left
    · have e : lnA (GS (I0 uB) lim) a n = (a + nd (GS (I0 uB) lim) a, 0, 0) := by unfold lnA; rw [if_pos g0, if_neg m0]
      rw [e] at h2
      exact h2 (by show a + nd (GS (I0 uB) lim) a ≠ -1; omega) J0 L _ s2
    have elnA : lnA (GS (I0 uB) lim) a n = lnB (GS (I0 uB) lim) (a + nd (GS (I0 uB) lim) a + 1) n := by unfold lnA; rw [if_pos g0, if_pos m0]
    rw [elnA] at h1 h2
    obtain ⟨a2, eb⟩ : ∃ x, x = a + nd (GS (I0 uB) lim) a + 1 := ⟨_, rfl⟩
    rw [← eb] at h1 h2 s2
    have nb1 := nbad_eq (GS (I0 uB) lim) a2
    have nr1 := nd_rng (GS (I0 uB) lim) a2
    refine r_number (lo := 0) (hi := 9) t s2 (by omega) rfl rfl (fun g1 r1 Ia1 e1 s3 => ⟨fun c => ?_, fun _ => ?_⟩) (fun g1 Ia1 s3 => ⟨fun _ => ?_, fun c => absurd rfl c⟩)
    rotate_left 2
    · have e : lnB (GS (I0 uB) lim) a2 n = (nbad (GS (I0 uB) lim) a2, 0, 0) := by unfold lnB; rw [if_neg g1]
      rw [e] at h2
      exact h2 (by show nbad _ _ ≠ -1; omega) Ia1 L _ s3
    · have := (i_eq (x := r1) (y := -1) rfl (show (-1 : Int32).toInt = -1 from rfl)).mp c
      omega
    refine r_mark (k := 44) t s3 (by omega) rfl (by decide) (fun m1 J1 s4 => ⟨fun _ => ?_, fun c => absurd c (by decide)⟩) (fun m1 J1 s4 => ⟨fun c => absurd rfl c, fun _ => ?_⟩)
    rotate_left
    · have e : lnB (GS (I0 uB) lim) a2 n = (a2 + nd (GS (I0 uB) lim) a2, 0, 0) := by unfold lnB; rw [if_pos g1, if_neg m1]
      rw [e] at h2
      exact h2 (by show a2 + nd (GS (I0 uB) lim) a2 ≠ -1; omega) J1 L _ s4
    have elnB : lnB (GS (I0 uB) lim) a2 n = lnC (GS (I0 uB) lim) (a2 + nd (GS (I0 uB) lim) a2 + 1) n := by unfold lnB; rw [if_pos g1, if_pos m1]
    rw [elnB] at h1 h2
    obtain ⟨a3, ec⟩ : ∃ x, x = a2 + nd (GS (I0 uB) lim) a2 + 1 := ⟨_, rfl⟩
    rw [← ec] at h1 h2 s4
    have nb2 := nbad_eq (GS (I0 uB) lim) a3
    have nr2 := nd_rng (GS (I0 uB) lim) a3
    refine r_number (lo := 0) (hi := 20) t s4 (by omega) rfl rfl (fun g2 r2 Ia2 e2 s5 => ⟨fun c => ?_, fun _ => ?_⟩) (fun g2 Ia2 s5 => ⟨fun _ => ?_, fun c => absurd rfl c⟩)
    rotate_left 2
    · have e : lnC (GS (I0 uB) lim) a3 n = (nbad (GS (I0 uB) lim) a3, 0, 0) := by unfold lnC; rw [if_neg g2]
      rw [e] at h2
      exact h2 (by show nbad _ _ ≠ -1; omega) Ia2 L _ s5
    · have := (i_eq (x := r2) (y := -1) rfl (show (-1 : Int32).toInt = -1 from rfl)).mp c
      omega
    refine r_mark (k := 64) t s5 (by omega) rfl (by decide) (fun m2 J2 s6 => ⟨fun _ => ?_, fun c => absurd c (by decide)⟩) (fun m2 J2 s6 => ⟨fun c => absurd rfl c, fun _ => ?_⟩)
    rotate_left
    · have e : lnC (GS (I0 uB) lim) a3 n = (a3 + nd (GS (I0 uB) lim) a3, 0, 0) := by unfold lnC; rw [if_pos g2, if_neg m2]
      rw [e] at h2
      exact h2 (by show a3 + nd (GS (I0 uB) lim) a3 ≠ -1; omega) J2 L _ s6
    have elnC : lnC (GS (I0 uB) lim) a3 n = lnD (GS (I0 uB) lim) (a3 + nd (GS (I0 uB) lim) a3 + 1) n := by unfold lnC; rw [if_pos g2, if_pos m2]
    rw [elnC] at h1 h2
    obtain ⟨a4, ed⟩ : ∃ x, x = a3 + nd (GS (I0 uB) lim) a3 + 1 := ⟨_, rfl⟩
    rw [← ed] at h1 h2 s6
    refine r_family t s6 (by omega) (fun g3 r3 Ia3 e3 s7 => ⟨fun _ => ?_, fun c => ?_⟩) (fun g3 Ia3 s7 => ⟨fun c => absurd rfl c, fun _ => ?_⟩)
    rotate_left
    · have := (i_eq (x := r3) (y := -1) rfl (show (-1 : Int32).toInt = -1 from rfl)).mp c
      omega
    · have e : lnD (GS (I0 uB) lim) a4 n = (a4, 0, 0) := by unfold lnD; rw [if_neg g3]
      rw [e] at h2
      exact h2 (by show a4 ≠ -1; omega) Ia3 L _ s7
    have elnD : lnD (GS (I0 uB) lim) a4 n = lnE (GS (I0 uB) lim) (a4 + 1 + (if (GS (I0 uB) lim) (a4 + 1) = 119 then 1 else 0)) n := by unfold lnD; rw [if_pos g3]
    rw [elnD] at h1 h2
    refine r_look t s7 (by omega) (fun r8 hr => ⟨fun c => ?_, fun c => ?_⟩)
    · have hw : ¬ (GS (I0 uB) lim) (a4 + 1) = 119 := fun q => c ((i_eq rfl (show (119 : Int32).toInt = 119 from rfl)).mpr (by have := hr.1 (by omega); omega))
      rw [if_neg hw] at h1 h2
      exact r_lineE (d := 0) t s7 rfl (by omega) (by omega) (by omega) h1 h2
    · have c := (i_eq (x := r8) (y := 119) rfl (show (119 : Int32).toInt = 119 from rfl)).mp c
      have hw : (GS (I0 uB) lim) (a4 + 1) = 119 := by unfold CLk at hr; omega
      rw [if_pos hw] at h1 h2
      exact r_lineE (d := 1) t s7 rfl (by omega) (by omega) (by omega) h1 h2
  · have c := (not_congr (i_lt s.2.2.2.1 (show (24 : Int32).toInt = 24 from rfl))).mp c
    refine r_fail t s (fun I' s' => h3 (by omega) I' ?_)
    rw [s.2.2.1] at s'
    exact s'
/-- all lines -/
theorem r_lines {Z : jZ} {I0 : jI} {v0 v1 uB : Nat} {lim : Int} {Q : Int32 → jI → jL → Prop} (t : TX Z I0 v0 v1 uB lim)
    (hE : ∀ (I : jI) (L : jL) (a' F n' : Int), RS Z I0 v0 lim I a' n' F → (F, n') = rdS (GS (I0 uB) lim) lim 77 0 0 → f_X9_read_b81 Z Q v0 v1 I L) :
    ∀ (m k : Nat) (v3 : Int32) (a n : Int) (I : jI) (L : jL), RS Z I0 v0 lim I a n (-1) → 0 ≤ n → n ≤ 24 → 8 * v3.toInt ≤ a → 0 ≤ v3.toInt → a ≤ lim → lim + 2 - a ≤ (m : Int) → lim + 1 - a ≤ (k : Int) → rdS (GS (I0 uB) lim) lim k a n = rdS (GS (I0 uB) lim) lim 77 0 0 → f_X9_read_L43 Z Q m v0 v1 1 v3 I L := by
  have tl := t.2.2.2.2.2.1
  have out : ∀ (m : Nat) (v3 : Int32) (a' F n' : Int) (I : jI) (L : jL), RS Z I0 v0 lim I a' n' F → (F, n') = rdS (GS (I0 uB) lim) lim 77 0 0 → f_X9_read_L43 Z Q (m + 1) v0 v1 0 v3 I L := by
    intro m v3 a' F n' I L s e
    unfold f_X9_read_L43
    exact ⟨fun _ => hE I L a' F n' s e, fun c => absurd rfl c⟩
  intro m
  induction m with
  | zero => intro k v3 a n I L s h1 h2 h3 h4 h5 h6; exfalso; omega
  | succ m ih =>
    intro k v3 a n I L s h1 h2 h3 h4 h5 h6 h7 hr
    have hm : ∃ m', m = m' + 1 := ⟨m - 1, by omega⟩
    obtain ⟨m', em⟩ := hm
    unfold f_X9_read_L43
    refine ⟨fun c => absurd c (by decide), fun _ => ⟨fun c => ?_, fun c => ?_⟩⟩
    · have := (i_le (x := 76) (y := v3) (show (76 : Int32).toInt = 76 from rfl) rfl).mp c
      omega
    have hk : ∃ k', k = k' + 1 := ⟨k - 1, by omega⟩
    obtain ⟨k', ek⟩ := hk
    subst ek
    have d3 : ∀ x : Int32, x = v3 + 1 → x.toInt = v3.toInt + 1 := fun x ex => by rw [ex]; exact i_add rfl (show (1 : Int32).toInt = 1 from rfl) (by omega) (by omega)
    unfold rdS at hr
    refine r_line t s (by omega) ⟨h1, h2⟩ (fun hn e I1 L1 s1 => ?_) (fun hn e I1 L1 a1 s1 => ?_) (fun hn I1 s1 => ?_)
    · rw [if_pos hn, if_pos e] at hr
      have ok := lnA_ok hn e (by omega)
      refine ⟨fun c => absurd c (by decide), fun _ => ?_⟩
      refine r_break t s1 (by omega) (fun hl g I2 s2 => ⟨fun c => absurd c (by decide), fun _ => ?_⟩) (fun hl g I2 s2 => ⟨fun _ => ?_, fun c => absurd rfl c⟩) (fun hl => ⟨fun _ => ?_, fun c => absurd rfl c⟩)
      · rw [if_pos hl, if_pos g] at hr
        unfold f_X9_read_b74
        intro x6 e6
        have := d3 x6 e6
        exact ih k' x6 _ _ I2 L1 s2 (by omega) (by omega) (by omega) (by omega) (by omega) (by omega) (by omega) hr
      · rw [if_pos hl, if_neg g] at hr
        unfold f_X9_read_b73 f_X9_read_b74
        intro x6 e6
        rw [em]
        exact out m' x6 _ _ _ I2 L1 s2 hr
      · rw [if_neg (by omega)] at hr
        unfold f_X9_read_b73 f_X9_read_b74
        intro x6 e6
        rw [em]
        exact out m' x6 _ _ _ I1 L1 s1 hr
    · rw [if_pos hn, if_neg e] at hr
      refine ⟨fun _ => ?_, fun c => absurd rfl c⟩
      unfold f_X9_read_b73 f_X9_read_b74
      intro x6 e6
      rw [em]
      exact out m' x6 _ _ _ I1 L1 s1 hr
    · rw [if_neg (by omega)] at hr
      refine ⟨fun _ => ?_, fun c => absurd rfl c⟩
      unfold f_X9_read_b73 f_X9_read_b74
      intro x6 e6
      rw [em]
      exact out m' x6 _ _ _ I1 L s1 hr
theorem r_read {Z : jZ} {I0 : jI} {L : jL} {v0 v1 uB : Nat} {Q : Int32 → jI → jL → Prop} (w0 : WD Z I0) (k0 : jk Z v0 9) (k1 : jk Z v1 10) (hB : jr Z v1 0 = some uB) (kB : jk Z uB 13) (hb : BY (I0 uB))
    (hQ : ∀ (r : Int32) (I' : jI) (L' : jL), WD Z I' → FR Ws_X9_read Z I0 Z I' → r.toInt = stA (I0 uB) (I0 v1 1).toInt → (0 ≤ r.toInt → (I' v0 5).toInt = r.toInt) → Q r I' L') : f_X9_read v0 v1 Z I0 L Q := by
  have sz : 0 ≤ (I0 v1 1).toInt ∧ (I0 v1 1).toInt ≤ 80 := w0.fld 10 1 k1 (by decide)
  have t : TX Z I0 v0 v1 uB (min (I0 v1 1).toInt 76) := ⟨w0, k0, k1, hB, kB, ⟨by omega, by omega, by omega⟩, hb⟩
  have hne : v1 ≠ v0 := fun e => by subst e; have := k0.2.symm.trans k1.2; omega
  unfold f_X9_read
  intro I26 e26 I27 e27 I28 e28 I29 e29
  have w26 : WD Z I26 := by rw [e26]; exact WD_putF w0 9 5 k0 (by decide) (by decide) (by constructor <;> decide)
  have f26 : FR Ws_X9_read Z I0 Z I26 := by rw [e26]; exact FR_putF k0 (by decide) (by decide)
  have w27 : WD Z I27 := by rw [e27]; exact WD_putF w26 9 6 k0 (by decide) (by decide) trivial
  have f27 : FR Ws_X9_read Z I0 Z I27 := f26.trans w0.1 w0.2.1 (by rw [e27]; exact FR_putF k0 (by decide) (by decide))
  have w28 : WD Z I28 := by rw [e28]; exact WD_putF w27 9 8 k0 (by decide) (by decide) trivial
  have f28 : FR Ws_X9_read Z I0 Z I28 := f27.trans w0.1 w0.2.1 (by rw [e28]; exact FR_putF k0 (by decide) (by decide))
  have w29 : WD Z I29 := by rw [e29]; exact WD_putF w28 9 7 k0 (by decide) (by decide) trivial
  have f29 : FR Ws_X9_read Z I0 Z I29 := f28.trans w0.1 w0.2.1 (by rw [e29]; exact FR_putF k0 (by decide) (by decide))
  have z1 : I28 v1 1 = I0 v1 1 := f28.2.2.1 v1 10 1 k1 (by decide) (by decide)
  have z2 : I29 v1 1 = I0 v1 1 := f29.2.2.1 v1 10 1 k1 (by decide) (by decide)
  have s : RS Z I0 v0 (min (I0 v1 1).toInt 76) I29 0 0 (-1) := by
    refine ⟨w29, f29, ?_, ?_, ?_, ?_⟩
    · rw [e29, jpI_o (by decide), e28, jpI_o (by decide), e27, jpI_at]; rfl
    · rw [e29, jpI_o (by decide), e28, jpI_o (by decide), e27, jpI_o (by decide), e26, jpI_at]; rfl
    · rw [e29, jpI_o (by decide), e28, jpI_at]; rfl
    · rw [e29, jpI_at, z1]
      exact i_min rfl (show (76 : Int32).toInt = 76 from rfl)
  have last : ∀ (I : jI) (L : jL) (a' F n' : Int), RS Z I0 v0 (min (I0 v1 1).toInt 76) I a' n' F → (F = -1 → 2 ≤ n' → n' = stA (I0 uB) (I0 v1 1).toInt) → (F = -1 → n' < 2 → -100 = stA (I0 uB) (I0 v1 1).toInt) → (F ≠ -1 → 0 ≤ F ∧ -1 - F = stA (I0 uB) (I0 v1 1).toInt) → f_X9_read_b104 Z Q v0 I L := by
    intro I L a' F n' s g1 g2 g3
    unfold f_X9_read_b104
    have sF := s.2.2.2.2.1
    have sn := s.2.2.2.1
    refine ⟨fun c => ⟨fun c1 => ?_, fun c1 => ?_⟩, fun c => ?_⟩
    · have c := (i_eq sF (show (-1 : Int32).toInt = -1 from rfl)).mp c
      have c1 := (i_le (show (2 : Int32).toInt = 2 from rfl) sn).mp c1
      exact hQ _ I L s.1 s.2.1 (sn.trans (g1 c c1)) (fun _ => rfl)
    · have c := (i_eq sF (show (-1 : Int32).toInt = -1 from rfl)).mp c
      have c1 := (not_congr (i_le (show (2 : Int32).toInt = 2 from rfl) sn)).mp c1
      exact hQ _ I L s.1 s.2.1 (g2 c (by omega)) (fun q => absurd q (by decide))
    · have c := (not_congr (i_eq sF (show (-1 : Int32).toInt = -1 from rfl))).mp c
      obtain ⟨q1, q3⟩ := g3 c
      have rr := i_rng (I v0 8)
      have e : ((-1 : Int32) - (I v0 8)).toInt = -1 - F := i_sub (show (-1 : Int32).toInt = -1 from rfl) sF (by omega) (by omega)
      exact hQ _ I L s.1 s.2.1 (e.trans q3) (fun q => by omega)
  have hE : ∀ (I : jI) (L : jL) (a' F n' : Int), RS Z I0 v0 (min (I0 v1 1).toInt 76) I a' n' F → ((I0 v1 1).toInt ≤ 0 → F = -1 ∧ n' = 0) → (0 < (I0 v1 1).toInt → (F, n') = rdS (GS (I0 uB) (min (I0 v1 1).toInt 76)) (min (I0 v1 1).toInt 76) 77 0 0) → f_X9_read_b81 Z Q v0 v1 I L := by
    intro I L a' F n' s g0 e
    have sF := s.2.2.2.2.1
    have e1 := (RS_txt t s).1
    have hlo := rdS_lo (g := GS (I0 uB) (min (I0 v1 1).toInt 76)) (lim := min (I0 v1 1).toInt 76) 77 0 0 (by omega)
    have hS : stA (I0 uB) (I0 v1 1).toInt = if F = -1 then (if (I0 v1 1).toInt ≤ 76 then (if 2 ≤ n' then n' else -100) else -77) else -1 - F := by
      unfold stA
      by_cases c : (I0 v1 1).toInt ≤ 0
      · obtain ⟨q1, q2⟩ := g0 c
        rw [if_pos c, if_pos q1, if_pos (by omega), if_neg (by omega)]
      · have e := e (by omega)
        rw [if_neg c, ← e]
    have hF : -1 ≤ F := by
      by_cases c : (I0 v1 1).toInt ≤ 0
      · have := (g0 c).1; omega
      · have e := e (by omega)
        rw [← e] at hlo
        exact hlo
    unfold f_X9_read_b81
    refine ⟨fun c => ?_, fun c => ⟨fun c1 => ?_, fun c1 => ?_⟩⟩
    · have c := (not_congr (i_eq sF (show (-1 : Int32).toInt = -1 from rfl))).mp c
      rw [if_neg c] at hS
      exact last I L a' F n' s (fun q => absurd q c) (fun q => absurd q c) (fun _ => ⟨by omega, hS.symm⟩)
    · have c := (i_eq sF (show (-1 : Int32).toInt = -1 from rfl)).mp c
      rw [e1] at c1
      have c1 := (i_le (y := 76) rfl (show (76 : Int32).toInt = 76 from rfl)).mp c1
      rw [if_pos c, if_pos c1] at hS
      exact last I L a' F n' s (fun _ q => by rw [if_pos q] at hS; exact hS.symm) (fun _ q => by rw [if_neg (by omega)] at hS; exact hS.symm) (fun q => absurd c q)
    · have c := (i_eq sF (show (-1 : Int32).toInt = -1 from rfl)).mp c
      rw [e1] at c1
      have c1 := (not_congr (i_le (y := 76) rfl (show (76 : Int32).toInt = 76 from rfl))).mp c1
      rw [if_pos c, if_neg c1] at hS
      intro I5 e5
      obtain ⟨q1, q2⟩ := RS_put (j := 8) (x := 76) t s (by decide) trivial
      refine last I5 L a' 76 n' ?_ (fun q => by omega) (fun q => by omega) (fun _ => ⟨by omega, hS.symm⟩)
      rw [e5]
      refine ⟨q1, q2, ?_, ?_, ?_, ?_⟩
      · rw [jpI_o (by decide)]; exact s.2.2.1
      · rw [jpI_o (by decide)]; exact s.2.2.2.1
      · rw [jpI_at]; rfl
      · rw [jpI_o (by decide)]; exact s.2.2.2.2.2
  rw [z2]
  unfold f_X9_read_b40
  refine ⟨fun c => ?_, fun c => ?_⟩
  · have c := (i_le (y := 0) rfl (show (0 : Int32).toInt = 0 from rfl)).mp c
    refine ⟨1, ?_⟩
    unfold f_X9_read_L43
    exact ⟨fun _ => hE I29 L 0 (-1) 0 s (fun _ => ⟨rfl, rfl⟩) (fun q => by omega), fun c => absurd rfl c⟩
  · have c := (not_congr (i_le (y := 0) rfl (show (0 : Int32).toInt = 0 from rfl))).mp c
    have z : (0 : Int32).toInt = 0 := rfl
    exact ⟨79, r_lines t (fun I L a' F n' s e => hE I L a' F n' s (fun q => by omega) (fun _ => e)) 79 77 0 0 0 I29 L s (by omega) (by omega) (by rw [z]; omega) (by rw [z]; omega) (by omega) (by omega) (by omega) rfl⟩
end
section
/-! ===== the reference reads THE STAIRS ===== -/
def MT (Z : jZ) (I0 : jI) (v0 uR : Nat) (sz : Int) : Prop := WD Z I0 ∧ jk Z v0 12 ∧ jr Z v0 18 = some uR ∧ jr Z v0 23 = some uR ∧ jk Z uR 13 ∧ jlen Z uR = 80 ∧ 0 ≤ sz ∧ sz ≤ 80
def MR (Z : jZ) (I0 : jI) (v0 : Nat) (sz : Int) (I : jI) (a F : Int) : Prop := WD Z I ∧ FR Ws_X12_readLine Z I0 Z I ∧ (I v0 26).toInt = a ∧ (I v0 27).toInt = F ∧ (I v0 24).toInt = sz ∧ (I v0 25).toInt = 76
theorem MR_txt {Z : jZ} {I0 I : jI} {v0 uR : Nat} {sz a F : Int} (t : MT Z I0 v0 uR sz) (s : MR Z I0 v0 sz I a F) : I uR = I0 uR := by
  obtain ⟨w0, k0, h18, h23, kR, lR, hz⟩ := t
  exact s.2.1.2.2.2 v0 12 18 uR k0 h18 (by rw [kR.2]; rfl) rfl (by decide)
theorem MR_put {Z : jZ} {I0 I : jI} {v0 uR j : Nat} {sz a F : Int} {x : Int32} (t : MT Z I0 v0 uR sz) (s : MR Z I0 v0 sz I a F) (hm : (12, j) ∈ Ws_X12_readLine) (ok : okF 12 j x) : WD Z (jpI I v0 j x) ∧ FR Ws_X12_readLine Z I0 Z (jpI I v0 j x) := by
  obtain ⟨w0, k0, -⟩ := t
  exact ⟨WD_putF s.1 12 j k0 (by decide) (by decide) ok, s.2.1.trans w0.1 w0.2.1 (FR_putF k0 (by decide) hm)⟩
theorem MR_at {Z : jZ} {I0 I : jI} {v0 uR : Nat} {sz a F : Int} (t : MT Z I0 v0 uR sz) (s : MR Z I0 v0 sz I a F) (h1 : -1000 ≤ a) (h2 : a ≤ 1000) : MR Z I0 v0 sz (jpI I v0 26 ((I v0 26) + (1 : Int32))) (a + 1) (F) := by
  obtain ⟨g1, g2⟩ := MR_put (j := 26) (x := (I v0 26) + (1 : Int32)) t s (by decide) trivial
  refine ⟨g1, g2, ?_, ?_, ?_, ?_⟩
  · rw [jpI_at]; exact i_add s.2.2.1 (show (1 : Int32).toInt = 1 from rfl) (by omega) (by omega)
  · rw [jpI_o (by decide)]; exact s.2.2.2.1
  · rw [jpI_o (by decide)]; exact s.2.2.2.2.1
  · rw [jpI_o (by decide)]; exact s.2.2.2.2.2
theorem m_here {Z : jZ} {I0 I : jI} {L : jL} {v0 uR : Nat} {sz a F : Int} {Q : Int32 → jI → jL → Prop} (t : MT Z I0 v0 uR sz) (s : MR Z I0 v0 sz I a F) (h0 : 0 ≤ a) (h : ∀ r : Int32, r.toInt = (GS (I0 uR) (min sz 76)) a → Q r I L) : f_X12_here v0 Z I L Q := by
  have e := MR_txt t s
  obtain ⟨w0, k0, h18, h23, kR, lR, hz⟩ := t
  obtain ⟨w, f, sa, sF, s4, s5⟩ := s
  unfold f_X12_here
  refine ⟨fun c => h _ ?_, fun c => ⟨fun c1 => h _ ?_, fun c1 => ⟨uR, h23, kR, ?_, h _ ?_⟩⟩⟩
  · have := (i_le s4 sa).mp c
    rw [GS_out (by omega)]; rfl
  · have := (i_le s5 sa).mp c1
    rw [GS_out (by omega)]; rfl
  · have := (not_congr (i_le s4 sa)).mp c
    rw [lR]
    exact vi_of sa (by omega) (by omega)
  · have c := (not_congr (i_le s4 sa)).mp c
    have c1 := (not_congr (i_le s5 sa)).mp c1
    rw [e]
    have g := GS_in (f := I0 uR) (lim := min sz 76) (x := I v0 26) (by omega) (by omega)
    rw [sa] at g
    exact g
theorem m_fine {Z : jZ} {I0 I : jI} {L : jL} {v0 : Nat} {sz a F : Int} {Q : Int32 → jI → jL → Prop} (s : MR Z I0 v0 sz I a F) (h1 : F = -1 → Q 1 I L) (h2 : F ≠ -1 → Q 0 I L) : f_X12_fine v0 Z I L Q := by
  unfold f_X12_fine
  exact ⟨fun c => h2 ((not_congr (i_eq s.2.2.2.1 (show (-1 : Int32).toInt = -1 from rfl))).mp c), fun c => h1 ((i_eq s.2.2.2.1 (show (-1 : Int32).toInt = -1 from rfl)).mp c)⟩
theorem m_fault {Z : jZ} {I0 I : jI} {L : jL} {v0 uR : Nat} {sz a F : Int} {y : Int32} {Q : jI → jL → Prop} (t : MT Z I0 v0 uR sz) (s : MR Z I0 v0 sz I a F) (hF : F = -1) (h : ∀ I', MR Z I0 v0 sz I' (a) (y.toInt) → Q I' L) : f_X12_fault v0 y Z I L Q := by
  unfold f_X12_fault
  refine m_fine s (fun _ => ⟨fun c => absurd c (by decide), fun _ => ?_⟩) (fun c => absurd hF c)
  intro I9 e9
  rw [e9]
  obtain ⟨g1, g2⟩ := MR_put (j := 27) (x := y) t s (by decide) trivial
  refine h _ ⟨g1, g2, ?_, ?_, ?_, ?_⟩
  · rw [jpI_o (by decide)]; exact s.2.2.1
  · rw [jpI_at]
  · rw [jpI_o (by decide)]; exact s.2.2.2.2.1
  · rw [jpI_o (by decide)]; exact s.2.2.2.2.2
theorem m_faultD {Z : jZ} {I0 I : jI} {L : jL} {v0 : Nat} {sz a F : Int} {y : Int32} {Q : jI → jL → Prop} (s : MR Z I0 v0 sz I a F) (hF : F ≠ -1) (h : Q I L) : f_X12_fault v0 y Z I L Q := by
  unfold f_X12_fault
  exact m_fine s (fun c => absurd c hF) (fun _ => ⟨fun _ => h, fun c => absurd rfl c⟩)
theorem m_pass {Z : jZ} {I0 I : jI} {L : jL} {v0 uR : Nat} {sz a F : Int} {c : Int32} {k : Int} {Q : Int32 → jI → jL → Prop} (t : MT Z I0 v0 uR sz) (s : MR Z I0 v0 sz I a F) (hF : F = -1) (h0 : 0 ≤ a ∧ a ≤ 100) (hk : c.toInt = k) (h1 : (GS (I0 uR) (min sz 76)) a = k → ∀ I', MR Z I0 v0 sz I' (a + 1) (F) → Q 1 I' L) (h2 : (GS (I0 uR) (min sz 76)) a ≠ k → Q 0 I L) : f_X12_passes v0 c Z I L Q := by
  unfold f_X12_passes
  refine m_fine s (fun _ => ⟨fun c => absurd c (by decide), fun _ => ?_⟩) (fun c => absurd hF c)
  refine m_here t s h0.1 (fun r hr => ⟨fun e => ?_, fun e => ?_⟩)
  · intro I17 e17
    rw [e17]
    have e := (i_eq rfl hk).mp e
    exact h1 (by omega) _ (MR_at t s (by omega) (by omega))
  · have e := (not_congr (i_eq rfl hk)).mp e
    exact h2 (by omega)
theorem m_passD {Z : jZ} {I0 I : jI} {L : jL} {v0 : Nat} {sz a F : Int} {c : Int32} {Q : Int32 → jI → jL → Prop} (s : MR Z I0 v0 sz I a F) (hF : F ≠ -1) (h : Q 0 I L) : f_X12_passes v0 c Z I L Q := by
  unfold f_X12_passes
  exact m_fine s (fun c => absurd c hF) (fun _ => ⟨fun _ => h, fun c => absurd rfl c⟩)
theorem m_need {Z : jZ} {I0 I : jI} {L : jL} {v0 uR : Nat} {sz a F : Int} {c : Int32} {k : Int} {Q : jI → jL → Prop} (t : MT Z I0 v0 uR sz) (s : MR Z I0 v0 sz I a F) (hF : F = -1) (h0 : 0 ≤ a ∧ a ≤ 100) (hk : c.toInt = k) (h1 : (GS (I0 uR) (min sz 76)) a = k → ∀ I', MR Z I0 v0 sz I' (a + 1) (F) → Q I' L) (h2 : (GS (I0 uR) (min sz 76)) a ≠ k → ∀ I', MR Z I0 v0 sz I' (a) (a) → Q I' L) : f_X12_need v0 c Z I L Q := by
  unfold f_X12_need
  refine m_pass t s hF h0 hk (fun g I' s' => ⟨fun _ => h1 g I' s', fun c => absurd c (by decide)⟩) (fun g => ⟨fun c => absurd rfl c, fun _ => ?_⟩)
  refine m_fault t s hF (fun I' s' => h2 g I' ?_)
  rw [s.2.2.1] at s'
  exact s'
theorem m_needD {Z : jZ} {I0 I : jI} {L : jL} {v0 : Nat} {sz a F : Int} {c : Int32} {Q : jI → jL → Prop} (s : MR Z I0 v0 sz I a F) (hF : F ≠ -1) (h : Q I L) : f_X12_need v0 c Z I L Q := by
  unfold f_X12_need
  exact m_passD s hF ⟨fun c => absurd rfl c, fun _ => m_faultD s hF h⟩
theorem m_numberD {Z : jZ} {I0 I : jI} {L : jL} {v0 : Nat} {sz a F : Int} {v1 v2 v3 : Int32} {Q : Int32 → jI → jL → Prop} (s : MR Z I0 v0 sz I a F) (hF : F ≠ -1) (h : Q 0 I L) : f_X12_number v0 v1 v2 v3 Z I L Q := by
  unfold f_X12_number
  exact m_fine s (fun c => absurd c hF) (fun _ => ⟨fun c => absurd rfl c, fun _ => h⟩)
/-- the end of a number: d digits from a on, worth v -/
theorem m_numE {Z : jZ} {I0 I : jI} {L : jL} {v0 uR : Nat} {sz a d lo hi : Int} {v2 v3 v4 v5 : Int32} {Q : Int32 → jI → jL → Prop} (t : MT Z I0 v0 uR sz) (s : MR Z I0 v0 sz I (a + d) (-1)) (e4 : v4.toInt = a) (e2 : v2.toInt = lo) (e3 : v3.toInt = hi) (h0 : 0 ≤ a ∧ a ≤ 100) (hd : 0 ≤ d ∧ d ≤ 2)
    (h1 : 1 ≤ d → lo ≤ v5.toInt → v5.toInt ≤ hi → Q v5 I L)
    (h2 : ¬ (1 ≤ d ∧ lo ≤ v5.toInt ∧ v5.toInt ≤ hi) → ∀ I' F', F' ≠ -1 → (d = 0 → F' = a) → (1 ≤ d → F' = a + d - 1) → MR Z I0 v0 sz I' (a + d) (F') → Q 0 I' L) : f_X12_number_b71 Z Q v0 v2 v3 v4 v5 I L := by
  have bad : ∀ I' F', F' ≠ -1 → MR Z I0 v0 sz I' (a + d) (F') → Q 0 I' L → f_X12_number_b111 Z Q v0 v5 I' L := by
    intro I' F' hF s' h
    unfold f_X12_number_b111
    exact m_fine s' (fun c => absurd c hF) (fun _ => ⟨fun _ => h, fun c => absurd rfl c⟩)
  unfold f_X12_number_b71
  refine ⟨fun c => ?_, fun c => ?_⟩
  · have c := (not_congr (i_eq s.2.2.1 e4)).mp c
    refine s_X12_in s.1 v5 v2 v3 (fun r16 p16 => ⟨fun g => ?_, fun g => ?_⟩)
    · have g := (not_congr (i_eq (x := r16) (y := 0) rfl (show (0 : Int32).toInt = 0 from rfl))).mp g
      unfold f_X12_number_b111
      exact m_fine s (fun _ => ⟨fun c => absurd c (by decide), fun _ => h1 (by omega) (by omega) (by omega)⟩) (fun c => absurd rfl c)
    · have g := (i_eq (x := r16) (y := 0) rfl (show (0 : Int32).toInt = 0 from rfl)).mp g
      refine m_fault t s rfl (fun I' s' => ?_)
      have e : ((I v0 26) - (1 : Int32)).toInt = a + d - 1 := i_sub s.2.2.1 (show (1 : Int32).toInt = 1 from rfl) (by omega) (by omega)
      rw [e] at s'
      exact bad I' _ (by omega) s' (h2 (by omega) I' _ (by omega) (by omega) (fun _ => rfl) s')
  · have c := (i_eq s.2.2.1 e4).mp c
    refine m_fault t s rfl (fun I' s' => ?_)
    rw [s.2.2.1] at s'
    exact bad I' _ (by omega) s' (h2 (by omega) I' _ (by omega) (by omega) (by omega) s')
theorem m_num {Z : jZ} {I0 : jI} {L : jL} {v0 uR : Nat} {sz a lo hi : Int} {v2 v3 v4 : Int32} {Q : Int32 → jI → jL → Prop} (t : MT Z I0 v0 uR sz) (e4 : v4.toInt = a) (e2 : v2.toInt = lo) (e3 : v3.toInt = hi) (h0 : 0 ≤ a ∧ a ≤ 100)
    (h1 : 1 ≤ nd (GS (I0 uR) (min sz 76)) a ∧ lo ≤ nv (GS (I0 uR) (min sz 76)) a ∧ nv (GS (I0 uR) (min sz 76)) a ≤ hi → ∀ (r : Int32) I', r.toInt = nv (GS (I0 uR) (min sz 76)) a → MR Z I0 v0 sz I' (a + nd (GS (I0 uR) (min sz 76)) a) (-1) → Q r I' L)
    (h2 : ¬ (1 ≤ nd (GS (I0 uR) (min sz 76)) a ∧ lo ≤ nv (GS (I0 uR) (min sz 76)) a ∧ nv (GS (I0 uR) (min sz 76)) a ≤ hi) → ∀ I', MR Z I0 v0 sz I' (a + nd (GS (I0 uR) (min sz 76)) a) (nbad (GS (I0 uR) (min sz 76)) a) → Q 0 I' L) :
    ∀ (m : Nat) (v5 : Int32) (d : Int) (I : jI), MR Z I0 v0 sz I (a + d) (-1) → NI (GS (I0 uR) (min sz 76)) a d v5.toInt (a + d) → 3 - d ≤ (m : Int) → f_X12_number_L18 Z Q m v0 2 v2 v3 v4 v5 I L := by
  have nb := nbad_eq (GS (I0 uR) (min sz 76)) a
  have fin : ∀ (v5 : Int32) (d : Int) (I : jI), MR Z I0 v0 sz I (a + d) (-1) → nd (GS (I0 uR) (min sz 76)) a = d → nv (GS (I0 uR) (min sz 76)) a = v5.toInt → f_X12_number_b71 Z Q v0 v2 v3 v4 v5 I L := by
    intro v5 d I s e1 e5
    have nr := nd_rng (GS (I0 uR) (min sz 76)) a
    subst e1
    refine m_numE t s e4 e2 e3 h0 nr (fun g1 g2 g3 => h1 (by omega) v5 I e5.symm s) (fun g I' F' hF hF0 hF1 s' => h2 (by omega) I' ?_)
    have : F' = nbad (GS (I0 uR) (min sz 76)) a := by omega
    rw [← this]
    exact s'
  intro m
  induction m with
  | zero =>
    intro v5 d I s hN hm
    exfalso
    obtain ⟨-, h | h | h⟩ := hN <;> omega
  | succ m ih =>
    intro v5 d I s hN hm
    have hd : 0 ≤ d ∧ d ≤ 2 := by obtain ⟨-, h | h | h⟩ := hN <;> omega
    have hv : 0 ≤ v5.toInt ∧ v5.toInt ≤ 99 := by obtain ⟨-, h | h | h⟩ := hN <;> omega
    have e42 : (v4 + (2 : Int32)).toInt = a + 2 := i_add e4 (show (2 : Int32).toInt = 2 from rfl) (by omega) (by omega)
    unfold f_X12_number_L18
    refine ⟨fun c => ?_, fun c => ?_⟩
    · have c := (i_le e42 s.2.2.1).mp c
      obtain ⟨g1, g2, g3⟩ := NI_end hN (Or.inl (by omega))
      exact fin v5 d I s g1 g2
    have c := (not_congr (i_le e42 s.2.2.1)).mp c
    refine m_here t s (by omega) (fun r hr => ?_)
    refine s_X12_in s.1 r 48 57 (fun r44 p44 => ⟨fun g => ?_, fun g => ?_⟩)
    · have g := (i_eq (x := r44) (y := 0) rfl (show (0 : Int32).toInt = 0 from rfl)).mp g
      have z1 : (48 : Int32).toInt = 48 := rfl
      have z2 : (57 : Int32).toInt = 57 := rfl
      rw [z1, z2] at p44
      obtain ⟨g1, g2, g3⟩ := NI_end hN (Or.inr (by omega))
      exact fin v5 d I s g1 g2
    · have g := (not_congr (i_eq (x := r44) (y := 0) rfl (show (0 : Int32).toInt = 0 from rfl))).mp g
      have z1 : (48 : Int32).toInt = 48 := rfl
      have z2 : (57 : Int32).toInt = 57 := rfl
      rw [z1, z2] at p44
      refine m_here t s (by omega) (fun r2 hr2 => ?_)
      intro x53 e53 I54 e54
      rw [e54]
      have d53 : x53.toInt = v5.toInt * 10 + (GS (I0 uR) (min sz 76)) (a + d) - 48 := by
        rw [e53]
        exact (i_sub (i_add (i_mul (show (10 : Int32).toInt = 10 from rfl) (y := v5) rfl (by omega) (by omega)) (y := r2) rfl (by omega) (by omega)) (show (48 : Int32).toInt = 48 from rfl) (by omega) (by omega)).trans (by omega)
      have s1 := MR_at t s (by omega) (by omega)
      rw [show a + d + 1 = a + (d + 1) by omega] at s1
      exact ih x53 (d + 1) _ s1 (NI_step hN (by omega) (by omega) rfl d53 (by omega)) (by omega)
theorem m_number {Z : jZ} {I0 I : jI} {L : jL} {v0 uR : Nat} {sz a F : Int} {lo hi : Int} {v2 v3 : Int32} {Q : Int32 → jI → jL → Prop} (t : MT Z I0 v0 uR sz) (s : MR Z I0 v0 sz I a F) (hF : F = -1) (e2 : v2.toInt = lo) (e3 : v3.toInt = hi) (h0 : 0 ≤ a ∧ a ≤ 100)
    (h1 : 1 ≤ nd (GS (I0 uR) (min sz 76)) a ∧ lo ≤ nv (GS (I0 uR) (min sz 76)) a ∧ nv (GS (I0 uR) (min sz 76)) a ≤ hi → ∀ (r : Int32) I', r.toInt = nv (GS (I0 uR) (min sz 76)) a → MR Z I0 v0 sz I' (a + nd (GS (I0 uR) (min sz 76)) a) (-1) → Q r I' L)
    (h2 : ¬ (1 ≤ nd (GS (I0 uR) (min sz 76)) a ∧ lo ≤ nv (GS (I0 uR) (min sz 76)) a ∧ nv (GS (I0 uR) (min sz 76)) a ≤ hi) → ∀ I', MR Z I0 v0 sz I' (a + nd (GS (I0 uR) (min sz 76)) a) (nbad (GS (I0 uR) (min sz 76)) a) → Q 0 I' L) : f_X12_number v0 2 v2 v3 Z I L Q := by
  subst hF
  unfold f_X12_number
  refine m_fine s (fun _ => ⟨fun _ => ?_, fun c => absurd c (by decide)⟩) (fun c => absurd rfl c)
  intro x63 e63
  have z : (0 : Int32).toInt = 0 := rfl
  have s0 : MR Z I0 v0 sz I (a + 0) (-1) := by rw [show a + 0 = a by omega]; exact s
  exact ⟨3, m_num t (by rw [e63]; exact s.2.2.1) e2 e3 h0 h1 h2 3 0 0 I s0 (by rw [z, show a + 0 = a by omega]; exact NI_0) (by omega)⟩
/-- a family's number: one digit -/
theorem m_family {Z : jZ} {I0 I : jI} {L : jL} {v0 uR : Nat} {sz a F : Int} {Q : Int32 → jI → jL → Prop} (t : MT Z I0 v0 uR sz) (s : MR Z I0 v0 sz I a F) (hF : F = -1) (h0 : 0 ≤ a ∧ a ≤ 100)
    (h1 : 48 ≤ (GS (I0 uR) (min sz 76)) a ∧ (GS (I0 uR) (min sz 76)) a ≤ 55 → ∀ (r : Int32) I', r.toInt = (GS (I0 uR) (min sz 76)) a - 48 → MR Z I0 v0 sz I' (a + 1) (-1) → Q r I' L)
    (h2 : ¬ (48 ≤ (GS (I0 uR) (min sz 76)) a ∧ (GS (I0 uR) (min sz 76)) a ≤ 55) → ∀ I' p, MR Z I0 v0 sz I' (p) (a) → Q 0 I' L) : f_X12_number v0 1 0 7 Z I L Q := by
  subst hF
  unfold f_X12_number
  refine m_fine s (fun _ => ⟨fun _ => ?_, fun c => absurd c (by decide)⟩) (fun c => absurd rfl c)
  intro x63 e63
  have e4 : x63.toInt = a := by rw [e63]; exact s.2.2.1
  have e41 : (x63 + (1 : Int32)).toInt = a + 1 := i_add e4 (show (1 : Int32).toInt = 1 from rfl) (by omega) (by omega)
  have z : (0 : Int32).toInt = 0 := rfl
  have s0 : MR Z I0 v0 sz I (a + 0) (-1) := by rw [show a + 0 = a by omega]; exact s
  refine ⟨2, ?_⟩
  unfold f_X12_number_L18
  refine ⟨fun c => ?_, fun _ => ?_⟩
  · have c := (i_le e41 s.2.2.1).mp c
    omega
  refine m_here t s (by omega) (fun r hr => ?_)
  have z1 : (48 : Int32).toInt = 48 := rfl
  have z2 : (57 : Int32).toInt = 57 := rfl
  refine s_X12_in s.1 r 48 57 (fun r44 p44 => ⟨fun g => ?_, fun g => ?_⟩)
  · have g := (i_eq (x := r44) (y := 0) rfl (show (0 : Int32).toInt = 0 from rfl)).mp g
    rw [z1, z2] at p44
    refine m_numE (d := 0) t s0 e4 (show (0 : Int32).toInt = 0 from rfl) (show (7 : Int32).toInt = 7 from rfl) h0 (by omega) (fun q => by omega) (fun _ I' F' hF hF0 _ s' => h2 (by omega) I' (a + 0) ?_)
    rw [hF0 rfl] at s'
    exact s'
  · have g := (not_congr (i_eq (x := r44) (y := 0) rfl (show (0 : Int32).toInt = 0 from rfl))).mp g
    rw [z1, z2] at p44
    refine m_here t s (by omega) (fun r2 hr2 => ?_)
    intro x53 e53 I54 e54
    rw [e54]
    have d53 : x53.toInt = (GS (I0 uR) (min sz 76)) a - 48 := by
      rw [e53]
      exact (i_sub (i_add (i_mul (show (10 : Int32).toInt = 10 from rfl) (y := 0) z (by omega) (by omega)) (y := r2) rfl (by omega) (by omega)) (show (48 : Int32).toInt = 48 from rfl) (by omega) (by omega)).trans (by omega)
    have s1 := MR_at t s (by omega) (by omega)
    unfold f_X12_number_L18
    refine ⟨fun _ => ?_, fun c => ?_⟩
    · refine m_numE (d := 1) t s1 e4 (show (0 : Int32).toInt = 0 from rfl) (show (7 : Int32).toInt = 7 from rfl) h0 (by omega) (fun _ q1 q2 => h1 (by omega) _ _ d53 s1) (fun q I' F' hF _ hF1 s' => h2 (by omega) I' (a + 1) ?_)
      rw [show F' = a by have := hF1 (by omega); omega] at s'
      exact s'
    · exact absurd ((i_le e41 s1.2.2.1).mpr (by omega)) c
theorem MR_put28 {Z : jZ} {I0 I : jI} {v0 uR b i : Nat} {sz a F : Int} {x : Int32} (t : MT Z I0 v0 uR sz) (s : MR Z I0 v0 sz I a F) (e : jr Z v0 28 = some b) (kb : jk Z b 14) (ok : okA 12 28 i x) : MR Z I0 v0 sz (jpI I b i x) a F := by
  obtain ⟨w0, k0, -⟩ := t
  have hne : v0 ≠ b := fun q => by subst q; have := kb.2.symm.trans k0.2; omega
  refine ⟨WD_putA s.1 12 28 k0 e kb rfl rfl (by decide) ok, s.2.1.trans w0.1 w0.2.1 (FR_upA s.1.2.1 k0 e kb rfl rfl (by decide)), ?_, ?_, ?_, ?_⟩
  · rw [jpI_ne hne]; exact s.2.2.1
  · rw [jpI_ne hne]; exact s.2.2.2.1
  · rw [jpI_ne hne]; exact s.2.2.2.2.1
  · rw [jpI_ne hne]; exact s.2.2.2.2.2
set_option maxHeartbeats 1000000 in
theorem m_puts {Z : jZ} {I0 : jI} {L : jL} {v0 uR : Nat} {sz a F n : Int} {v1 v2 v3 v4 v5 v6 v7 : Int32} {Q : Int32 → jI → jL → Prop} (t : MT Z I0 v0 uR sz) (e1 : v1.toInt = n) (h2 : 0 ≤ v2.toInt ∧ v2.toInt ≤ 30) (h3 : 0 ≤ v3.toInt ∧ v3.toInt ≤ 9) (h4 : 0 ≤ v4.toInt ∧ v4.toInt ≤ 20) (h7 : 1 ≤ v7.toInt ∧ n + v7.toInt ≤ 24 ∧ 0 ≤ n)
    (hQ : ∀ (r : Int32) I', r.toInt = n + v7.toInt → MR Z I0 v0 sz I' a F → Q r I' L) :
    ∀ (m : Nat) (v8 : Int32) (I : jI), MR Z I0 v0 sz I a F → 0 ≤ v8.toInt → v8.toInt ≤ v7.toInt → v7.toInt - v8.toInt < (m : Int) → f_X12_readLine_L109 Z Q m v0 v1 v2 v3 v4 v5 v6 v7 v8 I L := by
  intro m
  induction m with
  | zero => intro v8 I s g1 g2 g3; exfalso; omega
  | succ m ih =>
    intro v8 I s g1 g2 g3
    unfold f_X12_readLine_L109
    refine ⟨fun c => ?_, fun c => ?_⟩
    · exact hQ _ I (i_add e1 rfl (by omega) (by omega)) s
    have c := (not_congr (i_le (x := v7) (y := v8) rfl rfl)).mp c
    obtain ⟨b, eb, kb, lb⟩ := sh_f s.1.1 t.2.1 (j := 28) (k := 14) (m := 120) rfl
    intro x2 e2
    have d2 : x2.toInt = 5 * (n + v8.toInt) := by
      rw [e2]
      exact i_mul (show (5 : Int32).toInt = 5 from rfl) (i_add e1 rfl (by omega) (by omega)) (by omega) (by omega)
    have n0 := i_nat d2 (by omega)
    have d21 : (x2 + (1 : Int32)).toInt = 5 * (n + v8.toInt) + 1 := i_add d2 (show (1 : Int32).toInt = 1 from rfl) (by omega) (by omega)
    have n1 := i_nat d21 (by omega)
    have d22 : (x2 + (2 : Int32)).toInt = 5 * (n + v8.toInt) + 2 := i_add d2 (show (2 : Int32).toInt = 2 from rfl) (by omega) (by omega)
    have n2 := i_nat d22 (by omega)
    have d23 : (x2 + (3 : Int32)).toInt = 5 * (n + v8.toInt) + 3 := i_add d2 (show (3 : Int32).toInt = 3 from rfl) (by omega) (by omega)
    have n3 := i_nat d23 (by omega)
    have d24 : (x2 + (4 : Int32)).toInt = 5 * (n + v8.toInt) + 4 := i_add d2 (show (4 : Int32).toInt = 4 from rfl) (by omega) (by omega)
    have n4 := i_nat d24 (by omega)
    intro b0 eb0
    cases eb.symm.trans eb0
    refine ⟨vi_of d2 (by omega) (by omega), ?_⟩
    intro J0 eJ0
    have s0 : MR Z I0 v0 sz J0 a F := by
      rw [eJ0]
      exact MR_put28 t s eb kb (show (x2.toNatClampNeg % 5 = 0 → rg 0 30 v2) ∧ (x2.toNatClampNeg % 5 = 1 → rg 0 9 v2) ∧ (x2.toNatClampNeg % 5 = 2 → rg 0 20 v2) from ⟨fun _ => h2, fun h => by omega, fun h => by omega⟩)
    intro b1 eb1
    cases eb.symm.trans eb1
    refine ⟨vi_of d21 (by omega) (by omega), ?_⟩
    intro J1 eJ1
    have s1 : MR Z I0 v0 sz J1 a F := by
      rw [eJ1]
      exact MR_put28 t s0 eb kb (show ((x2 + (1 : Int32)).toNatClampNeg % 5 = 0 → rg 0 30 v3) ∧ ((x2 + (1 : Int32)).toNatClampNeg % 5 = 1 → rg 0 9 v3) ∧ ((x2 + (1 : Int32)).toNatClampNeg % 5 = 2 → rg 0 20 v3) from ⟨fun h => by omega, fun _ => h3, fun h => by omega⟩)
    intro b2 eb2
    cases eb.symm.trans eb2
    refine ⟨vi_of d22 (by omega) (by omega), ?_⟩
    intro J2 eJ2
    have s2 : MR Z I0 v0 sz J2 a F := by
      rw [eJ2]
      exact MR_put28 t s1 eb kb (show ((x2 + (2 : Int32)).toNatClampNeg % 5 = 0 → rg 0 30 v4) ∧ ((x2 + (2 : Int32)).toNatClampNeg % 5 = 1 → rg 0 9 v4) ∧ ((x2 + (2 : Int32)).toNatClampNeg % 5 = 2 → rg 0 20 v4) from ⟨fun h => by omega, fun h => by omega, fun _ => h4⟩)
    intro b3 eb3
    cases eb.symm.trans eb3
    refine ⟨vi_of d23 (by omega) (by omega), ?_⟩
    intro J3 eJ3
    have s3 : MR Z I0 v0 sz J3 a F := by
      rw [eJ3]
      exact MR_put28 t s2 eb kb (show ((x2 + (3 : Int32)).toNatClampNeg % 5 = 0 → rg 0 30 v5) ∧ ((x2 + (3 : Int32)).toNatClampNeg % 5 = 1 → rg 0 9 v5) ∧ ((x2 + (3 : Int32)).toNatClampNeg % 5 = 2 → rg 0 20 v5) from ⟨fun h => by omega, fun h => by omega, fun h => by omega⟩)
    intro b4 eb4
    cases eb.symm.trans eb4
    refine ⟨vi_of d24 (by omega) (by omega), ?_⟩
    intro J4 eJ4
    have s4 : MR Z I0 v0 sz J4 a F := by
      rw [eJ4]
      exact MR_put28 t s3 eb kb (show ((x2 + (4 : Int32)).toNatClampNeg % 5 = 0 → rg 0 30 v6) ∧ ((x2 + (4 : Int32)).toNatClampNeg % 5 = 1 → rg 0 9 v6) ∧ ((x2 + (4 : Int32)).toNatClampNeg % 5 = 2 → rg 0 20 v6) from ⟨fun h => by omega, fun h => by omega, fun h => by omega⟩)
    intro x18 e18
    have d18 : x18.toInt = v8.toInt + 1 := by rw [e18]; exact i_add rfl (show (1 : Int32).toInt = 1 from rfl) (by omega) (by omega)
    exact ih x18 J4 s4 (by omega) (by omega) (by omega)
theorem m_line_fin {Z : jZ} {I0 I : jI} {L : jL} {v0 uR : Nat} {sz a n : Int} {v1 v2 v3 v4 v5 v6 v7 : Int32} {Q : Int32 → jI → jL → Prop} (t : MT Z I0 v0 uR sz) (s : MR Z I0 v0 sz I (a) (-1)) (e1 : v1.toInt = n) (h2 : 0 ≤ v2.toInt ∧ v2.toInt ≤ 30) (h3 : 0 ≤ v3.toInt ∧ v3.toInt ≤ 9) (h4 : 0 ≤ v4.toInt ∧ v4.toInt ≤ 20) (h7 : 1 ≤ v7.toInt ∧ n + v7.toInt ≤ 24 ∧ 0 ≤ n)
    (hQ : ∀ (r : Int32) I', r.toInt = n + v7.toInt → MR Z I0 v0 sz I' (a) (-1) → Q r I' L) : f_X12_readLine_b95 Z Q v0 v1 v2 v3 v4 v5 v6 v7 I L := by
  unfold f_X12_readLine_b95
  have z : (0 : Int32).toInt = 0 := rfl
  exact m_fine s (fun _ => ⟨fun _ => ⟨v7.toInt.toNat + 1, m_puts t e1 h2 h3 h4 h7 hQ _ 0 I s (by rw [z]; omega) (by rw [z]; omega) (by rw [z]; omega)⟩, fun c => absurd c (by decide)⟩) (fun c => absurd rfl c)
theorem m_lineE {Z : jZ} {I0 I : jI} {L : jL} {v0 uR : Nat} {sz a n : Int} {v1 v2 v3 v4 v5 s0 : Int32} {Q : Int32 → jI → jL → Prop} (t : MT Z I0 v0 uR sz) (s : MR Z I0 v0 sz I (a) (-1)) (h0 : 0 ≤ a ∧ a ≤ 99) (hn : 0 ≤ n ∧ n < 24) (e1 : v1.toInt = n) (g2 : 0 ≤ v2.toInt ∧ v2.toInt ≤ 30) (g3 : 0 ≤ v3.toInt ∧ v3.toInt ≤ 9) (g4 : 0 ≤ v4.toInt ∧ v4.toInt ≤ 20)
    (h1 : (lnE (GS (I0 uR) (min sz 76)) a n).1 = -1 → ∀ (r : Int32) I', r.toInt = n + (lnE (GS (I0 uR) (min sz 76)) a n).2.2 → MR Z I0 v0 sz I' ((lnE (GS (I0 uR) (min sz 76)) a n).2.1) (-1) → Q r I' L)
    (h2 : (lnE (GS (I0 uR) (min sz 76)) a n).1 ≠ -1 → ∀ I' a', MR Z I0 v0 sz I' (a') ((lnE (GS (I0 uR) (min sz 76)) a n).1) → Q v1 I' L) : f_X12_readLine_b70 Z Q v0 v1 v2 v3 v4 v5 s0 I L := by
  have nb := nbad_eq (GS (I0 uR) (min sz 76)) (a + 1)
  have nr := nd_rng (GS (I0 uR) (min sz 76)) (a + 1)
  unfold f_X12_readLine_b70
  refine m_pass (k := 42) t s rfl (by omega) rfl (fun g I1 s1 => ⟨fun c => absurd c (by decide), fun _ => ?_⟩) (fun g => ⟨fun _ => ?_, fun c => absurd rfl c⟩)
  · refine m_number (lo := 1) (hi := 24 - n) t s1 rfl rfl (i_sub (show (24 : Int32).toInt = 24 from rfl) e1 (by omega) (by omega)) (by omega) (fun q r I2 er s2 => ?_) (fun q I2 sD => ?_)
    · have e : lnE (GS (I0 uR) (min sz 76)) a n = (-1, a + 1 + nd (GS (I0 uR) (min sz 76)) (a + 1), nv (GS (I0 uR) (min sz 76)) (a + 1)) := by unfold lnE; rw [if_pos g, if_pos q]
      rw [e] at h1
      exact m_line_fin t s2 e1 g2 g3 g4 (by omega) (fun r' I' e' s' => h1 rfl r' I' (by rw [er] at e'; exact e') s')
    · have e : lnE (GS (I0 uR) (min sz 76)) a n = (nbad (GS (I0 uR) (min sz 76)) (a + 1), 0, 0) := by unfold lnE; rw [if_pos g, if_neg q]
      rw [e] at h2
      have hD : nbad (GS (I0 uR) (min sz 76)) (a + 1) ≠ -1 := by omega
      unfold f_X12_readLine_b95
      exact m_fine sD (fun c => absurd c hD) (fun _ => ⟨fun c => absurd rfl c, fun _ => h2 hD _ _ sD⟩)
  · have e : lnE (GS (I0 uR) (min sz 76)) a n = (-1, a, 1) := by unfold lnE; rw [if_neg g]
    rw [e] at h1
    have o1 : (1 : Int32).toInt = 1 := rfl
    exact m_line_fin t s e1 g2 g3 g4 (by rw [o1]; omega) (fun r' I' e' s' => h1 rfl r' I' (by rw [o1] at e'; exact e') s')
theorem m_line {Z : jZ} {I0 I : jI} {L : jL} {v0 uR : Nat} {sz a n : Int} {v1 : Int32} {Q : Int32 → jI → jL → Prop} (t : MT Z I0 v0 uR sz) (s : MR Z I0 v0 sz I (a) (-1)) (h0 : 0 ≤ a ∧ a ≤ 80) (hn : 0 ≤ n ∧ n < 24) (e1 : v1.toInt = n)
    (h1 : (lnA (GS (I0 uR) (min sz 76)) a n).1 = -1 → ∀ (r : Int32) I', r.toInt = n + (lnA (GS (I0 uR) (min sz 76)) a n).2.2 → MR Z I0 v0 sz I' ((lnA (GS (I0 uR) (min sz 76)) a n).2.1) (-1) → Q r I' L)
    (h2 : (lnA (GS (I0 uR) (min sz 76)) a n).1 ≠ -1 → ∀ I' a', MR Z I0 v0 sz I' (a') ((lnA (GS (I0 uR) (min sz 76)) a n).1) → Q v1 I' L) : f_X12_readLine v0 v1 Z I L Q := by
  unfold f_X12_readLine
  have s0 := s
  have nb0 := nbad_eq (GS (I0 uR) (min sz 76)) a
  have nr0 := nd_rng (GS (I0 uR) (min sz 76)) a
  refine m_number (lo := 1) (hi := 30) t s0 rfl rfl rfl (by omega) (fun g0 r0 Ia0 er0 s1 => ?_) (fun g0 Ia0 sD => ?_)
  rotate_left
  · have e : lnA (GS (I0 uR) (min sz 76)) a n = (nbad (GS (I0 uR) (min sz 76)) a, 0, 0) := by unfold lnA; rw [if_neg g0]
    rw [e] at h2
    have hD : nbad (GS (I0 uR) (min sz 76)) a ≠ -1 := by omega
    refine m_needD sD hD ?_
    refine m_numberD sD hD ?_
    refine m_needD sD hD ?_
    refine m_numberD sD hD ?_
    refine m_needD sD hD ?_
    refine m_numberD sD hD ?_
    refine m_passD sD hD ⟨fun _ => ?_, fun c => absurd rfl c⟩
    unfold f_X12_readLine_b70
    refine m_passD sD hD ⟨fun _ => ?_, fun c => absurd rfl c⟩
    unfold f_X12_readLine_b95
    exact m_fine sD (fun c => absurd c hD) (fun _ => ⟨fun c => absurd rfl c, fun _ => h2 hD _ _ sD⟩)
  refine m_need (k := 44) t s1 rfl (by omega) rfl (fun m0 J0 s2 => ?_) (fun m0 J0 sD => ?_)
  rotate_left
  · have e : lnA (GS (I0 uR) (min sz 76)) a n = (a + nd (GS (I0 uR) (min sz 76)) a, 0, 0) := by unfold lnA; rw [if_pos g0, if_neg m0]
    rw [e] at h2
    have hD : a + nd (GS (I0 uR) (min sz 76)) a ≠ -1 := by omega
    refine m_numberD sD hD ?_
    refine m_needD sD hD ?_
    refine m_numberD sD hD ?_
    refine m_needD sD hD ?_
    refine m_numberD sD hD ?_
    refine m_passD sD hD ⟨fun _ => ?_, fun c => absurd rfl c⟩
    unfold f_X12_readLine_b70
    refine m_passD sD hD ⟨fun _ => ?_, fun c => absurd rfl c⟩
    unfold f_X12_readLine_b95
    exact m_fine sD (fun c => absurd c hD) (fun _ => ⟨fun c => absurd rfl c, fun _ => h2 hD _ _ sD⟩)
  have elnA : lnA (GS (I0 uR) (min sz 76)) a n = lnB (GS (I0 uR) (min sz 76)) (a + nd (GS (I0 uR) (min sz 76)) a + 1) n := by unfold lnA; rw [if_pos g0, if_pos m0]
  rw [elnA] at h1 h2
  obtain ⟨a2, ea2⟩ : ∃ x, x = a + nd (GS (I0 uR) (min sz 76)) a + 1 := ⟨_, rfl⟩
  rw [← ea2] at h1 h2 s2
  have nb1 := nbad_eq (GS (I0 uR) (min sz 76)) a2
  have nr1 := nd_rng (GS (I0 uR) (min sz 76)) a2
  refine m_number (lo := 0) (hi := 9) t s2 rfl rfl rfl (by omega) (fun g1 r1 Ia1 er1 s3 => ?_) (fun g1 Ia1 sD => ?_)
  rotate_left
  · have e : lnB (GS (I0 uR) (min sz 76)) a2 n = (nbad (GS (I0 uR) (min sz 76)) a2, 0, 0) := by unfold lnB; rw [if_neg g1]
    rw [e] at h2
    have hD : nbad (GS (I0 uR) (min sz 76)) a2 ≠ -1 := by omega
    refine m_needD sD hD ?_
    refine m_numberD sD hD ?_
    refine m_needD sD hD ?_
    refine m_numberD sD hD ?_
    refine m_passD sD hD ⟨fun _ => ?_, fun c => absurd rfl c⟩
    unfold f_X12_readLine_b70
    refine m_passD sD hD ⟨fun _ => ?_, fun c => absurd rfl c⟩
    unfold f_X12_readLine_b95
    exact m_fine sD (fun c => absurd c hD) (fun _ => ⟨fun c => absurd rfl c, fun _ => h2 hD _ _ sD⟩)
  refine m_need (k := 44) t s3 rfl (by omega) rfl (fun m1 J1 s4 => ?_) (fun m1 J1 sD => ?_)
  rotate_left
  · have e : lnB (GS (I0 uR) (min sz 76)) a2 n = (a2 + nd (GS (I0 uR) (min sz 76)) a2, 0, 0) := by unfold lnB; rw [if_pos g1, if_neg m1]
    rw [e] at h2
    have hD : a2 + nd (GS (I0 uR) (min sz 76)) a2 ≠ -1 := by omega
    refine m_numberD sD hD ?_
    refine m_needD sD hD ?_
    refine m_numberD sD hD ?_
    refine m_passD sD hD ⟨fun _ => ?_, fun c => absurd rfl c⟩
    unfold f_X12_readLine_b70
    refine m_passD sD hD ⟨fun _ => ?_, fun c => absurd rfl c⟩
    unfold f_X12_readLine_b95
    exact m_fine sD (fun c => absurd c hD) (fun _ => ⟨fun c => absurd rfl c, fun _ => h2 hD _ _ sD⟩)
  have elnB : lnB (GS (I0 uR) (min sz 76)) a2 n = lnC (GS (I0 uR) (min sz 76)) (a2 + nd (GS (I0 uR) (min sz 76)) a2 + 1) n := by unfold lnB; rw [if_pos g1, if_pos m1]
  rw [elnB] at h1 h2
  obtain ⟨a3, ea3⟩ : ∃ x, x = a2 + nd (GS (I0 uR) (min sz 76)) a2 + 1 := ⟨_, rfl⟩
  rw [← ea3] at h1 h2 s4
  have nb2 := nbad_eq (GS (I0 uR) (min sz 76)) a3
  have nr2 := nd_rng (GS (I0 uR) (min sz 76)) a3
  refine m_number (lo := 0) (hi := 20) t s4 rfl rfl rfl (by omega) (fun g2 r2 Ia2 er2 s5 => ?_) (fun g2 Ia2 sD => ?_)
  rotate_left
  · have e : lnC (GS (I0 uR) (min sz 76)) a3 n = (nbad (GS (I0 uR) (min sz 76)) a3, 0, 0) := by unfold lnC; rw [if_neg g2]
    rw [e] at h2
    have hD : nbad (GS (I0 uR) (min sz 76)) a3 ≠ -1 := by omega
    refine m_needD sD hD ?_
    refine m_numberD sD hD ?_
    refine m_passD sD hD ⟨fun _ => ?_, fun c => absurd rfl c⟩
    unfold f_X12_readLine_b70
    refine m_passD sD hD ⟨fun _ => ?_, fun c => absurd rfl c⟩
    unfold f_X12_readLine_b95
    exact m_fine sD (fun c => absurd c hD) (fun _ => ⟨fun c => absurd rfl c, fun _ => h2 hD _ _ sD⟩)
  refine m_need (k := 64) t s5 rfl (by omega) rfl (fun m2 J2 s6 => ?_) (fun m2 J2 sD => ?_)
  rotate_left
  · have e : lnC (GS (I0 uR) (min sz 76)) a3 n = (a3 + nd (GS (I0 uR) (min sz 76)) a3, 0, 0) := by unfold lnC; rw [if_pos g2, if_neg m2]
    rw [e] at h2
    have hD : a3 + nd (GS (I0 uR) (min sz 76)) a3 ≠ -1 := by omega
    refine m_numberD sD hD ?_
    refine m_passD sD hD ⟨fun _ => ?_, fun c => absurd rfl c⟩
    unfold f_X12_readLine_b70
    refine m_passD sD hD ⟨fun _ => ?_, fun c => absurd rfl c⟩
    unfold f_X12_readLine_b95
    exact m_fine sD (fun c => absurd c hD) (fun _ => ⟨fun c => absurd rfl c, fun _ => h2 hD _ _ sD⟩)
  have elnC : lnC (GS (I0 uR) (min sz 76)) a3 n = lnD (GS (I0 uR) (min sz 76)) (a3 + nd (GS (I0 uR) (min sz 76)) a3 + 1) n := by unfold lnC; rw [if_pos g2, if_pos m2]
  rw [elnC] at h1 h2
  obtain ⟨a4, ea4⟩ : ∃ x, x = a3 + nd (GS (I0 uR) (min sz 76)) a3 + 1 := ⟨_, rfl⟩
  rw [← ea4] at h1 h2 s6
  refine m_family t s6 rfl (by omega) (fun g3 r3 Ia3 er3 s7 => ?_) (fun g3 Ia3 p3 sD => ?_)
  rotate_left
  · have e : lnD (GS (I0 uR) (min sz 76)) a4 n = (a4, 0, 0) := by unfold lnD; rw [if_neg g3]
    rw [e] at h2
    have hD : a4 ≠ -1 := by omega
    refine m_passD sD hD ⟨fun _ => ?_, fun c => absurd rfl c⟩
    unfold f_X12_readLine_b70
    refine m_passD sD hD ⟨fun _ => ?_, fun c => absurd rfl c⟩
    unfold f_X12_readLine_b95
    exact m_fine sD (fun c => absurd c hD) (fun _ => ⟨fun c => absurd rfl c, fun _ => h2 hD _ _ sD⟩)
  have elnD : lnD (GS (I0 uR) (min sz 76)) a4 n = lnE (GS (I0 uR) (min sz 76)) (a4 + 1 + (if (GS (I0 uR) (min sz 76)) (a4 + 1) = 119 then 1 else 0)) n := by unfold lnD; rw [if_pos g3]
  rw [elnD] at h1 h2
  refine m_pass (k := 119) t s7 rfl (by omega) rfl (fun hw I8 s8 => ⟨fun c => absurd c (by decide), fun _ => ?_⟩) (fun hw => ⟨fun _ => ?_, fun c => absurd rfl c⟩)
  · rw [if_pos hw] at h1 h2
    exact m_lineE t s8 (by omega) hn e1 (by omega) (by omega) (by omega) h1 h2
  · rw [if_neg hw] at h1 h2
    have s8 : MR Z I0 v0 sz Ia3 (a4 + 1 + 0) (-1) := by rw [show a4 + 1 + 0 = a4 + 1 by omega]; exact s7
    exact m_lineE t s8 (by omega) hn e1 (by omega) (by omega) (by omega) h1 h2
/-- how the lines ended -/
def ENm (g : Int → Int) (lim a F n : Int) : Prop := (F ≠ -1 ∧ (F, n) = rdS g lim 77 0 0) ∨ (F = -1 ∧ a < lim ∧ 0 ≤ a ∧ (a, n) = rdS g lim 77 0 0) ∨ (F = -1 ∧ a = lim ∧ (-1, n) = rdS g lim 77 0 0)
theorem m_lines {B : Nat × Nat} {Z : jZ} {I0 : jI} {L : jL} {v0 uR : Nat} {sz : Int} {Q : Int32 → jZ → jI → jL → Prop} (t : MT Z I0 v0 uR sz)
    (hE : ∀ (I : jI) (a F : Int) (v1 : Int32), MR Z I0 v0 sz I (a) (F) → ENm (GS (I0 uR) (min sz 76)) (min sz 76) a F v1.toInt → f_X12_stairs_b83 B Q v0 v1 Z I L) :
    ∀ (m k : Nat) (v1 : Int32) (a : Int) (I : jI), MR Z I0 v0 sz I (a) (-1) → 0 ≤ v1.toInt → v1.toInt ≤ 24 → 0 ≤ a → a ≤ min sz 76 → min sz 76 + 2 - a ≤ (m : Int) → min sz 76 + 1 - a ≤ (k : Int) → rdS (GS (I0 uR) (min sz 76)) (min sz 76) k a v1.toInt = rdS (GS (I0 uR) (min sz 76)) (min sz 76) 77 0 0 → f_X12_stairs_L39 B Q m v0 v1 1 Z I L := by
  have hg : ∀ x, min sz 76 ≤ x → (GS (I0 uR) (min sz 76)) x = -1 := fun x hx => GS_out hx
  have tz := t.2.2.2.2.2.2
  have out : ∀ (m : Nat) (v1 : Int32) (a F : Int) (I : jI), MR Z I0 v0 sz I (a) (F) → ENm (GS (I0 uR) (min sz 76)) (min sz 76) a F v1.toInt → f_X12_stairs_L39 B Q (m + 1) v0 v1 0 Z I L := by
    intro m v1 a F I s e
    unfold f_X12_stairs_L39
    exact ⟨fun _ => hE I a F v1 s e, fun c => absurd rfl c⟩
  intro m
  induction m with
  | zero => intro k v1 a I s h1 h2 h3 h4 h5 h6 hr; exfalso; omega
  | succ m ih =>
    intro k v1 a I s h1 h2 h3 h4 h5 h6 hr
    obtain ⟨m', em⟩ : ∃ m', m = m' + 1 := ⟨m - 1, by omega⟩
    obtain ⟨k', ek⟩ : ∃ k', k = k' + 1 := ⟨k - 1, by omega⟩
    subst ek
    unfold rdS at hr
    unfold f_X12_stairs_L39
    refine ⟨fun c => absurd c (by decide), fun _ => ?_⟩
    refine m_fine s (fun _ => ⟨fun c => absurd c (by decide), fun _ => ⟨fun c => ?_, fun c => ?_⟩⟩) (fun c => absurd rfl c)
    · have c := (not_congr (i_eq (x := v1) (y := 24) rfl (show (24 : Int32).toInt = 24 from rfl))).mp c
      have hn : v1.toInt < 24 := by omega
      rw [if_pos hn] at hr
      refine m_line (n := v1.toInt) t s (by omega) (by omega) rfl (fun e r I1 er s1 => ?_) (fun e I1 a1 s1 => ?_)
      · rw [if_pos e] at hr
        have ok := lnA_ok hn e h3
        have lm := lnA_lim hg h3 e
        rw [← er] at hr
        refine m_pass (k := 59) t s1 rfl (by omega) rfl (fun g I2 s2 => ?_) (fun g => ?_)
        · have := at_lim hg g (by omega)
          rw [if_pos (by omega), if_pos g] at hr
          exact ih k' r _ I2 s2 (by omega) (by omega) (by omega) (by omega) (by omega) (by omega) hr
        · rw [em]
          refine out m' r _ _ I1 s1 ?_
          by_cases q : (lnA (GS (I0 uR) (min sz 76)) a v1.toInt).2.1 < min sz 76
          · rw [if_pos q, if_neg g] at hr
            exact Or.inr (Or.inl ⟨rfl, q, by omega, hr⟩)
          · rw [if_neg q] at hr
            exact Or.inr (Or.inr ⟨rfl, by omega, hr⟩)
      · rw [if_neg e] at hr
        refine m_passD s1 e ?_
        rw [em]
        exact out m' v1 a1 _ I1 s1 (Or.inl ⟨e, hr⟩)
    · have c := (i_eq (x := v1) (y := 24) rfl (show (24 : Int32).toInt = 24 from rfl)).mp c
      rw [if_neg (by omega)] at hr
      refine m_fault t s rfl (fun I1 s1 => ?_)
      rw [s.2.2.1] at s1
      exact hE I1 a a v1 s1 (Or.inl ⟨by omega, hr⟩)
theorem m_b83 {B : Nat × Nat} {Z : jZ} {I0 I : jI} {L : jL} {v0 uR : Nat} {sz a F : Int} {v1 : Int32} {Q : Int32 → jZ → jI → jL → Prop} (t : MT Z I0 v0 uR sz) (s : MR Z I0 v0 sz I (a) (F)) (hz : 0 < sz) (e : ENm (GS (I0 uR) (min sz 76)) (min sz 76) a F v1.toInt)
    (h1 : ∀ (r : Int32) I' a' F', MR Z I0 v0 sz I' (a') (F') → r.toInt = stA (I0 uR) sz → r.toInt < 0 → Q r Z I' L)
    (h2 : ∀ I' a' F', MR Z I0 v0 sz I' (a') (F') → v1.toInt = stA (I0 uR) sz → 2 ≤ v1.toInt → ∀ I66, I66 = jpI I' v0 0 v1 → ∃ m131, f_X12_stairs_L131 B Q m131 v0 v1 0 Z I66 L) : f_X12_stairs_b83 B Q v0 v1 Z I L := by
  have hlo := rdS_lo (g := (GS (I0 uR) (min sz 76))) (lim := min sz 76) 77 0 0 (by omega)
  have b102 : ∀ I' a' F', -1 ≤ F' → MR Z I0 v0 sz I' (a') (F') → stA (I0 uR) sz = (if F' = -1 then (if 2 ≤ v1.toInt then v1.toInt else -100) else -1 - F') → f_X12_stairs_b102 B Q v0 v1 Z I' L := by
    intro I' a' F' hF s' e'
    unfold f_X12_stairs_b102
    refine m_fine s' (fun c => ⟨fun _ => ⟨fun c1 => ?_, fun c1 => ?_⟩, fun c => absurd c (by decide)⟩) (fun c => ⟨fun c1 => absurd rfl c1, fun _ => ?_⟩)
    · have c1 := (i_le (x := 2) (y := v1) (show (2 : Int32).toInt = 2 from rfl) rfl).mp c1
      rw [if_pos c, if_pos c1] at e'
      exact h2 I' a' F' s' e'.symm c1
    · have c1 := (not_congr (i_le (x := 2) (y := v1) (show (2 : Int32).toInt = 2 from rfl) rfl)).mp c1
      rw [if_pos c, if_neg c1] at e'
      exact h1 _ I' a' F' s' e'.symm (by decide)
    · rw [if_neg c] at e'
      have rr := i_rng (I' v0 27)
      have sF := s'.2.2.2.1
      have ei : ((-1 : Int32) - (I' v0 27)).toInt = -1 - F' := i_sub (show (-1 : Int32).toInt = -1 from rfl) sF (by omega) (by omega)
      exact h1 _ I' a' F' s' (ei.trans e'.symm) (by omega)
  have hS : stA (I0 uR) sz = (if (rdS (GS (I0 uR) (min sz 76)) (min sz 76) 77 0 0).1 = -1 then (if sz ≤ 76 then (if 2 ≤ (rdS (GS (I0 uR) (min sz 76)) (min sz 76) 77 0 0).2 then (rdS (GS (I0 uR) (min sz 76)) (min sz 76) 77 0 0).2 else -100) else -77) else -1 - (rdS (GS (I0 uR) (min sz 76)) (min sz 76) 77 0 0).1) := by
    unfold stA
    rw [if_neg (by omega)]
  have s4 := s.2.2.2.2.1
  unfold f_X12_stairs_b83
  refine ⟨fun c => ?_, fun c => ?_⟩
  · have c := (i_le s4 s.2.2.1).mp c
    rcases e with ⟨q1, q2⟩ | ⟨q1, q2, q0, q3⟩ | ⟨q1, q2, q3⟩
    · rw [← q2] at hS hlo
      exact b102 I a F hlo s (by rw [hS, if_neg q1, if_neg q1])
    · omega
    · rw [← q3] at hS
      exact b102 I a F (by omega) s (by rw [hS, if_pos rfl, if_pos q1, if_pos (by omega)])
  · have c := (not_congr (i_le s4 s.2.2.1)).mp c
    rcases e with ⟨q1, q2⟩ | ⟨q1, q2, q0, q3⟩ | ⟨q1, q2, q3⟩
    · rw [← q2] at hS hlo
      exact m_faultD s q1 (b102 I a F hlo s (by rw [hS, if_neg q1, if_neg q1]))
    · rw [← q3] at hS
      refine m_fault t s q1 (fun I' s' => ?_)
      rw [s.2.2.1] at s'
      refine b102 I' a a (by omega) s' ?_
      have q : ¬ a = -1 := by omega
      rw [hS, if_neg q, if_neg q]
    · rw [← q3] at hS
      refine m_fault t s q1 (fun I' s' => ?_)
      rw [s.2.2.1] at s'
      refine b102 I' a a (by omega) s' ?_
      rw [hS, if_pos rfl, if_neg (by omega), if_neg (by omega)]
      omega
end
section
/-! ===== sign: the text's signs on both sides ===== -/
theorem a_L16 {Z : jZ} {I0 : jI} {v0 uB s0 : Nat} {v1 : Int32} {Q : Int32 → jI → jL → Prop} (w0 : WD Z I0) (k0 : jk Z v0 10) (hB : jr Z v0 0 = some uB) (kB : jk Z uB 13) (h80 : s0 + 4 ≤ 80)
    (hQ : ∀ (I' : jI) (L' : jL), WD Z I' → FR Ws_X10_append Z I0 Z I' → (I' v0 1).toInt = (s0 : Int) + 4 → I' uB = apk (I0 uB) s0 v1 4 → Q 1 I' L') :
    ∀ (m k : Nat) (v2 : Int32) (I : jI) (L : jL), WD Z I → FR Ws_X10_append Z I0 Z I → (I v0 1).toInt = (s0 : Int) + (k : Int) → I uB = apk (I0 uB) s0 v1 k → k ≤ 4 → v2.toInt = 24 - 8 * (k : Int) → 5 ≤ m + k → f_X10_append_L16 Z Q m v0 v1 v2 I L := by
  have hne : v0 ≠ uB := fun e => by subst e; have := k0.2.symm.trans kB.2; omega
  intro m
  induction m with
  | zero => intro k v2 I L w f e1 e2 h1 h2 h3; exfalso; omega
  | succ m ih =>
    intro k v2 I L w f e1 e2 h1 h2 h3
    unfold f_X10_append_L16
    refine ⟨fun c => ?_, fun c => ?_⟩
    · have c := (i_lt h2 (show (0 : Int32).toInt = 0 from rfl)).mp c
      have hk : k = 4 := by omega
      subst hk
      exact hQ I L w f e1 e2
    have c := (not_congr (i_lt h2 (show (0 : Int32).toInt = 0 from rfl))).mp c
    intro b2 eb2
    cases hB.symm.trans eb2
    refine ⟨vi_of e1 (by omega) (by omega), ?_⟩
    intro I4 e4 I5 e5 x6 e6
    have ix : (I v0 1).toNatClampNeg = s0 + k := by have := i_nat e1 (by omega); omega
    have w4 : WD Z I4 := by rw [e4]; exact WD_putA w 10 0 k0 hB kB rfl rfl (by decide) trivial
    have f4 : FR Ws_X10_append Z I Z I4 := by rw [e4]; exact FR_upA w.2.1 k0 hB kB rfl rfl (by decide)
    have z4 : I4 v0 1 = I v0 1 := by rw [e4, jpI_ne hne]
    have d4 : ((I4 v0 1) + (1 : Int32)).toInt = (s0 : Int) + (k : Int) + 1 := by rw [z4]; exact i_add e1 (show (1 : Int32).toInt = 1 from rfl) (by omega) (by omega)
    have w5 : WD Z I5 := by rw [e5]; exact WD_putF w4 10 1 k0 (by decide) (by decide) (show rg 0 80 _ from ⟨by omega, by omega⟩)
    have f5 : FR Ws_X10_append Z I4 Z I5 := by rw [e5]; exact FR_putF k0 (by decide) (by decide)
    have d6 : x6.toInt = 24 - 8 * ((k + 1 : Nat) : Int) := by rw [e6]; exact (i_add h2 (show (-8 : Int32).toInt = -8 from rfl) (by omega) (by omega)).trans (by omega)
    refine ih (k + 1) x6 I5 L w5 ((f.trans w0.1 w0.2.1 f4).trans w0.1 w0.2.1 f5) ?_ ?_ (by omega) d6 (by omega)
    · rw [e5, jpI_at, d4]; omega
    · rw [e5, jpI_ne hne.symm, e4, ix]
      exact apk_step e2 (by omega) h2
/-- what sign does to the class's text -/
def SGc (f f' : Nat → Int32) (s s' : Int) (v r : Int32) : Prop := (r.toInt = s + 4 ∧ s + 4 ≤ 80 ∧ s' = s + 4 ∧ f' = apk f s.toNat v 4) ∨ (r.toInt = -1 ∧ 80 < s + 4 ∧ s' = s ∧ f' = f)
theorem a_sign {Z : jZ} {I : jI} {L : jL} (w : WD Z I) (v0 : Nat) (v1 : Int32) (kv0 : jk Z v0 11) (uT : Nat) (huT : jr Z v0 0 = some uT) (uB : Nat) (huB : jr Z uT 0 = some uB) {Q : Int32 → jI → jL → Prop} (hQ : ∀ (r : Int32) (I' : jI) (L' : jL), WD Z I' → FR Ws_X11_sign Z I Z I' → SGc (I uB) (I' uB) (I uT 1).toInt (I' uT 1).toInt v1 r → Q r I' L') : f_X11_sign v0 v1 Z I L Q := by
  have kuT : jk Z uT 10 := by obtain ⟨b9, e9, k9⟩ := sh_o w.1 kv0 (j := 0) (k := 10) rfl; cases huT.symm.trans e9; exact k9
  obtain ⟨b9, e9, kuB, l9⟩ := sh_f w.1 kuT (j := 0) (k := 13) (m := 80) rfl
  cases huB.symm.trans e9
  have sz : 0 ≤ (I uT 1).toInt ∧ (I uT 1).toInt ≤ 80 := w.fld 10 1 kuT (by decide)
  have nn : (((I uT 1).toInt.toNat : Nat) : Int) = (I uT 1).toInt := by omega
  unfold f_X11_sign
  intro b1 eb1
  cases huT.symm.trans eb1
  unfold f_X10_append
  have e4 : ((I uT 1) + (4 : Int32)).toInt = (I uT 1).toInt + 4 := i_add rfl (show (4 : Int32).toInt = 4 from rfl) (by omega) (by omega)
  refine ⟨fun c => ?_, fun c => ?_⟩
  · have c := (i_le e4 (show (80 : Int32).toInt = 80 from rfl)).mp c
    refine ⟨5, a_L16 (s0 := (I uT 1).toInt.toNat) w kuT huB kuB (by omega) (fun I' L' w' f' g1 g2 => ⟨fun e => absurd e (by decide), fun _ => ?_⟩) 5 0 24 I L w FR.rf (by omega) apk_0.symm (by omega) rfl (by omega)⟩
    intro b10 eb10
    cases huT.symm.trans eb10
    exact hQ _ I' L' w' (f'.mono (by decide)) (Or.inl ⟨by omega, c, by omega, g2⟩)
  · have c := (not_congr (i_le e4 (show (80 : Int32).toInt = 80 from rfl))).mp c
    exact ⟨fun _ => hQ _ I L w FR.rf (Or.inr ⟨rfl, by omega, rfl, rfl⟩), fun e => absurd rfl e⟩
theorem a_L20 {Z : jZ} {I0 : jI} {v0 uB s0 : Nat} {v1 : Int32} {Q : Int32 → jI → jL → Prop} (w0 : WD Z I0) (k0 : jk Z v0 12) (hB : jr Z v0 18 = some uB) (kB : jk Z uB 13) (h80 : s0 + 4 ≤ 80)
    (hQ : ∀ (r : Int32) (I' : jI) (L' : jL), WD Z I' → FR Ws_X12_sign Z I0 Z I' → r.toInt = (s0 : Int) + 4 → (I' v0 19).toInt = (s0 : Int) + 4 → I' uB = apk (I0 uB) s0 v1 4 → Q r I' L') :
    ∀ (m k : Nat) (v2 : Int32) (I : jI) (L : jL), WD Z I → FR Ws_X12_sign Z I0 Z I → (I v0 19).toInt = (s0 : Int) + (k : Int) → I uB = apk (I0 uB) s0 v1 k → k ≤ 4 → v2.toInt = 3 - (k : Int) → 5 ≤ m + k → f_X12_sign_L20 Z Q m v0 v1 v2 I L := by
  have hne : v0 ≠ uB := fun e => by subst e; have := k0.2.symm.trans kB.2; omega
  intro m
  induction m with
  | zero => intro k v2 I L w f e1 e2 h1 h2 h3; exfalso; omega
  | succ m ih =>
    intro k v2 I L w f e1 e2 h1 h2 h3
    unfold f_X12_sign_L20
    refine ⟨fun c => ?_, fun c => ?_⟩
    · have c := (i_lt h2 (show (0 : Int32).toInt = 0 from rfl)).mp c
      have hk : k = 4 := by omega
      subst hk
      exact hQ _ I L w f e1 e1 e2
    have c := (not_congr (i_lt h2 (show (0 : Int32).toInt = 0 from rfl))).mp c
    intro b2 eb2
    cases hB.symm.trans eb2
    intro I3 e3
    refine ⟨vi_of e1 (by omega) (by omega), ?_⟩
    intro I5 e5 x6 e6
    have ix : (I v0 19).toNatClampNeg = s0 + k := by have := i_nat e1 (by omega); omega
    have d3 : ((I v0 19) + (1 : Int32)).toInt = (s0 : Int) + (k : Int) + 1 := i_add e1 (show (1 : Int32).toInt = 1 from rfl) (by omega) (by omega)
    have w3 : WD Z I3 := by rw [e3]; exact WD_putF w 12 19 k0 (by decide) (by decide) (show rg 0 80 _ from ⟨by omega, by omega⟩)
    have f3 : FR Ws_X12_sign Z I Z I3 := by rw [e3]; exact FR_putF k0 (by decide) (by decide)
    have w5 : WD Z I5 := by rw [e5]; exact WD_putA w3 12 18 k0 hB kB rfl rfl (by decide) trivial
    have f5 : FR Ws_X12_sign Z I3 Z I5 := by rw [e5]; exact FR_upA w3.2.1 k0 hB kB rfl rfl (by decide)
    have d6 : x6.toInt = 3 - ((k + 1 : Nat) : Int) := by rw [e6]; exact (i_add h2 (show (-1 : Int32).toInt = -1 from rfl) (by omega) (by omega)).trans (by omega)
    have d8 : ((8 : Int32) * v2).toInt = 24 - 8 * (k : Int) := (i_mul (show (8 : Int32).toInt = 8 from rfl) h2 (by omega) (by omega)).trans (by omega)
    refine ih (k + 1) x6 I5 L w5 ((f.trans w0.1 w0.2.1 f3).trans w0.1 w0.2.1 f5) ?_ ?_ (by omega) d6 (by omega)
    · rw [e5, jpI_ne hne, e3, jpI_at, d3]; omega
    · rw [e5, ix]
      exact apk_step (by rw [e3, jpI_ne hne.symm]; exact e2) (by omega) d8
theorem m_sign {Z : jZ} {I : jI} {L : jL} (w : WD Z I) (v0 : Nat) (v1 : Int32) (kv0 : jk Z v0 12) (uM : Nat) (huM : jr Z v0 18 = some uM) {Q : Int32 → jI → jL → Prop} (hQ : ∀ (r : Int32) (I' : jI) (L' : jL), WD Z I' → FR Ws_X12_sign Z I Z I' → SGc (I uM) (I' uM) (I v0 19).toInt (I' v0 19).toInt v1 r → Q r I' L') : f_X12_sign v0 v1 Z I L Q := by
  obtain ⟨b9, e9, kuM, l9⟩ := sh_f w.1 kv0 (j := 18) (k := 13) (m := 80) rfl
  cases huM.symm.trans e9
  have hne : v0 ≠ uM := fun e => by subst e; have := kv0.2.symm.trans kuM.2; omega
  have sz : 0 ≤ (I v0 19).toInt ∧ (I v0 19).toInt ≤ 80 := w.fld 12 19 kv0 (by decide)
  unfold f_X12_sign
  intro I7 e7
  have w7 : WD Z I7 := by rw [e7]; exact WD_putF w 12 22 kv0 (by decide) (by decide) trivial
  have f7 : FR Ws_X12_sign Z I Z I7 := by rw [e7]; exact FR_putF kv0 (by decide) (by decide)
  have z7 : I7 v0 19 = I v0 19 := by rw [e7, jpI_o (by decide)]
  have b7 : I7 uM = I uM := by rw [e7, jpI_ne hne.symm]
  rw [z7]
  have e4 : ((I v0 19) + (4 : Int32)).toInt = (I v0 19).toInt + 4 := i_add rfl (show (4 : Int32).toInt = 4 from rfl) (by omega) (by omega)
  refine ⟨fun c => ?_, fun c => ?_⟩
  · have c := (i_le e4 (show (80 : Int32).toInt = 80 from rfl)).mp c
    refine ⟨5, a_L20 (s0 := (I v0 19).toInt.toNat) w7 kv0 huM kuM (by omega) (fun r I' L' w' f' g0 g1 g2 => ?_) 5 0 3 I7 L w7 FR.rf (by rw [z7]; omega) apk_0.symm (by omega) rfl (by omega)⟩
    rw [b7] at g2
    exact hQ r I' L' w' (f7.trans w.1 w.2.1 f') (Or.inl ⟨by omega, c, by omega, g2⟩)
  · have c := (not_congr (i_le e4 (show (80 : Int32).toInt = 80 from rfl))).mp c
    exact hQ _ I7 L w7 f7 (Or.inr ⟨rfl, by omega, by rw [z7], b7⟩)
/-- both texts are alike -/
def TBr (I : jI) (uT uB v2 uM : Nat) : Prop := (I uT 1).toInt = (I v2 19).toInt ∧ BY (I uB) ∧ ∀ i : Nat, (i : Int) < (I uT 1).toInt → I uB i = I uM i
theorem TBr_sign {I I' I'' : jI} {uT uB v2 uM : Nat} {v r1 r2 : Int32} (h : TBr I uT uB v2 uM) (h1 : SGc (I uB) (I' uB) (I uT 1).toInt (I' uT 1).toInt v r1) (h2 : SGc (I' uM) (I'' uM) (I' v2 19).toInt (I'' v2 19).toInt v r2) (e1 : I' uM = I uM) (e2 : I' v2 19 = I v2 19) (e3 : I'' uB = I' uB) (e4 : I'' uT 1 = I' uT 1) (h0 : 0 ≤ (I uT 1).toInt) : TBr I'' uT uB v2 uM ∧ r1.toInt = r2.toInt := by
  obtain ⟨g1, g2, g3⟩ := h
  rw [e1, e2] at h2
  unfold TBr
  rw [e3, e4]
  rcases h1 with ⟨a1, a2, a3, a4⟩ | ⟨a1, a2, a3, a4⟩
  · rcases h2 with ⟨b1, b2, b3, b4⟩ | ⟨b1, b2, b3, b4⟩
    · refine ⟨⟨by omega, by rw [a4]; exact apk_BY g2, fun i hi => ?_⟩, by omega⟩
      rw [a4, b4, show (I v2 19).toInt.toNat = (I uT 1).toInt.toNat by omega]
      unfold apk
      by_cases c : (I uT 1).toInt.toNat ≤ i ∧ i < (I uT 1).toInt.toNat + 4
      · rw [if_pos c, if_pos c]
      · rw [if_neg c, if_neg c]
        exact g3 i (by omega)
    · omega
  · rcases h2 with ⟨b1, b2, b3, b4⟩ | ⟨b1, b2, b3, b4⟩
    · omega
    · refine ⟨⟨by omega, by rw [a4]; exact g2, fun i hi => ?_⟩, by omega⟩
      rw [a4, b4]
      exact g3 i (by omega)
theorem TBr_fr {W : List (Nat × Nat)} {Z Z' : jZ} {I I' : jI} {uT uB v2 uM : Nat} (f : FR W Z I Z' I') (kT : jk Z uT 10) (hB : jr Z uT 0 = some uB) (kB : jk Z uB 13) (k2 : jk Z v2 12) (hM : jr Z v2 18 = some uM) (kM : jk Z uM 13) (h1 : (10, 1) ∉ W) (h2 : (10, 0) ∉ W) (h3 : (12, 19) ∉ W) (h4 : (12, 18) ∉ W) (h : TBr I uT uB v2 uM) : TBr I' uT uB v2 uM := by
  unfold TBr
  rw [f.2.2.1 uT 10 1 kT (by decide) h1, f.2.2.1 v2 12 19 k2 (by decide) h3, f.2.2.2 uT 10 0 uB kT hB (by rw [kB.2]; rfl) rfl h2, f.2.2.2 v2 12 18 uM k2 hM (by rw [kM.2]; rfl) rfl h4]
  exact h
theorem TBr_cut {I I' : jI} {uT uB v2 uM : Nat} (h : TBr I uT uB v2 uM) (e1 : I' uB = I uB) (e2 : I' uM = I uM) (e3 : (I' uT 1).toInt = (I' v2 19).toInt) (e4 : (I' uT 1).toInt ≤ (I uT 1).toInt) : TBr I' uT uB v2 uM :=
  ⟨e3, by rw [e1]; exact h.2.1, fun i hi => by rw [e1, e2]; exact h.2.2 i (by omega)⟩
theorem stA_cong {f g : Nat → Int32} {s : Int} (h : ∀ i : Nat, (i : Int) < s → f i = g i) : stA f s = stA g s := by
  unfold stA
  rw [GS_cong (f := f) (g := g) (s := s) (lim := min s 76) (by omega) h]
theorem s10_X9_read {Z : jZ} {I : jI} {L : jL} (w : WD Z I) (v0 v1 : Nat) (kv0 : jk Z v0 9) (kv1 : jk Z v1 10) (uB : Nat) (huB : jr Z v1 0 = some uB) (p0 : BY (I uB)) {Q : Int32 → jI → jL → Prop} (hQ : ∀ (r : Int32) (I' : jI) (L' : jL), WD Z I' → FR Ws_X9_read Z I Z I' → (r.toInt = stA (I uB) (I v1 1).toInt ∧ (0 ≤ r.toInt → (I' v0 5).toInt = r.toInt)) → Q r I' L') : f_X9_read v0 v1 Z I L Q := by
  obtain ⟨b9, e9, kuB, l9⟩ := sh_f w.1 kv1 (j := 0) (k := 13) (m := 80) rfl
  cases huB.symm.trans e9
  exact r_read w kv0 kv1 huB kuB p0 (fun r I' L' w' f' e e2 => hQ r I' L' w' f' ⟨e, e2⟩)

set_option maxHeartbeats 4000000 in
set_option maxRecDepth 100000 in
theorem s10_X8_build {Z : jZ} {I : jI} {L : jL} (w_I : WD Z I) (v0 : Nat) (v1 : Nat) (kv0 : jk Z v0 8) (kv1 : jk Z v1 9) {Q : jI → jL → Prop} (hQ : ∀  (I' : jI) (L' : jL), WD Z I' → FR Ws_X8_build Z I Z I' → ((I' v0 9).toInt = (I v1 5).toInt) → Q I' L') : f_X8_build v0 v1 Z I L Q := by
  unfold f_X8_build
  have q_I : FR Ws_X8_build Z I Z I := FR.rf
  have t1 : 0 ≤ (I v0 9).toInt ∧ (I v0 9).toInt ≤ 24 := w_I.fld 8 9 kv0 (by decide)
  have t3 : 0 ≤ (I v1 5).toInt ∧ (I v1 5).toInt ≤ 24 := w_I.fld 9 5 kv1 (by decide)
  intro I4 eI4
  have w_I4 : WD Z I4 := by rw [eI4]; exact WD_putF w_I 8 9 kv0 (by decide) (by decide) (by constructor <;> omega)
  have f_I4 : FR [(8, 9)] Z I Z I4 := by rw [eI4]; exact FR_putF kv0 (by decide) List.mem_cons_self
  have q_I4 : FR Ws_X8_build Z I Z I4 := q_I.trans w_I.1 w_I.2.1 (f_I4.mono (by decide))
  have u5 : (I4 v1 5).toInt = (I v1 5).toInt := by rw [f_I4.2.2.1 v1 9 5 kv1 (by decide) (by decide)]
  first | (have u6 : (I4 v0 9).toInt = (I v1 5).toInt := by (rw [eI4, show jpI I v0 9 (I v1 5) v0 9 = (I v1 5) from jpI_at] <;> exact rfl)) | skip
  intro b7 eb7
  obtain ⟨x8, ex8, kb7, lb7⟩ := sh_f w_I4.1 kv1 (j := 0) (k := 14) (m := 24) rfl
  cases eb7.symm.trans ex8
  intro b9 eb9
  obtain ⟨x10, ex10, kb9, lb9⟩ := sh_f w_I4.1 kv0 (j := 0) (k := 14) (m := 24) rfl
  cases eb9.symm.trans ex10
  have t11 : (0 : Int32).toInt = 0 := rfl
  have t12 : (0 : Int32).toInt = 0 := rfl
  have t13 : (24 : Int32).toInt = 24 := rfl
  have t14 := i_nat (x := (0 : Int32)) (show (0 : Int32).toInt = 0 from rfl) (by omega)
  have t15 := i_nat (x := (0 : Int32)) (show (0 : Int32).toInt = 0 from rfl) (by omega)
  have t16 := i_nat (x := (24 : Int32)) (show (24 : Int32).toInt = 24 from rfl) (by omega)
  refine ⟨⟨(not_congr (i_lt (show (0 : Int32).toInt = 0 from rfl) (show (0 : Int32).toInt = 0 from rfl))).mpr (by omega), (not_congr (i_lt (show (0 : Int32).toInt = 0 from rfl) (show (0 : Int32).toInt = 0 from rfl))).mpr (by omega), (not_congr (i_lt (show (24 : Int32).toInt = 24 from rfl) (show (0 : Int32).toInt = 0 from rfl))).mpr (by omega), by omega, by omega⟩, ?_⟩
  intro I17 eI17
  have w_I17 : WD Z I17 := by rw [eI17]; exact WD_cpy w_I4 8 0 kv0 eb9 kb9 rfl rfl (by decide) (fun _ _ _ => trivial)
  have f_I17 : FR [(8, 0)] Z I4 Z I17 := by rw [eI17]; exact FR_upA w_I4.2.1 kv0 eb9 kb9 rfl rfl List.mem_cons_self
  have q_I17 : FR Ws_X8_build Z I Z I17 := q_I4.trans w_I.1 w_I.2.1 (f_I17.mono (by decide))
  have u18 : (I17 v1 5).toInt = (I4 v1 5).toInt := by rw [f_I17.2.2.1 v1 9 5 kv1 (by decide) (by decide)]
  have u19 : (I17 v0 9).toInt = (I4 v0 9).toInt := by rw [f_I17.2.2.1 v0 8 9 kv0 (by decide) (by decide)]
  intro b20 eb20
  obtain ⟨x21, ex21, kb20, lb20⟩ := sh_f w_I17.1 kv1 (j := 1) (k := 14) (m := 24) rfl
  cases eb20.symm.trans ex21
  intro b22 eb22
  obtain ⟨x23, ex23, kb22, lb22⟩ := sh_f w_I17.1 kv0 (j := 1) (k := 14) (m := 24) rfl
  cases eb22.symm.trans ex23
  have t24 : (0 : Int32).toInt = 0 := rfl
  have t25 : (0 : Int32).toInt = 0 := rfl
  have t26 : (24 : Int32).toInt = 24 := rfl
  have t27 := i_nat (x := (0 : Int32)) (show (0 : Int32).toInt = 0 from rfl) (by omega)
  have t28 := i_nat (x := (0 : Int32)) (show (0 : Int32).toInt = 0 from rfl) (by omega)
  have t29 := i_nat (x := (24 : Int32)) (show (24 : Int32).toInt = 24 from rfl) (by omega)
  refine ⟨⟨(not_congr (i_lt (show (0 : Int32).toInt = 0 from rfl) (show (0 : Int32).toInt = 0 from rfl))).mpr (by omega), (not_congr (i_lt (show (0 : Int32).toInt = 0 from rfl) (show (0 : Int32).toInt = 0 from rfl))).mpr (by omega), (not_congr (i_lt (show (24 : Int32).toInt = 24 from rfl) (show (0 : Int32).toInt = 0 from rfl))).mpr (by omega), by omega, by omega⟩, ?_⟩
  intro I30 eI30
  have w_I30 : WD Z I30 := by rw [eI30]; exact WD_cpy w_I17 8 1 kv0 eb22 kb22 rfl rfl (by decide) (fun _ _ _ => trivial)
  have f_I30 : FR [(8, 1)] Z I17 Z I30 := by rw [eI30]; exact FR_upA w_I17.2.1 kv0 eb22 kb22 rfl rfl List.mem_cons_self
  have q_I30 : FR Ws_X8_build Z I Z I30 := q_I17.trans w_I.1 w_I.2.1 (f_I30.mono (by decide))
  have u31 : (I30 v1 5).toInt = (I17 v1 5).toInt := by rw [f_I30.2.2.1 v1 9 5 kv1 (by decide) (by decide)]
  have u32 : (I30 v0 9).toInt = (I17 v0 9).toInt := by rw [f_I30.2.2.1 v0 8 9 kv0 (by decide) (by decide)]
  intro b33 eb33
  obtain ⟨x34, ex34, kb33, lb33⟩ := sh_f w_I30.1 kv1 (j := 2) (k := 14) (m := 24) rfl
  cases eb33.symm.trans ex34
  intro b35 eb35
  obtain ⟨x36, ex36, kb35, lb35⟩ := sh_f w_I30.1 kv0 (j := 2) (k := 14) (m := 24) rfl
  cases eb35.symm.trans ex36
  have t37 : (0 : Int32).toInt = 0 := rfl
  have t38 : (0 : Int32).toInt = 0 := rfl
  have t39 : (24 : Int32).toInt = 24 := rfl
  have t40 := i_nat (x := (0 : Int32)) (show (0 : Int32).toInt = 0 from rfl) (by omega)
  have t41 := i_nat (x := (0 : Int32)) (show (0 : Int32).toInt = 0 from rfl) (by omega)
  have t42 := i_nat (x := (24 : Int32)) (show (24 : Int32).toInt = 24 from rfl) (by omega)
  refine ⟨⟨(not_congr (i_lt (show (0 : Int32).toInt = 0 from rfl) (show (0 : Int32).toInt = 0 from rfl))).mpr (by omega), (not_congr (i_lt (show (0 : Int32).toInt = 0 from rfl) (show (0 : Int32).toInt = 0 from rfl))).mpr (by omega), (not_congr (i_lt (show (24 : Int32).toInt = 24 from rfl) (show (0 : Int32).toInt = 0 from rfl))).mpr (by omega), by omega, by omega⟩, ?_⟩
  intro I43 eI43
  have w_I43 : WD Z I43 := by rw [eI43]; exact WD_cpy w_I30 8 2 kv0 eb35 kb35 rfl rfl (by decide) (fun q h1 h2 => w_I30.arr 9 2 kv1 eb33 kb33 rfl rfl _)
  have f_I43 : FR [(8, 2)] Z I30 Z I43 := by rw [eI43]; exact FR_upA w_I30.2.1 kv0 eb35 kb35 rfl rfl List.mem_cons_self
  have q_I43 : FR Ws_X8_build Z I Z I43 := q_I30.trans w_I.1 w_I.2.1 (f_I43.mono (by decide))
  have u44 : (I43 v1 5).toInt = (I30 v1 5).toInt := by rw [f_I43.2.2.1 v1 9 5 kv1 (by decide) (by decide)]
  have u45 : (I43 v0 9).toInt = (I30 v0 9).toInt := by rw [f_I43.2.2.1 v0 8 9 kv0 (by decide) (by decide)]
  intro b46 eb46
  obtain ⟨x47, ex47, kb46, lb46⟩ := sh_f w_I43.1 kv1 (j := 3) (k := 14) (m := 24) rfl
  cases eb46.symm.trans ex47
  intro b48 eb48
  obtain ⟨x49, ex49, kb48, lb48⟩ := sh_f w_I43.1 kv0 (j := 3) (k := 14) (m := 24) rfl
  cases eb48.symm.trans ex49
  have t50 : (0 : Int32).toInt = 0 := rfl
  have t51 : (0 : Int32).toInt = 0 := rfl
  have t52 : (24 : Int32).toInt = 24 := rfl
  have t53 := i_nat (x := (0 : Int32)) (show (0 : Int32).toInt = 0 from rfl) (by omega)
  have t54 := i_nat (x := (0 : Int32)) (show (0 : Int32).toInt = 0 from rfl) (by omega)
  have t55 := i_nat (x := (24 : Int32)) (show (24 : Int32).toInt = 24 from rfl) (by omega)
  refine ⟨⟨(not_congr (i_lt (show (0 : Int32).toInt = 0 from rfl) (show (0 : Int32).toInt = 0 from rfl))).mpr (by omega), (not_congr (i_lt (show (0 : Int32).toInt = 0 from rfl) (show (0 : Int32).toInt = 0 from rfl))).mpr (by omega), (not_congr (i_lt (show (24 : Int32).toInt = 24 from rfl) (show (0 : Int32).toInt = 0 from rfl))).mpr (by omega), by omega, by omega⟩, ?_⟩
  intro I56 eI56
  have w_I56 : WD Z I56 := by rw [eI56]; exact WD_cpy w_I43 8 3 kv0 eb48 kb48 rfl rfl (by decide) (fun _ _ _ => trivial)
  have f_I56 : FR [(8, 3)] Z I43 Z I56 := by rw [eI56]; exact FR_upA w_I43.2.1 kv0 eb48 kb48 rfl rfl List.mem_cons_self
  have q_I56 : FR Ws_X8_build Z I Z I56 := q_I43.trans w_I.1 w_I.2.1 (f_I56.mono (by decide))
  have u57 : (I56 v1 5).toInt = (I43 v1 5).toInt := by rw [f_I56.2.2.1 v1 9 5 kv1 (by decide) (by decide)]
  have u58 : (I56 v0 9).toInt = (I43 v0 9).toInt := by rw [f_I56.2.2.1 v0 8 9 kv0 (by decide) (by decide)]
  intro b59 eb59
  obtain ⟨x60, ex60, kb59⟩ := sh_o w_I56.1 kv0 (j := 4) (k := 4) rfl
  cases eb59.symm.trans ex60
  intro b61 eb61
  obtain ⟨x62, ex62, kb61, lb61⟩ := sh_f w_I56.1 kv1 (j := 4) (k := 14) (m := 24) rfl
  cases eb61.symm.trans ex62
  have t64 : 0 ≤ (I56 v0 9).toInt ∧ (I56 v0 9).toInt ≤ 24 := w_I56.fld 8 9 kv0 (by decide)
  refine s_X4_deal w_I56 b59 b61 (I56 v0 9) kb59 kb61 v1 9 4 kv1 eb61 (by omega) (fun  I65 L66 w_I65 f_I65  => ?_)
  have q_I65 : FR Ws_X8_build Z I Z I65 := q_I56.trans w_I.1 w_I.2.1 (f_I65.mono (by decide))
  have u67 : (I65 v1 5).toInt = (I56 v1 5).toInt := by rw [f_I65.2.2.1 v1 9 5 kv1 (by decide) (by decide)]
  have u68 : (I65 v0 9).toInt = (I56 v0 9).toInt := by rw [f_I65.2.2.1 v0 8 9 kv0 (by decide) (by decide)]
  exact hQ  I65 L66 w_I65 q_I65 (by omega)

set_option maxHeartbeats 4000000 in
set_option maxRecDepth 100000 in
theorem l10_X11_stairs_L76 {Z : jZ} {I0 : jI} {Q : Int32 → jI → jL → Prop} (w0 : WD Z I0) (v0 : Nat) (kv0 : jk Z v0 11) (uT : Nat) (huT : jr Z v0 0 = some uT) (uB : Nat) (huB : jr Z uT 0 = some uB) (uF : Nat) (huF : jr Z v0 2 = some uF) (uN : Nat) (huN : jr Z v0 1 = some uN) (p0 : BY (I0 uB)) (v1 : Int32) (hQ : ∀ (r : Int32) (I' : jI) (L' : jL), WD Z I' → FR Ws_X11_stairs Z I0 Z I' → ((I' uT 1).toInt = 0 ∧ r.toInt = stA (I0 uB) (I0 uT 1).toInt ∧ (0 ≤ r.toInt → (I' uF 9).toInt = r.toInt) ∧ (r.toInt < 0 → (I' uF 9).toInt = (I0 uF 9).toInt)) → Q r I' L') : ∀ (n : Nat) (v2 : Int32) (I : jI) (L : jL), WD Z I → FR Ws_X11_stairs Z I0 Z I →   (0 ≤ v2.toInt ∧ v2.toInt ≤ 2 ∧ (I uT 1).toInt = 0 ∧ v1.toInt = stA (I0 uB) (I0 uT 1).toInt ∧ 0 ≤ v1.toInt ∧ (I uF 9).toInt = v1.toInt) → 2 - v2.toInt < (n : Int) → f_X11_stairs_L76  Z Q n v0 v1 v2 I L := by
  intro n
  induction n with
  | zero =>
    intro v2 I L w_I q_I   li  me
    exfalso
    omega
  | succ n ih =>
    intro v2 I L w_I q_I   li  me
    unfold f_X11_stairs_L76
    have rv2 := i_rng v2
    have rv1 := i_rng v1
    have kuT : jk Z uT 10 := by obtain ⟨b9, e9, k9⟩ := sh_o w_I.1 kv0 (j := 0) (k := 10) rfl; cases huT.symm.trans e9; exact k9
    have luB : jlen Z uB = 80 := by obtain ⟨b9, e9, -, l9⟩ := sh_f w_I.1 kuT (j := 0) (k := 13) (m := 80) rfl; cases huB.symm.trans e9; exact l9
    have kuB : jk Z uB 13 := by obtain ⟨b9, e9, k9, -⟩ := sh_f w_I.1 kuT (j := 0) (k := 13) (m := 80) rfl; cases huB.symm.trans e9; exact k9
    have kuF : jk Z uF 8 := by obtain ⟨b9, e9, k9⟩ := sh_o w_I.1 kv0 (j := 2) (k := 8) rfl; cases huF.symm.trans e9; exact k9
    have kuN : jk Z uN 9 := by obtain ⟨b9, e9, k9⟩ := sh_o w_I.1 kv0 (j := 1) (k := 9) rfl; cases huN.symm.trans e9; exact k9
    have t1 : 0 ≤ (I uT 1).toInt ∧ (I uT 1).toInt ≤ 80 := w_I.fld 10 1 kuT (by decide)
    have t2 : 0 ≤ (I uF 9).toInt ∧ (I uF 9).toInt ≤ 24 := w_I.fld 8 9 kuF (by decide)
    have t3 : 0 ≤ (I uN 5).toInt ∧ (I uN 5).toInt ≤ 24 := w_I.fld 9 5 kuN (by decide)
    intro b4 eb4
    obtain ⟨x5, ex5, kb4, lb4⟩ := sh_f w_I.1 kv0 (j := 8) (k := 17) (m := 2) rfl
    cases eb4.symm.trans ex5
    refine ⟨fun c6 => ?_, fun c6 => ?_⟩
    · skip
      first | (have t7 : (2) ≤ v2.toInt := (i_le (show (2 : Int32).toInt = 2 from rfl) rfl).mp c6) | (have t7 : (2 : Int32).toInt ≤ v2.toInt := (i_le rfl rfl).mp c6) | skip
      exact hQ v1 I L w_I q_I (by omega)
    · skip
      first | (have t8 : ¬ ((2) ≤ v2.toInt) := (not_congr (i_le (show (2 : Int32).toInt = 2 from rfl) rfl)).mp c6) | (have t8 : ¬ ((2 : Int32).toInt ≤ v2.toInt) := (not_congr (i_le rfl rfl)).mp c6) | skip
      intro b9 eb9
      obtain rfl : b4 = b9 := Option.some.inj (eb4.symm.trans eb9)
      have o10 : vp_in v2 2 := vi_of rfl (by omega) (by omega)
      refine ⟨o10, ?_⟩
      intro b11 eb11
      obtain ⟨x13, ex13, kb11⟩ := w_I.1.2.2.1 b4 kb4 _ (vp_lt (by rw [lb4]; exact o10))
      cases eb11.symm.trans ex13
      intro I14 eI14
      have t15 : (0 : Int32).toInt = 0 := rfl
      have w_I14 : WD Z I14 := by rw [eI14]; exact WD_putF w_I 2 8 kb11 (by decide) (by decide) trivial
      have f_I14 : FR [(2, 8)] Z I Z I14 := by rw [eI14]; exact FR_putF kb11 (by decide) List.mem_cons_self
      have q_I14 : FR Ws_X11_stairs Z I0 Z I14 := q_I.trans w0.1 w0.2.1 (f_I14.mono (by decide))
      have u16 : (I14 uT 1).toInt = (I uT 1).toInt := by rw [f_I14.2.2.1 uT 10 1 kuT (by decide) (by decide)]
      have u17 : (I14 uF 9).toInt = (I uF 9).toInt := by rw [f_I14.2.2.1 uF 8 9 kuF (by decide) (by decide)]
      have u18 : (I14 uN 5).toInt = (I uN 5).toInt := by rw [f_I14.2.2.1 uN 9 5 kuN (by decide) (by decide)]
      first | (have u19 : (I14 b11 8).toInt = (0) := by (rw [eI14, show jpI I b11 8 (0 : Int32) b11 8 = (0 : Int32) from jpI_at] <;> exact (show (0 : Int32).toInt = 0 from rfl))) | skip
      intro x20 ex20
      have rx20 := i_rng x20
      first | (have tx20 : x20.toInt = v2.toInt + (1) := by (rw [ex20]; exact (i_add rfl (show (1 : Int32).toInt = 1 from rfl) (by omega) (by omega)))) | skip
      exact ih x20 I14 L w_I14 q_I14   (by omega)  (by omega)
set_option maxHeartbeats 4000000 in
set_option maxRecDepth 100000 in
theorem l10_X11_stairs_L38 {Z : jZ} {I0 : jI} {Q : Int32 → jI → jL → Prop} (w0 : WD Z I0) (v0 : Nat) (kv0 : jk Z v0 11) (uT : Nat) (huT : jr Z v0 0 = some uT) (uB : Nat) (huB : jr Z uT 0 = some uB) (uF : Nat) (huF : jr Z v0 2 = some uF) (uN : Nat) (huN : jr Z v0 1 = some uN) (p0 : BY (I0 uB)) (v1 : Int32) (hQ : ∀ (r : Int32) (I' : jI) (L' : jL), WD Z I' → FR Ws_X11_stairs Z I0 Z I' → ((I' uT 1).toInt = 0 ∧ r.toInt = stA (I0 uB) (I0 uT 1).toInt ∧ (0 ≤ r.toInt → (I' uF 9).toInt = r.toInt) ∧ (r.toInt < 0 → (I' uF 9).toInt = (I0 uF 9).toInt)) → Q r I' L') : ∀ (n : Nat) (v2 : Int32) (I : jI) (L : jL), WD Z I → FR Ws_X11_stairs Z I0 Z I →   (0 ≤ v2.toInt ∧ v2.toInt ≤ 6 ∧ (I uT 1).toInt = 0 ∧ v1.toInt = stA (I0 uB) (I0 uT 1).toInt ∧ 0 ≤ v1.toInt ∧ (I uF 9).toInt = v1.toInt) → 6 - v2.toInt < (n : Int) → f_X11_stairs_L38  Z Q n v0 v1 v2 I L := by
  intro n
  induction n with
  | zero =>
    intro v2 I L w_I q_I   li  me
    exfalso
    omega
  | succ n ih =>
    intro v2 I L w_I q_I   li  me
    unfold f_X11_stairs_L38
    have rv2 := i_rng v2
    have rv1 := i_rng v1
    have kuT : jk Z uT 10 := by obtain ⟨b9, e9, k9⟩ := sh_o w_I.1 kv0 (j := 0) (k := 10) rfl; cases huT.symm.trans e9; exact k9
    have luB : jlen Z uB = 80 := by obtain ⟨b9, e9, -, l9⟩ := sh_f w_I.1 kuT (j := 0) (k := 13) (m := 80) rfl; cases huB.symm.trans e9; exact l9
    have kuB : jk Z uB 13 := by obtain ⟨b9, e9, k9, -⟩ := sh_f w_I.1 kuT (j := 0) (k := 13) (m := 80) rfl; cases huB.symm.trans e9; exact k9
    have kuF : jk Z uF 8 := by obtain ⟨b9, e9, k9⟩ := sh_o w_I.1 kv0 (j := 2) (k := 8) rfl; cases huF.symm.trans e9; exact k9
    have kuN : jk Z uN 9 := by obtain ⟨b9, e9, k9⟩ := sh_o w_I.1 kv0 (j := 1) (k := 9) rfl; cases huN.symm.trans e9; exact k9
    have t21 : 0 ≤ (I uT 1).toInt ∧ (I uT 1).toInt ≤ 80 := w_I.fld 10 1 kuT (by decide)
    have t22 : 0 ≤ (I uF 9).toInt ∧ (I uF 9).toInt ≤ 24 := w_I.fld 8 9 kuF (by decide)
    have t23 : 0 ≤ (I uN 5).toInt ∧ (I uN 5).toInt ≤ 24 := w_I.fld 9 5 kuN (by decide)
    have t25 : 0 ≤ (I v0 4).toInt ∧ (I v0 4).toInt ≤ 6 := w_I.fld 11 4 kv0 (by decide)
    refine ⟨fun c26 => ?_, fun c26 => ?_⟩
    · skip
      first | (have t27 : (I v0 4).toInt ≤ v2.toInt := (i_le rfl rfl).mp c26) | (have t27 : (I v0 4).toInt ≤ v2.toInt := (i_le rfl rfl).mp c26) | skip
      intro b28 eb28
      obtain ⟨x29, ex29, kb28, lb28⟩ := sh_f w_I.1 kv0 (j := 5) (k := 14) (m := 8) rfl
      cases eb28.symm.trans ex29
      have t30 : (0 : Int32).toInt = 0 := rfl
      refine s_J7_fill_53178 w_I b28 (0 : Int32) kb28 v0 11 5 kv0 eb28 (by decide) rfl (by omega) (by intro i; first | trivial | exact p1 i _ | exact p2 i _ | (constructor <;> decide)) (fun  I31 L32 w_I31 f_I31  => ?_)
      have q_I31 : FR Ws_X11_stairs Z I0 Z I31 := q_I.trans w0.1 w0.2.1 (f_I31.mono (by first | decide | (intro p hp; simp at hp ⊢; omega) | simp))
      have ut9 : (I31 uT 1).toInt = (I uT 1).toInt := by rw [f_I31.2.2.1 uT 10 1 kuT (by decide) (by decide)]
      have uf9 : (I31 uF 9).toInt = (I uF 9).toInt := by rw [f_I31.2.2.1 uF 8 9 kuF (by decide) (by decide)]
      have t33 : (0 : Int32).toInt = 0 := rfl
      exact ⟨(2 - (0 : Int32).toInt).toNat + 1, l10_X11_stairs_L76 w0 v0 kv0 uT huT uB huB uF huF uN huN p0 v1  hQ   _ (0 : Int32) I31 L32 w_I31 q_I31   (by omega)  (by omega)⟩
    · skip
      first | (have t34 : ¬ ((I v0 4).toInt ≤ v2.toInt) := (not_congr (i_le rfl rfl)).mp c26) | (have t34 : ¬ ((I v0 4).toInt ≤ v2.toInt) := (not_congr (i_le rfl rfl)).mp c26) | skip
      refine s_X11_find w_I v0 v2 kv0   (fun r35 p36 => ?_)
      refine ⟨fun c38 => ?_, fun b37 c38 => ?_⟩
      · skip
        unfold f_X11_stairs_b60
        intro x39 ex39
        have rx39 := i_rng x39
        first | (have tx39 : x39.toInt = v2.toInt + (1) := by (rw [ex39]; exact (i_add rfl (show (1 : Int32).toInt = 1 from rfl) (by omega) (by omega)))) | skip
        exact ih x39 I L w_I q_I   (by omega)  (by omega)
      · skip
        have kb37 : jk Z b37 5 := by first | exact p36 b37 c38 | exact (p36 b37 c38).1 | exact (p36.1 b37 c38).1
        refine s_X5_startAnew w_I b37 kb37   (fun  I40 L41 w_I40 f_I40  => ?_)
        have q_I40 : FR Ws_X11_stairs Z I0 Z I40 := q_I.trans w0.1 w0.2.1 (f_I40.mono (by decide))
        have u42 : (I40 uT 1).toInt = (I uT 1).toInt := by rw [f_I40.2.2.1 uT 10 1 kuT (by decide) (by decide)]
        have u43 : (I40 uF 9).toInt = (I uF 9).toInt := by rw [f_I40.2.2.1 uF 8 9 kuF (by decide) (by decide)]
        have u44 : (I40 uN 5).toInt = (I uN 5).toInt := by rw [f_I40.2.2.1 uN 9 5 kuN (by decide) (by decide)]
        have u45 : (I40 v0 4).toInt = (I v0 4).toInt := by rw [f_I40.2.2.1 v0 11 4 kv0 (by decide) (by decide)]
        unfold f_X11_stairs_b60
        intro x46 ex46
        have rx46 := i_rng x46
        first | (have tx46 : x46.toInt = v2.toInt + (1) := by (rw [ex46]; exact (i_add rfl (show (1 : Int32).toInt = 1 from rfl) (by omega) (by omega)))) | skip
        exact ih x46 I40 L41 w_I40 q_I40   (by omega)  (by omega)
set_option maxHeartbeats 4000000 in
set_option maxRecDepth 100000 in
theorem s10_X11_stairs {Z : jZ} {I : jI} {L : jL} (w_I : WD Z I) (v0 : Nat) (kv0 : jk Z v0 11) (uT : Nat) (huT : jr Z v0 0 = some uT) (uB : Nat) (huB : jr Z uT 0 = some uB) (uF : Nat) (huF : jr Z v0 2 = some uF) (uN : Nat) (huN : jr Z v0 1 = some uN) (p0 : BY (I uB)) {Q : Int32 → jI → jL → Prop} (hQ : ∀ (r : Int32) (I' : jI) (L' : jL), WD Z I' → FR Ws_X11_stairs Z I Z I' → ((I' uT 1).toInt = 0 ∧ r.toInt = stA (I uB) (I uT 1).toInt ∧ (0 ≤ r.toInt → (I' uF 9).toInt = r.toInt) ∧ (r.toInt < 0 → (I' uF 9).toInt = (I uF 9).toInt)) → Q r I' L') : f_X11_stairs v0 Z I L Q := by
  unfold f_X11_stairs
  have q_I : FR Ws_X11_stairs Z I Z I := FR.rf
  have kuT : jk Z uT 10 := by obtain ⟨b9, e9, k9⟩ := sh_o w_I.1 kv0 (j := 0) (k := 10) rfl; cases huT.symm.trans e9; exact k9
  have luB : jlen Z uB = 80 := by obtain ⟨b9, e9, -, l9⟩ := sh_f w_I.1 kuT (j := 0) (k := 13) (m := 80) rfl; cases huB.symm.trans e9; exact l9
  have kuB : jk Z uB 13 := by obtain ⟨b9, e9, k9, -⟩ := sh_f w_I.1 kuT (j := 0) (k := 13) (m := 80) rfl; cases huB.symm.trans e9; exact k9
  have kuF : jk Z uF 8 := by obtain ⟨b9, e9, k9⟩ := sh_o w_I.1 kv0 (j := 2) (k := 8) rfl; cases huF.symm.trans e9; exact k9
  have kuN : jk Z uN 9 := by obtain ⟨b9, e9, k9⟩ := sh_o w_I.1 kv0 (j := 1) (k := 9) rfl; cases huN.symm.trans e9; exact k9
  have t47 : 0 ≤ (I uT 1).toInt ∧ (I uT 1).toInt ≤ 80 := w_I.fld 10 1 kuT (by decide)
  have t48 : 0 ≤ (I uF 9).toInt ∧ (I uF 9).toInt ≤ 24 := w_I.fld 8 9 kuF (by decide)
  have t49 : 0 ≤ (I uN 5).toInt ∧ (I uN 5).toInt ≤ 24 := w_I.fld 9 5 kuN (by decide)
  intro b50 eb50
  obtain rfl : uN = b50 := Option.some.inj (huN.symm.trans eb50)
  intro b51 eb51
  obtain rfl : uT = b51 := Option.some.inj (huT.symm.trans eb51)
  refine s10_X9_read w_I uN uT kuN kuT uB huB (by assumption) (fun r52 I54 L55 w_I54 f_I54 p53 => ?_)
  have q_I54 : FR Ws_X11_stairs Z I Z I54 := q_I.trans w_I.1 w_I.2.1 (f_I54.mono (by decide))
  have u56 : (I54 uT 1).toInt = (I uT 1).toInt := by rw [f_I54.2.2.1 uT 10 1 kuT (by decide) (by decide)]
  have u57 : (I54 uF 9).toInt = (I uF 9).toInt := by rw [f_I54.2.2.1 uF 8 9 kuF (by decide) (by decide)]
  have rr52 := i_rng r52
  intro b58 eb58
  obtain rfl : uT = b58 := Option.some.inj (huT.symm.trans eb58)
  refine s9_X10_clear w_I54 uT kuT   (fun  I60 L61 w_I60 f_I60 p59 => ?_)
  have q_I60 : FR Ws_X11_stairs Z I Z I60 := q_I54.trans w_I.1 w_I.2.1 (f_I60.mono (by decide))
  have u62 : (I60 uF 9).toInt = (I54 uF 9).toInt := by rw [f_I60.2.2.1 uF 8 9 kuF (by decide) (by decide)]
  have u63 : (I60 uN 5).toInt = (I54 uN 5).toInt := by rw [f_I60.2.2.1 uN 9 5 kuN (by decide) (by decide)]
  refine ⟨fun c64 => ?_, fun c64 => ?_⟩
  · skip
    first | (have t65 : (0) ≤ r52.toInt := (i_le (show (0 : Int32).toInt = 0 from rfl) rfl).mp c64) | (have t65 : (0 : Int32).toInt ≤ r52.toInt := (i_le rfl rfl).mp c64) | skip
    intro b66 eb66
    obtain rfl : uF = b66 := Option.some.inj (huF.symm.trans eb66)
    intro b67 eb67
    obtain rfl : uN = b67 := Option.some.inj (huN.symm.trans eb67)
    refine s10_X8_build w_I60 uF uN kuF kuN   (fun  I69 L70 w_I69 f_I69 p68 => ?_)
    have q_I69 : FR Ws_X11_stairs Z I Z I69 := q_I60.trans w_I.1 w_I.2.1 (f_I69.mono (by decide))
    have u71 : (I69 uN 5).toInt = (I60 uN 5).toInt := by rw [f_I69.2.2.1 uN 9 5 kuN (by decide) (by decide)]
    have u72 : (I69 uT 1).toInt = (I60 uT 1).toInt := by rw [f_I69.2.2.1 uT 10 1 kuT (by decide) (by decide)]
    have t73 : (0 : Int32).toInt = 0 := rfl
    exact ⟨(6 - (0 : Int32).toInt).toNat + 1, l10_X11_stairs_L38 w_I v0 kv0 uT huT uB huB uF huF uN huN p0 r52  hQ   _ (0 : Int32) I69 L70 w_I69 q_I69   (by omega)  (by omega)⟩
  · skip
    first | (have t74 : ¬ ((0) ≤ r52.toInt) := (not_congr (i_le (show (0 : Int32).toInt = 0 from rfl) rfl)).mp c64) | (have t74 : ¬ ((0 : Int32).toInt ≤ r52.toInt) := (not_congr (i_le rfl rfl)).mp c64) | skip
    exact hQ r52 I60 L61 w_I60 q_I60 (by omega)

set_option maxHeartbeats 4000000 in
set_option maxRecDepth 100000 in
theorem l10_X12_stairs_L301 {B : Nat × Nat} {T : Nat} {Z0 : jZ} {I0 : jI} {Q : Int32 → jZ → jI → jL → Prop} (w0 : WD Z0 I0) (v0 : Nat) (kv0 : jk Z0 v0 12) (uM : Nat) (huM : jr Z0 v0 18 = some uM) (v1 : Int32) (hQ : ∀ (r : Int32) (Z' : jZ) (I' : jI) (L' : jL), WD Z' I' → BUD B Z' T → FR Ws_X12_stairs Z0 I0 Z' I' → CP Z0 Z' → ((I' v0 19).toInt = 0 ∧ r.toInt = stA (I0 uM) (I0 v0 19).toInt ∧ (0 ≤ r.toInt → (I' v0 0).toInt = r.toInt) ∧ (r.toInt < 0 → (I' v0 0).toInt = (I0 v0 0).toInt)) → Q r Z' I' L') : ∀ (n : Nat) (v3 : Int32) (Z : jZ) (I : jI) (L : jL), WD Z I → BUD B Z T → FR Ws_X12_stairs Z0 I0 Z I → CP Z0 Z →   (0 ≤ v3.toInt ∧ v3.toInt ≤ 6 ∧ (I v0 19).toInt = 0 ∧ v1.toInt = stA (I0 uM) (I0 v0 19).toInt ∧ 2 ≤ v1.toInt ∧ (I v0 0).toInt = v1.toInt) → 6 - v3.toInt < (n : Int) → f_X12_stairs_L301 B  Q n v0 v1 v3 Z I L := by
  intro n
  induction n with
  | zero =>
    intro v3 Z I L w_I bd_Z q_I cp_Z   li  me
    exfalso
    omega
  | succ n ih =>
    intro v3 Z I L w_I bd_Z q_I cp_Z   li  me
    unfold f_X12_stairs_L301
    have rv3 := i_rng v3
    have rv1 := i_rng v1
    have kv0_0 := kv0
    have kv0 := (q_I.1 _ _ kv0).1
    have huM_1 : jr Z v0 18 = some uM := (q_I.2.1 v0 12 18 kv0_0 (by decide) (by decide)).trans huM
    have luM : jlen Z uM = 80 := by obtain ⟨b9, e9, -, l9⟩ := sh_f w_I.1 kv0 (j := 18) (k := 13) (m := 80) rfl; cases huM_1.symm.trans e9; exact l9
    have kuM : jk Z uM 13 := by obtain ⟨b9, e9, k9, -⟩ := sh_f w_I.1 kv0 (j := 18) (k := 13) (m := 80) rfl; cases huM_1.symm.trans e9; exact k9
    have t1 : 0 ≤ (I v0 19).toInt ∧ (I v0 19).toInt ≤ 80 := w_I.fld 12 19 kv0 (by decide)
    have t2 : 0 ≤ (I v0 0).toInt ∧ (I v0 0).toInt ≤ 24 := w_I.fld 12 0 kv0 (by decide)
    have xq_I := q_I.1
    have t4 : 0 ≤ (I v0 8).toInt ∧ (I v0 8).toInt ≤ 6 := w_I.fld 12 8 kv0 (by decide)
    refine ⟨fun c5 => ?_, fun c5 => ?_⟩
    · skip
      first | (have t6 : (I v0 8).toInt ≤ v3.toInt := (i_le rfl rfl).mp c5) | (have t6 : (I v0 8).toInt ≤ v3.toInt := (i_le rfl rfl).mp c5) | skip
      exact hQ v1 Z I L w_I bd_Z q_I cp_Z (by omega)
    · skip
      first | (have t7 : ¬ ((I v0 8).toInt ≤ v3.toInt) := (not_congr (i_le rfl rfl)).mp c5) | (have t7 : ¬ ((I v0 8).toInt ≤ v3.toInt) := (not_congr (i_le rfl rfl)).mp c5) | skip
      intro b8 eb8
      obtain ⟨x9, ex9, kb8, lb8⟩ := sh_f w_I.1 kv0 (j := 14) (k := 14) (m := 6) rfl
      cases eb8.symm.trans ex9
      have o10 : vp_in v3 6 := vi_of rfl (by omega) (by omega)
      refine ⟨o10, ?_⟩
      intro I11 eI11
      have t12 : (-1 : Int32).toInt = -1 := rfl
      have w_I11 : WD Z I11 := by rw [eI11]; exact WD_putA w_I 12 14 kv0 eb8 kb8 rfl rfl (by decide) (by constructor <;> omega)
      have f_I11 : FR [(12, 14)] Z I Z I11 := by rw [eI11]; exact FR_upA w_I.2.1 kv0 eb8 kb8 rfl rfl List.mem_cons_self
      have q_I11 : FR Ws_X12_stairs Z0 I0 Z I11 := q_I.trans w0.1 w0.2.1 (f_I11.mono (by decide))
      have u13 : (I11 v0 19).toInt = (I v0 19).toInt := by rw [f_I11.2.2.1 v0 12 19 kv0 (by decide) (by decide)]
      have u14 : (I11 v0 0).toInt = (I v0 0).toInt := by rw [f_I11.2.2.1 v0 12 0 kv0 (by decide) (by decide)]
      have u15 : (I11 v0 8).toInt = (I v0 8).toInt := by rw [f_I11.2.2.1 v0 12 8 kv0 (by decide) (by decide)]
      intro b16 eb16
      obtain ⟨x17, ex17, kb16, lb16⟩ := sh_f w_I11.1 kv0 (j := 15) (k := 14) (m := 6) rfl
      cases eb16.symm.trans ex17
      intro b18 eb18
      obtain ⟨x19, ex19, kb18, lb18⟩ := sh_f w_I11.1 kv0 (j := 9) (k := 14) (m := 6) rfl
      cases eb18.symm.trans ex19
      have o20 : vp_in v3 6 := vi_of rfl (by omega) (by omega)
      refine ⟨o20, ?_⟩
      have t21 : 0 ≤ (I11 b18 v3.toNatClampNeg).toInt ∧ (I11 b18 v3.toNatClampNeg).toInt ≤ 120 := w_I11.arr 12 9 kv0 eb18 kb18 rfl rfl _
      have o22 : vp_in v3 6 := vi_of rfl (by omega) (by omega)
      refine ⟨o22, ?_⟩
      intro I23 eI23
      have w_I23 : WD Z I23 := by rw [eI23]; exact WD_putA w_I11 12 15 kv0 eb16 kb16 rfl rfl (by decide) trivial
      have f_I23 : FR [(12, 15)] Z I11 Z I23 := by rw [eI23]; exact FR_upA w_I11.2.1 kv0 eb16 kb16 rfl rfl List.mem_cons_self
      have q_I23 : FR Ws_X12_stairs Z0 I0 Z I23 := q_I11.trans w0.1 w0.2.1 (f_I23.mono (by decide))
      have u24 : (I23 v0 19).toInt = (I11 v0 19).toInt := by rw [f_I23.2.2.1 v0 12 19 kv0 (by decide) (by decide)]
      have u25 : (I23 v0 0).toInt = (I11 v0 0).toInt := by rw [f_I23.2.2.1 v0 12 0 kv0 (by decide) (by decide)]
      have u26 : (I23 v0 8).toInt = (I11 v0 8).toInt := by rw [f_I23.2.2.1 v0 12 8 kv0 (by decide) (by decide)]
      intro b27 eb27
      obtain ⟨x28, ex28, kb27, lb27⟩ := sh_f w_I23.1 kv0 (j := 16) (k := 14) (m := 6) rfl
      cases eb27.symm.trans ex28
      intro b29 eb29
      obtain ⟨x30, ex30, kb29, lb29⟩ := sh_f w_I23.1 kv0 (j := 10) (k := 14) (m := 6) rfl
      cases eb29.symm.trans ex30
      have o31 : vp_in v3 6 := vi_of rfl (by omega) (by omega)
      refine ⟨o31, ?_⟩
      have t32 : 0 ≤ (I23 b29 v3.toNatClampNeg).toInt ∧ (I23 b29 v3.toNatClampNeg).toInt ≤ 999 := w_I23.arr 12 10 kv0 eb29 kb29 rfl rfl _
      have o33 : vp_in v3 6 := vi_of rfl (by omega) (by omega)
      refine ⟨o33, ?_⟩
      intro I34 eI34
      have w_I34 : WD Z I34 := by rw [eI34]; exact WD_putA w_I23 12 16 kv0 eb27 kb27 rfl rfl (by decide) trivial
      have f_I34 : FR [(12, 16)] Z I23 Z I34 := by rw [eI34]; exact FR_upA w_I23.2.1 kv0 eb27 kb27 rfl rfl List.mem_cons_self
      have q_I34 : FR Ws_X12_stairs Z0 I0 Z I34 := q_I23.trans w0.1 w0.2.1 (f_I34.mono (by decide))
      have u35 : (I34 v0 19).toInt = (I23 v0 19).toInt := by rw [f_I34.2.2.1 v0 12 19 kv0 (by decide) (by decide)]
      have u36 : (I34 v0 0).toInt = (I23 v0 0).toInt := by rw [f_I34.2.2.1 v0 12 0 kv0 (by decide) (by decide)]
      have u37 : (I34 v0 8).toInt = (I23 v0 8).toInt := by rw [f_I34.2.2.1 v0 12 8 kv0 (by decide) (by decide)]
      intro x38 ex38
      have rx38 := i_rng x38
      first | (have tx38 : x38.toInt = v3.toInt + (1) := by (rw [ex38]; exact (i_add rfl (show (1 : Int32).toInt = 1 from rfl) (by omega) (by omega)))) | skip
      exact ih x38 Z I34 L w_I34 bd_Z q_I34 cp_Z   (by omega)  (by omega)
set_option maxHeartbeats 4000000 in
set_option maxRecDepth 100000 in
theorem l10_X12_stairs_L280 {B : Nat × Nat} {T : Nat} {Z0 : jZ} {I0 : jI} {Q : Int32 → jZ → jI → jL → Prop} (w0 : WD Z0 I0) (v0 : Nat) (kv0 : jk Z0 v0 12) (uM : Nat) (huM : jr Z0 v0 18 = some uM) (v1 : Int32) (hQ : ∀ (r : Int32) (Z' : jZ) (I' : jI) (L' : jL), WD Z' I' → BUD B Z' T → FR Ws_X12_stairs Z0 I0 Z' I' → CP Z0 Z' → ((I' v0 19).toInt = 0 ∧ r.toInt = stA (I0 uM) (I0 v0 19).toInt ∧ (0 ≤ r.toInt → (I' v0 0).toInt = r.toInt) ∧ (r.toInt < 0 → (I' v0 0).toInt = (I0 v0 0).toInt)) → Q r Z' I' L') : ∀ (n : Nat) (v3 : Int32) (Z : jZ) (I : jI) (L : jL), WD Z I → BUD B Z T → FR Ws_X12_stairs Z0 I0 Z I → CP Z0 Z →   (0 ≤ v3.toInt ∧ v3.toInt ≤ 8 ∧ (I v0 19).toInt = 0 ∧ v1.toInt = stA (I0 uM) (I0 v0 19).toInt ∧ 2 ≤ v1.toInt ∧ (I v0 0).toInt = v1.toInt) → 8 - v3.toInt < (n : Int) → f_X12_stairs_L280 B  Q n v0 v1 v3 Z I L := by
  intro n
  induction n with
  | zero =>
    intro v3 Z I L w_I bd_Z q_I cp_Z   li  me
    exfalso
    omega
  | succ n ih =>
    intro v3 Z I L w_I bd_Z q_I cp_Z   li  me
    unfold f_X12_stairs_L280
    have rv3 := i_rng v3
    have rv1 := i_rng v1
    have kv0_0 := kv0
    have kv0 := (q_I.1 _ _ kv0).1
    have huM_1 : jr Z v0 18 = some uM := (q_I.2.1 v0 12 18 kv0_0 (by decide) (by decide)).trans huM
    have luM : jlen Z uM = 80 := by obtain ⟨b9, e9, -, l9⟩ := sh_f w_I.1 kv0 (j := 18) (k := 13) (m := 80) rfl; cases huM_1.symm.trans e9; exact l9
    have kuM : jk Z uM 13 := by obtain ⟨b9, e9, k9, -⟩ := sh_f w_I.1 kv0 (j := 18) (k := 13) (m := 80) rfl; cases huM_1.symm.trans e9; exact k9
    have t39 : 0 ≤ (I v0 19).toInt ∧ (I v0 19).toInt ≤ 80 := w_I.fld 12 19 kv0 (by decide)
    have t40 : 0 ≤ (I v0 0).toInt ∧ (I v0 0).toInt ≤ 24 := w_I.fld 12 0 kv0 (by decide)
    have xq_I := q_I.1
    refine ⟨fun c41 => ?_, fun c41 => ?_⟩
    · skip
      first | (have t42 : (8) ≤ v3.toInt := (i_le (show (8 : Int32).toInt = 8 from rfl) rfl).mp c41) | (have t42 : (8 : Int32).toInt ≤ v3.toInt := (i_le rfl rfl).mp c41) | skip
      have t43 : (0 : Int32).toInt = 0 := rfl
      exact ⟨(6 - (0 : Int32).toInt).toNat + 1, l10_X12_stairs_L301 w0 v0 kv0_0 uM huM v1  hQ   _ (0 : Int32) Z I L w_I bd_Z q_I cp_Z   (by omega)  (by omega)⟩
    · skip
      first | (have t44 : ¬ ((8) ≤ v3.toInt) := (not_congr (i_le (show (8 : Int32).toInt = 8 from rfl) rfl)).mp c41) | (have t44 : ¬ ((8 : Int32).toInt ≤ v3.toInt) := (not_congr (i_le rfl rfl)).mp c41) | skip
      intro b45 eb45
      obtain ⟨x46, ex46, kb45, lb45⟩ := sh_f w_I.1 kv0 (j := 17) (k := 14) (m := 8) rfl
      cases eb45.symm.trans ex46
      have o47 : vp_in v3 8 := vi_of rfl (by omega) (by omega)
      refine ⟨o47, ?_⟩
      intro I48 eI48
      have t49 : (0 : Int32).toInt = 0 := rfl
      have w_I48 : WD Z I48 := by rw [eI48]; exact WD_putA w_I 12 17 kv0 eb45 kb45 rfl rfl (by decide) trivial
      have f_I48 : FR [(12, 17)] Z I Z I48 := by rw [eI48]; exact FR_upA w_I.2.1 kv0 eb45 kb45 rfl rfl List.mem_cons_self
      have q_I48 : FR Ws_X12_stairs Z0 I0 Z I48 := q_I.trans w0.1 w0.2.1 (f_I48.mono (by decide))
      have u50 : (I48 v0 19).toInt = (I v0 19).toInt := by rw [f_I48.2.2.1 v0 12 19 kv0 (by decide) (by decide)]
      have u51 : (I48 v0 0).toInt = (I v0 0).toInt := by rw [f_I48.2.2.1 v0 12 0 kv0 (by decide) (by decide)]
      intro x52 ex52
      have rx52 := i_rng x52
      first | (have tx52 : x52.toInt = v3.toInt + (1) := by (rw [ex52]; exact (i_add rfl (show (1 : Int32).toInt = 1 from rfl) (by omega) (by omega)))) | skip
      exact ih x52 Z I48 L w_I48 bd_Z q_I48 cp_Z   (by omega)  (by omega)
set_option maxHeartbeats 4000000 in
set_option maxRecDepth 100000 in
theorem l10_X12_stairs_L185 {B : Nat × Nat} {T : Nat} {Z0 : jZ} {I0 : jI} {Q : Int32 → jZ → jI → jL → Prop} (w0 : WD Z0 I0) (v0 : Nat) (kv0 : jk Z0 v0 12) (uM : Nat) (huM : jr Z0 v0 18 = some uM) (v1 : Int32) (v3 : Int32) (hQ : ∀ (r : Int32) (Z' : jZ) (I' : jI) (L' : jL), WD Z' I' → BUD B Z' T → FR Ws_X12_stairs Z0 I0 Z' I' → CP Z0 Z' → ((I' v0 19).toInt = 0 ∧ r.toInt = stA (I0 uM) (I0 v0 19).toInt ∧ (0 ≤ r.toInt → (I' v0 0).toInt = r.toInt) ∧ (r.toInt < 0 → (I' v0 0).toInt = (I0 v0 0).toInt)) → Q r Z' I' L') {K131 : Nat → Int32 → Int32 → jZ → jI → jL → Prop} {N131 : Int} (hK131 : ∀ (v3 : Int32) (Z : jZ) (I : jI) (L : jL), WD Z I → BUD B Z T → FR Ws_X12_stairs Z0 I0 Z I → CP Z0 Z →   (0 ≤ v3.toInt ∧ v3.toInt ≤ 24 ∧ v1.toInt ≤ 24 ∧ (I v0 19).toInt = 0 ∧ v1.toInt = stA (I0 uM) (I0 v0 19).toInt ∧ 2 ≤ v1.toInt ∧ (I v0 0).toInt = v1.toInt) → 24 - v3.toInt < N131 → K131 v0 v1 v3 Z I L) : ∀ (n : Nat) (v4 : Int32) (Z : jZ) (I : jI) (L : jL), WD Z I → BUD B Z T → FR Ws_X12_stairs Z0 I0 Z I → CP Z0 Z →   (0 ≤ v3.toInt ∧ v3.toInt ≤ 23 ∧ v1.toInt ≤ 24 ∧ 0 ≤ v4.toInt ∧ v4.toInt ≤ 8 ∧ (I v0 19).toInt = 0 ∧ v1.toInt = stA (I0 uM) (I0 v0 19).toInt ∧ 2 ≤ v1.toInt ∧ (I v0 0).toInt = v1.toInt) → 24 - v3.toInt ≤ N131 → 8 - v4.toInt < (n : Int) → f_X12_stairs_L185 B K131 Q n v0 v1 v3 v4 Z I L := by
  intro n
  induction n with
  | zero =>
    intro v4 Z I L w_I bd_Z q_I cp_Z   li hm131 me
    exfalso
    omega
  | succ n ih =>
    intro v4 Z I L w_I bd_Z q_I cp_Z   li hm131 me
    unfold f_X12_stairs_L185
    have rv4 := i_rng v4
    have rv1 := i_rng v1
    have rv3 := i_rng v3
    have kv0_0 := kv0
    have kv0 := (q_I.1 _ _ kv0).1
    have huM_1 : jr Z v0 18 = some uM := (q_I.2.1 v0 12 18 kv0_0 (by decide) (by decide)).trans huM
    have luM : jlen Z uM = 80 := by obtain ⟨b9, e9, -, l9⟩ := sh_f w_I.1 kv0 (j := 18) (k := 13) (m := 80) rfl; cases huM_1.symm.trans e9; exact l9
    have kuM : jk Z uM 13 := by obtain ⟨b9, e9, k9, -⟩ := sh_f w_I.1 kv0 (j := 18) (k := 13) (m := 80) rfl; cases huM_1.symm.trans e9; exact k9
    have t53 : 0 ≤ (I v0 19).toInt ∧ (I v0 19).toInt ≤ 80 := w_I.fld 12 19 kv0 (by decide)
    have t54 : 0 ≤ (I v0 0).toInt ∧ (I v0 0).toInt ≤ 24 := w_I.fld 12 0 kv0 (by decide)
    have xq_I := q_I.1
    refine ⟨fun c55 => ?_, fun c55 => ?_⟩
    · skip
      first | (have t56 : (8) ≤ v4.toInt := (i_le (show (8 : Int32).toInt = 8 from rfl) rfl).mp c55) | (have t56 : (8 : Int32).toInt ≤ v4.toInt := (i_le rfl rfl).mp c55) | skip
      intro b57 eb57
      obtain ⟨x58, ex58, kb57, lb57⟩ := sh_f w_I.1 kv0 (j := 4) (k := 16) (m := 24) rfl
      cases eb57.symm.trans ex58
      intro b59 eb59
      obtain ⟨x60, ex60, kb59, lb59⟩ := sh_f w_I.1 kv0 (j := 28) (k := 14) (m := 120) rfl
      cases eb59.symm.trans ex60
      have o61 : vp_in (((5 : Int32) * v3) + (4 : Int32)) 120 := vi_of (i_add (i_mul (show (5 : Int32).toInt = 5 from rfl) rfl (by omega) (by omega)) (show (4 : Int32).toInt = 4 from rfl) (by omega) (by omega)) (by omega) (by omega)
      refine ⟨o61, ?_⟩
      have t63 := i_nat (x := (((5 : Int32) * v3) + (4 : Int32))) (i_add (i_mul (show (5 : Int32).toInt = 5 from rfl) rfl (by omega) (by omega)) (show (4 : Int32).toInt = 4 from rfl) (by omega) (by omega)) (by omega)
      have h62 : ((((5 : Int32) * v3) + (4 : Int32)).toNatClampNeg % 5 = 0 → 0 ≤ (I b59 (((5 : Int32) * v3) + (4 : Int32)).toNatClampNeg).toInt ∧ (I b59 (((5 : Int32) * v3) + (4 : Int32)).toNatClampNeg).toInt ≤ 30) ∧ ((((5 : Int32) * v3) + (4 : Int32)).toNatClampNeg % 5 = 1 → 0 ≤ (I b59 (((5 : Int32) * v3) + (4 : Int32)).toNatClampNeg).toInt ∧ (I b59 (((5 : Int32) * v3) + (4 : Int32)).toNatClampNeg).toInt ≤ 9) ∧ ((((5 : Int32) * v3) + (4 : Int32)).toNatClampNeg % 5 = 2 → 0 ≤ (I b59 (((5 : Int32) * v3) + (4 : Int32)).toNatClampNeg).toInt ∧ (I b59 (((5 : Int32) * v3) + (4 : Int32)).toNatClampNeg).toInt ≤ 20) := w_I.arr 12 28 kv0 eb59 kb59 rfl rfl _
      first | (have h621 := h62.1 (by omega)) | (have h621 := h62.2.1 (by omega)) | (have h621 := h62.2.2 (by omega)) | skip
      clear h62
      refine ⟨fun c64 => ?_, fun c64 => ?_⟩
      · skip
        first | (have t65 : ¬ ((I b59 (((5 : Int32) * v3) + (4 : Int32)).toNatClampNeg).toInt = (1)) := (not_congr (i_eq rfl (show (1 : Int32).toInt = 1 from rfl))).mp c64) | (have t65 : ¬ ((I b59 (((5 : Int32) * v3) + (4 : Int32)).toNatClampNeg).toInt = (1 : Int32).toInt) := (not_congr (i_eq rfl rfl)).mp c64) | skip
        unfold f_X12_stairs_b256
        have o66 : vp_in v3 (jlen Z b57) := vi_of rfl (by omega) (by omega)
        refine ⟨o66, ?_⟩
        intro I67 eI67
        have t68 : (0 : Int32).toInt = 0 := rfl
        have w_I67 : WD Z I67 := by rw [eI67]; exact WD_putA w_I 12 4 kv0 eb57 kb57 rfl rfl (by decide) trivial
        have f_I67 : FR [(12, 4)] Z I Z I67 := by rw [eI67]; exact FR_upA w_I.2.1 kv0 eb57 kb57 rfl rfl List.mem_cons_self
        have q_I67 : FR Ws_X12_stairs Z0 I0 Z I67 := q_I.trans w0.1 w0.2.1 (f_I67.mono (by decide))
        have u69 : (I67 v0 19).toInt = (I v0 19).toInt := by rw [f_I67.2.2.1 v0 12 19 kv0 (by decide) (by decide)]
        have u70 : (I67 v0 0).toInt = (I v0 0).toInt := by rw [f_I67.2.2.1 v0 12 0 kv0 (by decide) (by decide)]
        intro x71 ex71
        have rx71 := i_rng x71
        first | (have tx71 : x71.toInt = v3.toInt + (1) := by (rw [ex71]; exact (i_add rfl (show (1 : Int32).toInt = 1 from rfl) (by omega) (by omega)))) | skip
        exact hK131 x71 Z I67 L w_I67 bd_Z q_I67 cp_Z   (by omega)  (by omega)
      · skip
        first | (have t72 : (I b59 (((5 : Int32) * v3) + (4 : Int32)).toNatClampNeg).toInt = (1) := (i_eq rfl (show (1 : Int32).toInt = 1 from rfl)).mp c64) | (have t72 : (I b59 (((5 : Int32) * v3) + (4 : Int32)).toNatClampNeg).toInt = (1 : Int32).toInt := (i_eq rfl rfl).mp c64) | skip
        unfold f_X12_stairs_b256
        have o73 : vp_in v3 (jlen Z b57) := vi_of rfl (by omega) (by omega)
        refine ⟨o73, ?_⟩
        intro I74 eI74
        have t75 : (1 : Int32).toInt = 1 := rfl
        have w_I74 : WD Z I74 := by rw [eI74]; exact WD_putA w_I 12 4 kv0 eb57 kb57 rfl rfl (by decide) trivial
        have f_I74 : FR [(12, 4)] Z I Z I74 := by rw [eI74]; exact FR_upA w_I.2.1 kv0 eb57 kb57 rfl rfl List.mem_cons_self
        have q_I74 : FR Ws_X12_stairs Z0 I0 Z I74 := q_I.trans w0.1 w0.2.1 (f_I74.mono (by decide))
        have u76 : (I74 v0 19).toInt = (I v0 19).toInt := by rw [f_I74.2.2.1 v0 12 19 kv0 (by decide) (by decide)]
        have u77 : (I74 v0 0).toInt = (I v0 0).toInt := by rw [f_I74.2.2.1 v0 12 0 kv0 (by decide) (by decide)]
        intro x78 ex78
        have rx78 := i_rng x78
        first | (have tx78 : x78.toInt = v3.toInt + (1) := by (rw [ex78]; exact (i_add rfl (show (1 : Int32).toInt = 1 from rfl) (by omega) (by omega)))) | skip
        exact hK131 x78 Z I74 L w_I74 bd_Z q_I74 cp_Z   (by omega)  (by omega)
    · skip
      first | (have t79 : ¬ ((8) ≤ v4.toInt) := (not_congr (i_le (show (8 : Int32).toInt = 8 from rfl) rfl)).mp c55) | (have t79 : ¬ ((8 : Int32).toInt ≤ v4.toInt) := (not_congr (i_le rfl rfl)).mp c55) | skip
      intro b80 eb80
      obtain ⟨x81, ex81, kb80, lb80⟩ := sh_f w_I.1 kv0 (j := 5) (k := 14) (m := 192) rfl
      cases eb80.symm.trans ex81
      intro b82 eb82
      obtain ⟨x83, ex83, kb82, lb82⟩ := sh_f w_I.1 kv0 (j := 28) (k := 14) (m := 120) rfl
      cases eb82.symm.trans ex83
      have o84 : vp_in (((5 : Int32) * v3) + (3 : Int32)) 120 := vi_of (i_add (i_mul (show (5 : Int32).toInt = 5 from rfl) rfl (by omega) (by omega)) (show (3 : Int32).toInt = 3 from rfl) (by omega) (by omega)) (by omega) (by omega)
      refine ⟨o84, ?_⟩
      have t86 := i_nat (x := (((5 : Int32) * v3) + (3 : Int32))) (i_add (i_mul (show (5 : Int32).toInt = 5 from rfl) rfl (by omega) (by omega)) (show (3 : Int32).toInt = 3 from rfl) (by omega) (by omega)) (by omega)
      have h85 : ((((5 : Int32) * v3) + (3 : Int32)).toNatClampNeg % 5 = 0 → 0 ≤ (I b82 (((5 : Int32) * v3) + (3 : Int32)).toNatClampNeg).toInt ∧ (I b82 (((5 : Int32) * v3) + (3 : Int32)).toNatClampNeg).toInt ≤ 30) ∧ ((((5 : Int32) * v3) + (3 : Int32)).toNatClampNeg % 5 = 1 → 0 ≤ (I b82 (((5 : Int32) * v3) + (3 : Int32)).toNatClampNeg).toInt ∧ (I b82 (((5 : Int32) * v3) + (3 : Int32)).toNatClampNeg).toInt ≤ 9) ∧ ((((5 : Int32) * v3) + (3 : Int32)).toNatClampNeg % 5 = 2 → 0 ≤ (I b82 (((5 : Int32) * v3) + (3 : Int32)).toNatClampNeg).toInt ∧ (I b82 (((5 : Int32) * v3) + (3 : Int32)).toNatClampNeg).toInt ≤ 20) := w_I.arr 12 28 kv0 eb82 kb82 rfl rfl _
      first | (have h851 := h85.1 (by omega)) | (have h851 := h85.2.1 (by omega)) | (have h851 := h85.2.2 (by omega)) | skip
      clear h85
      refine ⟨fun c87 => ?_, fun c87 => ?_⟩
      · skip
        first | (have t88 : ¬ (v4.toInt = (I b82 (((5 : Int32) * v3) + (3 : Int32)).toNatClampNeg).toInt) := (not_congr (i_eq rfl rfl)).mp c87) | (have t88 : ¬ (v4.toInt = (I b82 (((5 : Int32) * v3) + (3 : Int32)).toNatClampNeg).toInt) := (not_congr (i_eq rfl rfl)).mp c87) | skip
        unfold f_X12_stairs_b225
        have o89 : vp_in (((8 : Int32) * v3) + v4) (jlen Z b80) := vi_of (i_add (i_mul (show (8 : Int32).toInt = 8 from rfl) rfl (by omega) (by omega)) rfl (by omega) (by omega)) (by omega) (by omega)
        refine ⟨o89, ?_⟩
        intro I90 eI90
        have t91 : (0 : Int32).toInt = 0 := rfl
        have w_I90 : WD Z I90 := by rw [eI90]; exact WD_putA w_I 12 5 kv0 eb80 kb80 rfl rfl (by decide) trivial
        have f_I90 : FR [(12, 5)] Z I Z I90 := by rw [eI90]; exact FR_upA w_I.2.1 kv0 eb80 kb80 rfl rfl List.mem_cons_self
        have q_I90 : FR Ws_X12_stairs Z0 I0 Z I90 := q_I.trans w0.1 w0.2.1 (f_I90.mono (by decide))
        have u92 : (I90 v0 19).toInt = (I v0 19).toInt := by rw [f_I90.2.2.1 v0 12 19 kv0 (by decide) (by decide)]
        have u93 : (I90 v0 0).toInt = (I v0 0).toInt := by rw [f_I90.2.2.1 v0 12 0 kv0 (by decide) (by decide)]
        intro x94 ex94
        have rx94 := i_rng x94
        first | (have tx94 : x94.toInt = v4.toInt + (1) := by (rw [ex94]; exact (i_add rfl (show (1 : Int32).toInt = 1 from rfl) (by omega) (by omega)))) | skip
        exact ih x94 Z I90 L w_I90 bd_Z q_I90 cp_Z   (by omega) (by omega) (by omega)
      · skip
        first | (have t95 : v4.toInt = (I b82 (((5 : Int32) * v3) + (3 : Int32)).toNatClampNeg).toInt := (i_eq rfl rfl).mp c87) | (have t95 : v4.toInt = (I b82 (((5 : Int32) * v3) + (3 : Int32)).toNatClampNeg).toInt := (i_eq rfl rfl).mp c87) | skip
        unfold f_X12_stairs_b225
        have o96 : vp_in (((8 : Int32) * v3) + v4) (jlen Z b80) := vi_of (i_add (i_mul (show (8 : Int32).toInt = 8 from rfl) rfl (by omega) (by omega)) rfl (by omega) (by omega)) (by omega) (by omega)
        refine ⟨o96, ?_⟩
        intro I97 eI97
        have t98 : (720 : Int32).toInt = 720 := rfl
        have w_I97 : WD Z I97 := by rw [eI97]; exact WD_putA w_I 12 5 kv0 eb80 kb80 rfl rfl (by decide) trivial
        have f_I97 : FR [(12, 5)] Z I Z I97 := by rw [eI97]; exact FR_upA w_I.2.1 kv0 eb80 kb80 rfl rfl List.mem_cons_self
        have q_I97 : FR Ws_X12_stairs Z0 I0 Z I97 := q_I.trans w0.1 w0.2.1 (f_I97.mono (by decide))
        have u99 : (I97 v0 19).toInt = (I v0 19).toInt := by rw [f_I97.2.2.1 v0 12 19 kv0 (by decide) (by decide)]
        have u100 : (I97 v0 0).toInt = (I v0 0).toInt := by rw [f_I97.2.2.1 v0 12 0 kv0 (by decide) (by decide)]
        intro x101 ex101
        have rx101 := i_rng x101
        first | (have tx101 : x101.toInt = v4.toInt + (1) := by (rw [ex101]; exact (i_add rfl (show (1 : Int32).toInt = 1 from rfl) (by omega) (by omega)))) | skip
        exact ih x101 Z I97 L w_I97 bd_Z q_I97 cp_Z   (by omega) (by omega) (by omega)
set_option maxHeartbeats 4000000 in
set_option maxRecDepth 100000 in
theorem l10_X12_stairs_L131 {B : Nat × Nat} {T : Nat} {Z0 : jZ} {I0 : jI} {Q : Int32 → jZ → jI → jL → Prop} (w0 : WD Z0 I0) (v0 : Nat) (kv0 : jk Z0 v0 12) (uM : Nat) (huM : jr Z0 v0 18 = some uM) (v1 : Int32) (hQ : ∀ (r : Int32) (Z' : jZ) (I' : jI) (L' : jL), WD Z' I' → BUD B Z' T → FR Ws_X12_stairs Z0 I0 Z' I' → CP Z0 Z' → ((I' v0 19).toInt = 0 ∧ r.toInt = stA (I0 uM) (I0 v0 19).toInt ∧ (0 ≤ r.toInt → (I' v0 0).toInt = r.toInt) ∧ (r.toInt < 0 → (I' v0 0).toInt = (I0 v0 0).toInt)) → Q r Z' I' L') : ∀ (n : Nat) (v3 : Int32) (Z : jZ) (I : jI) (L : jL), WD Z I → BUD B Z T → FR Ws_X12_stairs Z0 I0 Z I → CP Z0 Z →   (0 ≤ v3.toInt ∧ v3.toInt ≤ 24 ∧ v1.toInt ≤ 24 ∧ (I v0 19).toInt = 0 ∧ v1.toInt = stA (I0 uM) (I0 v0 19).toInt ∧ 2 ≤ v1.toInt ∧ (I v0 0).toInt = v1.toInt) → 24 - v3.toInt < (n : Int) → f_X12_stairs_L131 B  Q n v0 v1 v3 Z I L := by
  intro n
  induction n with
  | zero =>
    intro v3 Z I L w_I bd_Z q_I cp_Z   li  me
    exfalso
    omega
  | succ n ih =>
    intro v3 Z I L w_I bd_Z q_I cp_Z   li  me
    unfold f_X12_stairs_L131
    have rv3 := i_rng v3
    have rv1 := i_rng v1
    have kv0_0 := kv0
    have kv0 := (q_I.1 _ _ kv0).1
    have huM_1 : jr Z v0 18 = some uM := (q_I.2.1 v0 12 18 kv0_0 (by decide) (by decide)).trans huM
    have luM : jlen Z uM = 80 := by obtain ⟨b9, e9, -, l9⟩ := sh_f w_I.1 kv0 (j := 18) (k := 13) (m := 80) rfl; cases huM_1.symm.trans e9; exact l9
    have kuM : jk Z uM 13 := by obtain ⟨b9, e9, k9, -⟩ := sh_f w_I.1 kv0 (j := 18) (k := 13) (m := 80) rfl; cases huM_1.symm.trans e9; exact k9
    have t102 : 0 ≤ (I v0 19).toInt ∧ (I v0 19).toInt ≤ 80 := w_I.fld 12 19 kv0 (by decide)
    have t103 : 0 ≤ (I v0 0).toInt ∧ (I v0 0).toInt ≤ 24 := w_I.fld 12 0 kv0 (by decide)
    have xq_I := q_I.1
    refine ⟨fun c104 => ?_, fun c104 => ?_⟩
    · skip
      first | (have t105 : v1.toInt ≤ v3.toInt := (i_le rfl rfl).mp c104) | (have t105 : v1.toInt ≤ v3.toInt := (i_le rfl rfl).mp c104) | skip
      intro I106 eI106
      try (have t107 : ((I v0 7) + (1 : Int32)).toInt = ((I v0 7).toInt + (1)) := (i_add rfl (show (1 : Int32).toInt = 1 from rfl) (by omega) (by omega)))
      have w_I106 : WD Z I106 := by rw [eI106]; exact WD_putF w_I 12 7 kv0 (by decide) (by decide) trivial
      have f_I106 : FR [(12, 7)] Z I Z I106 := by rw [eI106]; exact FR_putF kv0 (by decide) List.mem_cons_self
      have q_I106 : FR Ws_X12_stairs Z0 I0 Z I106 := q_I.trans w0.1 w0.2.1 (f_I106.mono (by decide))
      have u108 : (I106 v0 19).toInt = (I v0 19).toInt := by rw [f_I106.2.2.1 v0 12 19 kv0 (by decide) (by decide)]
      have u109 : (I106 v0 0).toInt = (I v0 0).toInt := by rw [f_I106.2.2.1 v0 12 0 kv0 (by decide) (by decide)]
      first | (have u110 : (I106 v0 7).toInt = ((I v0 7).toInt + (1)) := by (rw [eI106, show jpI I v0 7 ((I v0 7) + (1 : Int32)) v0 7 = ((I v0 7) + (1 : Int32)) from jpI_at] <;> exact (i_add rfl (show (1 : Int32).toInt = 1 from rfl) (by omega) (by omega)))) | skip
      intro I111 eI111
      have t112 : (0 : Int32).toInt = 0 := rfl
      have w_I111 : WD Z I111 := by rw [eI111]; exact WD_putF w_I106 12 52 kv0 (by decide) (by decide) (by constructor <;> omega)
      have f_I111 : FR [(12, 52)] Z I106 Z I111 := by rw [eI111]; exact FR_putF kv0 (by decide) List.mem_cons_self
      have q_I111 : FR Ws_X12_stairs Z0 I0 Z I111 := q_I106.trans w0.1 w0.2.1 (f_I111.mono (by decide))
      have u113 : (I111 v0 19).toInt = (I106 v0 19).toInt := by rw [f_I111.2.2.1 v0 12 19 kv0 (by decide) (by decide)]
      have u114 : (I111 v0 0).toInt = (I106 v0 0).toInt := by rw [f_I111.2.2.1 v0 12 0 kv0 (by decide) (by decide)]
      have u115 : (I111 v0 7).toInt = (I106 v0 7).toInt := by rw [f_I111.2.2.1 v0 12 7 kv0 (by decide) (by decide)]
      first | (have u116 : (I111 v0 52).toInt = (0) := by (rw [eI111, show jpI I106 v0 52 (0 : Int32) v0 52 = (0 : Int32) from jpI_at] <;> exact (show (0 : Int32).toInt = 0 from rfl))) | skip
      have t117 : (0 : Int32).toInt = 0 := rfl
      exact ⟨(8 - (0 : Int32).toInt).toNat + 1, l10_X12_stairs_L280 w0 v0 kv0_0 uM huM v1  hQ   _ (0 : Int32) Z I111 L w_I111 bd_Z q_I111 cp_Z   (by omega)  (by omega)⟩
    · skip
      first | (have t118 : ¬ (v1.toInt ≤ v3.toInt) := (not_congr (i_le rfl rfl)).mp c104) | (have t118 : ¬ (v1.toInt ≤ v3.toInt) := (not_congr (i_le rfl rfl)).mp c104) | skip
      intro b119 eb119
      obtain ⟨x120, ex120, kb119, lb119⟩ := sh_f w_I.1 kv0 (j := 1) (k := 14) (m := 24) rfl
      cases eb119.symm.trans ex120
      intro b121 eb121
      obtain ⟨x122, ex122, kb121, lb121⟩ := sh_f w_I.1 kv0 (j := 28) (k := 14) (m := 120) rfl
      cases eb121.symm.trans ex122
      have o123 : vp_in ((5 : Int32) * v3) 120 := vi_of (i_mul (show (5 : Int32).toInt = 5 from rfl) rfl (by omega) (by omega)) (by omega) (by omega)
      refine ⟨o123, ?_⟩
      have t125 := i_nat (x := ((5 : Int32) * v3)) (i_mul (show (5 : Int32).toInt = 5 from rfl) rfl (by omega) (by omega)) (by omega)
      have h124 : (((5 : Int32) * v3).toNatClampNeg % 5 = 0 → 0 ≤ (I b121 ((5 : Int32) * v3).toNatClampNeg).toInt ∧ (I b121 ((5 : Int32) * v3).toNatClampNeg).toInt ≤ 30) ∧ (((5 : Int32) * v3).toNatClampNeg % 5 = 1 → 0 ≤ (I b121 ((5 : Int32) * v3).toNatClampNeg).toInt ∧ (I b121 ((5 : Int32) * v3).toNatClampNeg).toInt ≤ 9) ∧ (((5 : Int32) * v3).toNatClampNeg % 5 = 2 → 0 ≤ (I b121 ((5 : Int32) * v3).toNatClampNeg).toInt ∧ (I b121 ((5 : Int32) * v3).toNatClampNeg).toInt ≤ 20) := w_I.arr 12 28 kv0 eb121 kb121 rfl rfl _
      first | (have h1241 := h124.1 (by omega)) | (have h1241 := h124.2.1 (by omega)) | (have h1241 := h124.2.2 (by omega)) | skip
      clear h124
      have o126 : vp_in v3 24 := vi_of rfl (by omega) (by omega)
      refine ⟨o126, ?_⟩
      intro I127 eI127
      have w_I127 : WD Z I127 := by rw [eI127]; exact WD_putA w_I 12 1 kv0 eb119 kb119 rfl rfl (by decide) (by constructor <;> omega)
      have f_I127 : FR [(12, 1)] Z I Z I127 := by rw [eI127]; exact FR_upA w_I.2.1 kv0 eb119 kb119 rfl rfl List.mem_cons_self
      have q_I127 : FR Ws_X12_stairs Z0 I0 Z I127 := q_I.trans w0.1 w0.2.1 (f_I127.mono (by decide))
      have u128 : (I127 v0 19).toInt = (I v0 19).toInt := by rw [f_I127.2.2.1 v0 12 19 kv0 (by decide) (by decide)]
      have u129 : (I127 v0 0).toInt = (I v0 0).toInt := by rw [f_I127.2.2.1 v0 12 0 kv0 (by decide) (by decide)]
      intro b130 eb130
      obtain ⟨x131, ex131, kb130, lb130⟩ := sh_f w_I127.1 kv0 (j := 2) (k := 14) (m := 24) rfl
      cases eb130.symm.trans ex131
      intro b132 eb132
      obtain rfl : b121 = b132 := Option.some.inj (eb121.symm.trans eb132)
      have o133 : vp_in (((5 : Int32) * v3) + (1 : Int32)) 120 := vi_of (i_add (i_mul (show (5 : Int32).toInt = 5 from rfl) rfl (by omega) (by omega)) (show (1 : Int32).toInt = 1 from rfl) (by omega) (by omega)) (by omega) (by omega)
      refine ⟨o133, ?_⟩
      have t135 := i_nat (x := (((5 : Int32) * v3) + (1 : Int32))) (i_add (i_mul (show (5 : Int32).toInt = 5 from rfl) rfl (by omega) (by omega)) (show (1 : Int32).toInt = 1 from rfl) (by omega) (by omega)) (by omega)
      have h134 : ((((5 : Int32) * v3) + (1 : Int32)).toNatClampNeg % 5 = 0 → 0 ≤ (I127 b121 (((5 : Int32) * v3) + (1 : Int32)).toNatClampNeg).toInt ∧ (I127 b121 (((5 : Int32) * v3) + (1 : Int32)).toNatClampNeg).toInt ≤ 30) ∧ ((((5 : Int32) * v3) + (1 : Int32)).toNatClampNeg % 5 = 1 → 0 ≤ (I127 b121 (((5 : Int32) * v3) + (1 : Int32)).toNatClampNeg).toInt ∧ (I127 b121 (((5 : Int32) * v3) + (1 : Int32)).toNatClampNeg).toInt ≤ 9) ∧ ((((5 : Int32) * v3) + (1 : Int32)).toNatClampNeg % 5 = 2 → 0 ≤ (I127 b121 (((5 : Int32) * v3) + (1 : Int32)).toNatClampNeg).toInt ∧ (I127 b121 (((5 : Int32) * v3) + (1 : Int32)).toNatClampNeg).toInt ≤ 20) := w_I127.arr 12 28 kv0 eb121 kb121 rfl rfl _
      first | (have h1341 := h134.1 (by omega)) | (have h1341 := h134.2.1 (by omega)) | (have h1341 := h134.2.2 (by omega)) | skip
      clear h134
      have o136 : vp_in v3 24 := vi_of rfl (by omega) (by omega)
      refine ⟨o136, ?_⟩
      intro I137 eI137
      have w_I137 : WD Z I137 := by rw [eI137]; exact WD_putA w_I127 12 2 kv0 eb130 kb130 rfl rfl (by decide) (by constructor <;> omega)
      have f_I137 : FR [(12, 2)] Z I127 Z I137 := by rw [eI137]; exact FR_upA w_I127.2.1 kv0 eb130 kb130 rfl rfl List.mem_cons_self
      have q_I137 : FR Ws_X12_stairs Z0 I0 Z I137 := q_I127.trans w0.1 w0.2.1 (f_I137.mono (by decide))
      have u138 : (I137 v0 19).toInt = (I127 v0 19).toInt := by rw [f_I137.2.2.1 v0 12 19 kv0 (by decide) (by decide)]
      have u139 : (I137 v0 0).toInt = (I127 v0 0).toInt := by rw [f_I137.2.2.1 v0 12 0 kv0 (by decide) (by decide)]
      intro b140 eb140
      obtain ⟨x141, ex141, kb140, lb140⟩ := sh_f w_I137.1 kv0 (j := 3) (k := 14) (m := 24) rfl
      cases eb140.symm.trans ex141
      intro b142 eb142
      obtain rfl : b121 = b142 := Option.some.inj (eb121.symm.trans eb142)
      have o143 : vp_in (((5 : Int32) * v3) + (2 : Int32)) 120 := vi_of (i_add (i_mul (show (5 : Int32).toInt = 5 from rfl) rfl (by omega) (by omega)) (show (2 : Int32).toInt = 2 from rfl) (by omega) (by omega)) (by omega) (by omega)
      refine ⟨o143, ?_⟩
      have t145 := i_nat (x := (((5 : Int32) * v3) + (2 : Int32))) (i_add (i_mul (show (5 : Int32).toInt = 5 from rfl) rfl (by omega) (by omega)) (show (2 : Int32).toInt = 2 from rfl) (by omega) (by omega)) (by omega)
      have h144 : ((((5 : Int32) * v3) + (2 : Int32)).toNatClampNeg % 5 = 0 → 0 ≤ (I137 b121 (((5 : Int32) * v3) + (2 : Int32)).toNatClampNeg).toInt ∧ (I137 b121 (((5 : Int32) * v3) + (2 : Int32)).toNatClampNeg).toInt ≤ 30) ∧ ((((5 : Int32) * v3) + (2 : Int32)).toNatClampNeg % 5 = 1 → 0 ≤ (I137 b121 (((5 : Int32) * v3) + (2 : Int32)).toNatClampNeg).toInt ∧ (I137 b121 (((5 : Int32) * v3) + (2 : Int32)).toNatClampNeg).toInt ≤ 9) ∧ ((((5 : Int32) * v3) + (2 : Int32)).toNatClampNeg % 5 = 2 → 0 ≤ (I137 b121 (((5 : Int32) * v3) + (2 : Int32)).toNatClampNeg).toInt ∧ (I137 b121 (((5 : Int32) * v3) + (2 : Int32)).toNatClampNeg).toInt ≤ 20) := w_I137.arr 12 28 kv0 eb121 kb121 rfl rfl _
      first | (have h1441 := h144.1 (by omega)) | (have h1441 := h144.2.1 (by omega)) | (have h1441 := h144.2.2 (by omega)) | skip
      clear h144
      have o146 : vp_in v3 24 := vi_of rfl (by omega) (by omega)
      refine ⟨o146, ?_⟩
      intro I147 eI147
      have w_I147 : WD Z I147 := by rw [eI147]; exact WD_putA w_I137 12 3 kv0 eb140 kb140 rfl rfl (by decide) (by constructor <;> omega)
      have f_I147 : FR [(12, 3)] Z I137 Z I147 := by rw [eI147]; exact FR_upA w_I137.2.1 kv0 eb140 kb140 rfl rfl List.mem_cons_self
      have q_I147 : FR Ws_X12_stairs Z0 I0 Z I147 := q_I137.trans w0.1 w0.2.1 (f_I147.mono (by decide))
      have u148 : (I147 v0 19).toInt = (I137 v0 19).toInt := by rw [f_I147.2.2.1 v0 12 19 kv0 (by decide) (by decide)]
      have u149 : (I147 v0 0).toInt = (I137 v0 0).toInt := by rw [f_I147.2.2.1 v0 12 0 kv0 (by decide) (by decide)]
      have t150 : (0 : Int32).toInt = 0 := rfl
      exact ⟨(8 - (0 : Int32).toInt).toNat + 1, l10_X12_stairs_L185 w0 v0 kv0_0 uM huM v1 v3  hQ ih  _ (0 : Int32) Z I147 L w_I147 bd_Z q_I147 cp_Z   (by omega) (by omega) (by omega)⟩

set_option maxHeartbeats 4000000 in
theorem s10_X12_stairs {B : Nat × Nat} {T : Nat} {Z : jZ} {I : jI} {L : jL} (w : WD Z I) (bd : BUD B Z T) (v0 : Nat) (kv0 : jk Z v0 12) (uM : Nat) (huM : jr Z v0 18 = some uM) {Q : Int32 → jZ → jI → jL → Prop} (hQ : ∀ (r : Int32) (Z' : jZ) (I' : jI) (L' : jL), WD Z' I' → BUD B Z' T → FR Ws_X12_stairs Z I Z' I' → CP Z Z' → ((I' v0 19).toInt = 0 ∧ r.toInt = stA (I uM) (I v0 19).toInt ∧ (0 ≤ r.toInt → (I' v0 0).toInt = r.toInt) ∧ (r.toInt < 0 → (I' v0 0).toInt = (I v0 0).toInt)) → Q r Z' I' L') : f_X12_stairs B v0 Z I L Q := by
  obtain ⟨b9, e9, kuM, l9⟩ := sh_f w.1 kv0 (j := 18) (k := 13) (m := 80) rfl
  cases huM.symm.trans e9
  have hne : uM ≠ v0 := fun e => by subst e; have := kv0.2.symm.trans kuM.2; omega
  have sz : 0 ≤ (I v0 19).toInt ∧ (I v0 19).toInt ≤ 80 := w.fld 12 19 kv0 (by decide)
  unfold f_X12_stairs
  intro I1 e1 b eb
  cases huM.symm.trans eb
  have w1 : WD Z I1 := by rw [e1]; exact WD_putF w 12 22 kv0 (by decide) (by decide) trivial
  have f1 : FR Ws_X12_stairs Z I Z I1 := by rw [e1]; exact FR_putF kv0 (by decide) (by decide)
  have z1 : I1 v0 19 = I v0 19 := by rw [e1, jpI_o (by decide)]
  have b1 : I1 uM = I uM := by rw [e1, jpI_ne hne]
  refine s_X12_begin w1 bd v0 uM (I1 v0 19) 76 kv0 kuM v0 12 18 kv0 huM (fun Z2 I2 L2 w2 bd2 f2 cp2 p2 => ?_)
  obtain ⟨r2, p24, p25, p26, p27⟩ := p2
  intro I3 e3
  have k2 : jk Z2 v0 12 := (f2.1 _ _ kv0).1
  have kM2 : jk Z2 uM 13 := (f2.1 _ _ kuM).1
  have lM2 : jlen Z2 uM = 80 := (f2.1 _ _ kuM).2.trans l9
  have h2M : jr Z2 v0 18 = some uM := (f2.2.1 v0 12 18 kv0 (by decide) (by decide)).trans huM
  have b2 : I2 uM = I1 uM := f2.2.2.2 v0 12 18 uM kv0 huM (by rw [kuM.2]; rfl) rfl (by decide)
  have w3 : WD Z2 I3 := by rw [e3]; exact WD_putF w2 12 19 k2 (by decide) (by decide) (show rg 0 80 _ from ⟨by decide, by decide⟩)
  have f2' : FR Ws_X12_stairs Z I Z2 I2 := f1.trans w.1 w.2.1 (f2.mono (by decide))
  have f3 : FR Ws_X12_stairs Z I Z2 I3 := f2'.trans w.1 w.2.1 (by rw [e3]; exact FR_putF k2 (by decide) (by decide))
  have b3 : I3 uM = I uM := by rw [e3, jpI_ne hne, b2, b1]
  have z3 : (I3 v0 19).toInt = 0 := by rw [e3, jpI_at]; rfl
  have t : MT Z2 I3 v0 uM (I v0 19).toInt := ⟨w3, k2, h2M, r2, kM2, lM2, sz.1, sz.2⟩
  have s : MR Z2 I3 v0 (I v0 19).toInt I3 0 (-1) := by
    refine ⟨w3, FR.rf, ?_, ?_, ?_, ?_⟩
    · rw [e3, jpI_o (by decide)]; exact p26
    · rw [e3, jpI_o (by decide)]; exact p27
    · rw [e3, jpI_o (by decide), p24, z1]
    · rw [e3, jpI_o (by decide)]; exact p25
  have fin : ∀ (r : Int32) (I' : jI) (a' F' : Int), MR Z2 I3 v0 (I v0 19).toInt I' a' F' → r.toInt = stA (I uM) (I v0 19).toInt → r.toInt < 0 → Q r Z2 I' L2 := by
    intro r I' a' F' s' e' hr
    refine hQ r Z2 I' L2 s'.1 bd2 (f3.trans w.1 w.2.1 (s'.2.1.mono (by decide))) cp2 ⟨?_, e', fun q => by omega, fun _ => ?_⟩
    · rw [s'.2.1.2.2.1 v0 12 19 k2 (by decide) (by decide)]
      exact z3
    · rw [s'.2.1.2.2.1 v0 12 0 k2 (by decide) (by decide), e3, jpI_o (by decide), f2.2.2.1 v0 12 0 kv0 (by decide) (by decide), e1, jpI_o (by decide)]
  have z0 : (0 : Int32).toInt = 0 := rfl
  have e24 : (I3 v0 24).toInt = (I v0 19).toInt := s.2.2.2.2.1
  unfold f_X12_stairs_b38
  refine ⟨fun c => ?_, fun c => ?_⟩
  · have c := (i_le e24 z0).mp c
    have hS : stA (I uM) (I v0 19).toInt = -100 := by unfold stA; rw [if_pos c]
    refine ⟨1, ?_⟩
    unfold f_X12_stairs_L39
    refine ⟨fun _ => ?_, fun c => absurd rfl c⟩
    have b102 : f_X12_stairs_b102 B Q v0 0 Z2 I3 L2 := by
      unfold f_X12_stairs_b102
      refine m_fine s (fun _ => ⟨fun _ => ⟨fun c1 => absurd c1 (by decide), fun _ => fin _ I3 0 (-1) s (by rw [hS]; rfl) (by decide)⟩, fun c => absurd c (by decide)⟩) (fun c => absurd rfl c)
    unfold f_X12_stairs_b83
    refine ⟨fun _ => b102, fun c1 => ?_⟩
    exact absurd ((i_le e24 s.2.2.1).mpr (by omega)) c1
  · have c := (not_congr (i_le e24 z0)).mp c
    refine ⟨79, m_lines t (fun I' a F v1 s' e => ?_) 79 77 0 0 I3 s (by rw [z0]; omega) (by rw [z0]; omega) (by omega) (by omega) (by omega) (by omega) (by rw [z0])⟩
    refine m_b83 t s' (by omega) e (fun r I'' a' F' s'' e' hr => fin r I'' a' F' s'' (by rw [b3] at e'; exact e') hr) (fun I'' a' F' s'' e' h2 I66 e66 => ?_)
    rw [b3] at e'
    have v24 : v1.toInt ≤ 24 := by
      have := rdS_hi (g := GS (I3 uM) (min (I v0 19).toInt 76)) (lim := min (I v0 19).toInt 76) 77 0 0 (by omega) (by omega)
      rcases e with ⟨q1, q2⟩ | ⟨q1, q2, q0, q3⟩ | ⟨q1, q2, q3⟩
      · rw [← q2] at this; exact this
      · rw [← q3] at this; exact this
      · rw [← q3] at this; exact this
    have w66 : WD Z2 I66 := by rw [e66]; exact WD_putF s''.1 12 0 k2 (by decide) (by decide) (show rg 0 24 _ from ⟨by omega, by omega⟩)
    have f66 : FR Ws_X12_stairs Z I Z2 I66 := (f3.trans w.1 w.2.1 (s''.2.1.mono (by decide))).trans w.1 w.2.1 (by rw [e66]; exact FR_putF k2 (by decide) (by decide))
    have z66 : (I66 v0 19).toInt = 0 := by
      rw [e66, jpI_o (by decide), s''.2.1.2.2.1 v0 12 19 k2 (by decide) (by decide)]
      exact z3
    have z60 : (I66 v0 0).toInt = v1.toInt := by rw [e66, jpI_at]
    exact ⟨25, l10_X12_stairs_L131 w v0 kv0 uM huM v1 hQ 25 0 Z2 I66 L2 w66 bd2 f66 cp2 (by rw [z0]; omega) (by rw [z0]; omega)⟩
end
