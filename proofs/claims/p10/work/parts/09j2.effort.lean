/-! ===== the model's table by effort ===== -/
/-- v is what the table may hold at row f, effort e -/
def DP1 (N : Int) (C E Bf : Nat → Int32) (f e : Nat) (v : Int) : Prop :=
  v = 1000000000 ∨ (0 ≤ v ∧ v ≤ 29701 * (N - f) ∧ (((f : Int) = N ∧ e = 0) ∨ ∃ far k i : Nat, 1 ≤ far ∧ far ≤ 3 ∧ k + 1 = 3 * f + far ∧ ¬ (C k).toInt = 1000000000 ∧ (E k).toInt ≤ (e : Int) ∧ (i : Int) = 1000 * ((f : Int) + far) + e - (E k).toInt ∧ ¬ (Bf i).toInt = 1000000000 ∧ v = (Bf i).toInt + 100 * (C k).toInt + 1))
/-- the rows above F are done, of row F the efforts below e1 -/
def DPR (N most : Int) (C E Bf : Nat → Int32) (F e1 : Int) : Prop :=
  ∀ f e : Nat, (f : Int) ≤ N → (e : Int) ≤ most → (F + 1 ≤ (f : Int) ∨ ((f : Int) = F ∧ (e : Int) < e1)) → DP1 N C E Bf f e (Bf (1000 * f + e)).toInt
theorem DP1.upd {N : Int} {C E Bf Bf' : Nat → Int32} {f e j0 : Nat} {v : Int} (hB : ∀ q, q ≠ j0 → Bf' q = Bf q) (hj : j0 < 1000 * (f + 1)) (h : DP1 N C E Bf f e v) : DP1 N C E Bf' f e v := by
  rcases h with h | ⟨h1, h2, h3⟩
  · exact Or.inl h
  · refine Or.inr ⟨h1, h2, ?_⟩
    rcases h3 with h3 | ⟨far, k, i, g1, g2, g3, g4, g5, g6, g7, g8⟩
    · exact Or.inl h3
    · have : Bf' i = Bf i := hB i (fun q => by omega)
      exact Or.inr ⟨far, k, i, g1, g2, g3, g4, g5, g6, by rw [this]; exact g7, by rw [this]; exact g8⟩
theorem DPR.step {N most : Int} {C E Bf Bf' : Nat → Int32} {F e1 v : Int} {f e j0 : Nat} (h : DPR N most C E Bf F e1) (hd : DP1 N C E Bf f e v) (hf : (f : Int) = F) (he : (e : Int) = e1) (hm : most ≤ 999) (he9 : e ≤ 999) (hj : j0 = 1000 * f + e) (hB : ∀ q, q ≠ j0 → Bf' q = Bf q) (hv : (Bf' j0).toInt = v) {e2 : Int} (h2 : e2 = e1 + 1) : DPR N most C E Bf' F e2 := by
  intro f' e' a1 a2 a3
  by_cases q : f' = f ∧ e' = e
  · obtain ⟨rfl, rfl⟩ := q
    rw [← hj, hv]
    exact DP1.upd hB (by omega) hd
  · have hne : 1000 * f' + e' ≠ j0 := fun z => q (by constructor <;> omega)
    rw [hB _ hne]
    refine DP1.upd hB (by omega) (h f' e' a1 a2 ?_)
    rcases a3 with a3 | a3
    · exact Or.inl a3
    · refine Or.inr ⟨a3.1, ?_⟩
      by_cases z : e' = e
      · exact absurd ⟨by omega, z⟩ q
      · omega
theorem DPR.next {N most : Int} {C E Bf : Nat → Int32} {F e1 : Int} (h : DPR N most C E Bf F e1) (he : most < e1) {F' : Int} (hF : F' + 1 = F) : DPR N most C E Bf F' 0 := by
  intro f e a1 a2 a3
  refine h f e a1 a2 ?_
  omega
theorem DPR.zero {N most : Int} {C E Bf : Nat → Int32} {F : Int} (h : N ≤ F) : DPR N most C E Bf F 0 := fun f e a1 a2 a3 => by omega
/-- what stands in a row above -/
theorem DPR.at {N most : Int} {C E Bf : Nat → Int32} {F e1 : Int} (h : DPR N most C E Bf F e1) {x : Int32} {A : Int} (hx : x.toInt = A) (f e : Int) (hA : A = 1000 * f + e) (h0 : 0 ≤ e ∧ e ≤ most) (h1 : 0 ≤ f ∧ F + 1 ≤ f ∧ f ≤ N) : (Bf x.toNatClampNeg).toInt = 1000000000 ∨ (0 ≤ (Bf x.toNatClampNeg).toInt ∧ (Bf x.toNatClampNeg).toInt ≤ 29701 * (N - f)) := by
  have hn := i_nat hx (by omega)
  have g := h f.toNat e.toNat (by omega) (by omega) (by omega)
  have ei : 1000 * f.toNat + e.toNat = x.toNatClampNeg := by omega
  rw [ei] at g
  rcases g with g | ⟨g1, g2, -⟩
  · exact Or.inl g
  · refine Or.inr ⟨g1, ?_⟩
    have : ((f.toNat : Nat) : Int) = f := by omega
    rw [this] at g2
    exact g2
theorem DP1.cand {N : Int} {C E Bf : Nat → Int32} {f e : Nat} {v : Int} (h : DP1 N C E Bf f e v) {k i x : Int32} {far : Int} (hk : k.toInt = 3 * (f : Int) + far - 1) (h1 : 1 ≤ far ∧ far ≤ 3) (hc : ¬ (C k.toNatClampNeg).toInt = 1000000000) (hc2 : 0 ≤ (C k.toNatClampNeg).toInt ∧ (C k.toNatClampNeg).toInt ≤ 297) (hE : (E k.toNatClampNeg).toInt ≤ (e : Int)) {A : Int} (hi : i.toInt = A) (hA : A = 1000 * ((f : Int) + far) + e - (E k.toNatClampNeg).toInt)
    (ht : ¬ (Bf i.toNatClampNeg).toInt = 1000000000) (ht2 : 0 ≤ (Bf i.toNatClampNeg).toInt ∧ (Bf i.toNatClampNeg).toInt ≤ 29701 * (N - (f + far))) (hx : x.toInt = min v ((Bf i.toNatClampNeg).toInt + 100 * (C k.toNatClampNeg).toInt + 1)) : DP1 N C E Bf f e x.toInt := by
  by_cases q : v ≤ (Bf i.toNatClampNeg).toInt + 100 * (C k.toNatClampNeg).toInt + 1
  · rw [hx, Int.min_eq_left q]
    exact h
  · have hn := i_nat (x := k) rfl (by omega)
    have hm := i_nat (x := i) rfl (by omega)
    have hx' : x.toInt = (Bf i.toNatClampNeg).toInt + 100 * (C k.toNatClampNeg).toInt + 1 := by omega
    refine Or.inr ⟨by omega, by omega, Or.inr ⟨far.toNat, k.toNatClampNeg, i.toNatClampNeg, by omega, by omega, by omega, hc, hE, by omega, ht, hx'⟩⟩
/-- far leads on from row f with e left -/
def CN (C E Bf : Nat → Int32) (f e far : Int) : Prop := ∃ k i : Nat, (k : Int) = 3 * f + far - 1 ∧ ¬ (C k).toInt = 1000000000 ∧ (E k).toInt ≤ e ∧ (i : Int) = 1000 * (f + far) + e - (E k).toInt ∧ ¬ (Bf i).toInt = 1000000000 ∧ (Bf (1000 * f + e).toNat).toInt = (Bf i).toInt + 100 * (C k).toInt + 1
theorem DPR.cn {N most : Int} {C E Bf : Nat → Int32} (h : DPR N most C E Bf (-1) 0) {f e : Int} (h0 : 0 ≤ f ∧ f < N ∧ 0 ≤ e ∧ e ≤ most) (hn : ¬ (Bf (1000 * f + e).toNat).toInt = 1000000000) : ∃ far : Int, 1 ≤ far ∧ far ≤ 3 ∧ CN C E Bf f e far := by
  have g := h f.toNat e.toNat (by omega) (by omega) (by omega)
  have ei : 1000 * f.toNat + e.toNat = (1000 * f + e).toNat := by omega
  rw [ei] at g
  rcases g with g | ⟨-, -, g | ⟨far, k, i, g1, g2, g3, g4, g5, g6, g7, g8⟩⟩
  · exact absurd g hn
  · exfalso; omega
  · exact ⟨(far : Int), by omega, by omega, k, i, by omega, g4, by omega, by omega, g7, g8⟩
theorem CN.no1 {C E Bf : Nat → Int32} {f e far : Int} {k : Int32} (hk : k.toInt = 3 * f + far - 1) (h0 : 0 ≤ k.toInt) (h : (C k.toNatClampNeg).toInt = 1000000000 ∨ e < (E k.toNatClampNeg).toInt) : ¬ CN C E Bf f e far := by
  rintro ⟨k', i', g1, g2, g3, -⟩
  have hn := i_nat (x := k) rfl h0
  obtain rfl : k' = k.toNatClampNeg := by omega
  rcases h with h | h
  · exact g2 h
  · omega
theorem CN.iff {C E Bf : Nat → Int32} {f e far : Int} {k i : Int32} (hk : k.toInt = 3 * f + far - 1) (h0 : 0 ≤ k.toInt) (hi : i.toInt = 1000 * (f + far) + e - (E k.toNatClampNeg).toInt) (h1 : 0 ≤ i.toInt) (hC : ¬ (C k.toNatClampNeg).toInt = 1000000000) (hE : (E k.toNatClampNeg).toInt ≤ e) :
    CN C E Bf f e far ↔ (¬ (Bf i.toNatClampNeg).toInt = 1000000000 ∧ (Bf (1000 * f + e).toNat).toInt = (Bf i.toNatClampNeg).toInt + 100 * (C k.toNatClampNeg).toInt + 1) := by
  have hn := i_nat (x := k) rfl h0
  have hm := i_nat (x := i) rfl h1
  constructor
  · rintro ⟨k', i', g1, g2, g3, g4, g5, g6⟩
    obtain rfl : k' = k.toNatClampNeg := by omega
    obtain rfl : i' = i.toNatClampNeg := by omega
    exact ⟨g5, g6⟩
  · rintro ⟨g5, g6⟩
    exact ⟨k.toNatClampNeg, i.toNatClampNeg, by omega, hC, hE, by omega, g5, g6⟩
/-- the row of a climb: rising, the last one is where it is -/
def CRP (R : Nat → Int32) (m fr : Int) : Prop := (∀ q : Nat, (q : Int) < m → 0 ≤ (R q).toInt ∧ (R q).toInt ≤ fr ∧ ∀ p : Nat, p < q → (R p).toInt < (R q).toInt) ∧ (0 < m → (R (m - 1).toNat).toInt = fr) ∧ (m = 0 → fr = -1)
theorem CRP.zero {R : Nat → Int32} : CRP R 0 (-1) := ⟨fun q h => by omega, fun h => by omega, fun _ => rfl⟩
theorem CRP.step {R R' : Nat → Int32} {m fr m' fr' : Int} {x : Int32} (h : CRP R m fr) (hx : x.toInt = m) (h0 : 0 ≤ m) (hf : fr < fr') (hf0 : 0 ≤ fr') (hR : ∀ q, q ≠ x.toNatClampNeg → R' q = R q) (hv : (R' x.toNatClampNeg).toInt = fr') (hm : m' = m + 1) : CRP R' m' fr' := by
  have hn := i_nat hx h0
  refine ⟨fun q hq => ?_, fun _ => ?_, fun z => by omega⟩
  · by_cases e : q = x.toNatClampNeg
    · subst e
      refine ⟨by omega, by omega, fun p hp => ?_⟩
      rw [hR p (by omega), hv]
      have := (h.1 p (by omega)).2.1
      omega
    · rw [hR q e]
      have g := h.1 q (by omega)
      refine ⟨g.1, by omega, fun p hp => ?_⟩
      rw [hR p (by omega)]
      exact g.2.2 p hp
  · have : (m' - 1).toNat = x.toNatClampNeg := by omega
    rw [this, hv]
