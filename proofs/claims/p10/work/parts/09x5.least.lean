/-! ===== the best rows are least: a table has one such ===== -/
def DM1 (N : Int) (C E Bf : Nat → Int32) (f e : Nat) (lim v : Int) : Prop :=
  (((f : Int) = N ∧ e = 0) → v ≤ 0) ∧ ∀ far k i : Nat, 1 ≤ far → (far : Int) < lim → k + 1 = 3 * f + far → ¬ (C k).toInt = 1000000000 → (E k).toInt ≤ (e : Int) → (i : Int) = 1000 * ((f : Int) + far) + e - (E k).toInt → ¬ (Bf i).toInt = 1000000000 → v ≤ (Bf i).toInt + 100 * (C k).toInt + 1
def DMR (N most : Int) (C E Bf : Nat → Int32) (F e1 : Int) : Prop :=
  ∀ f e : Nat, (f : Int) ≤ N → (e : Int) ≤ most → (F + 1 ≤ (f : Int) ∨ ((f : Int) = F ∧ (e : Int) < e1)) → DM1 N C E Bf f e 4 (Bf (1000 * f + e)).toInt
theorem DM1.upd {N : Int} {C E Bf Bf' : Nat → Int32} {f e j0 : Nat} {lim v : Int} (hB : ∀ q, q ≠ j0 → Bf' q = Bf q) (hj : j0 < 1000 * (f + 1)) (h : DM1 N C E Bf f e lim v) : DM1 N C E Bf' f e lim v := by
  refine ⟨h.1, fun far k i a b c d g m n => ?_⟩
  rw [hB i (by omega)] at n ⊢
  exact h.2 far k i a b c d g m n
theorem DM1.init {N : Int} {C E Bf : Nat → Int32} {f e : Nat} {v : Int} (h : ((f : Int) = N ∧ e = 0) → v ≤ 0) : DM1 N C E Bf f e 1 v := ⟨h, fun far k i a b => by omega⟩
theorem DM1.more {N : Int} {C E Bf : Nat → Int32} {f e : Nat} {lim lim' v v' : Int} (h : DM1 N C E Bf f e lim v) (hv : v' ≤ v) (hl : lim' = lim + 1) (k0 : Nat) (hk : (k0 : Int) + 1 = 3 * (f : Int) + lim)
    (hc : ∀ i : Nat, ¬ (C k0).toInt = 1000000000 → (E k0).toInt ≤ (e : Int) → (i : Int) = 1000 * ((f : Int) + lim) + e - (E k0).toInt → ¬ (Bf i).toInt = 1000000000 → v' ≤ (Bf i).toInt + 100 * (C k0).toInt + 1) : DM1 N C E Bf f e lim' v' := by
  refine ⟨fun z => Int.le_trans hv (h.1 z), fun far k i a b c d g m n => ?_⟩
  by_cases hf : (far : Int) = lim
  · obtain rfl : k = k0 := by omega
    exact hc i d g (by rw [← hf]; exact m) n
  · exact Int.le_trans hv (h.2 far k i a (by omega) c d g m n)
theorem DMR.zero {N most : Int} {C E Bf : Nat → Int32} {F : Int} (h : N ≤ F) : DMR N most C E Bf F 0 := fun f e h1 h2 h3 => by omega
theorem DMR.next {N most : Int} {C E Bf : Nat → Int32} {F F' e1 : Int} (h : DMR N most C E Bf F e1) (he : most < e1) (hF : F' = F - 1) : DMR N most C E Bf F' 0 := fun f e h1 h2 h3 => h f e h1 h2 (by omega)
theorem DMR.step {N most : Int} {C E Bf Bf' : Nat → Int32} {F e1 e1' : Int} {f0 e0 j0 : Nat} {v : Int} (h : DMR N most C E Bf F e1) (h1 : DM1 N C E Bf f0 e0 4 v) (hf : (f0 : Int) = F) (he : (e0 : Int) = e1) (hj : j0 = 1000 * f0 + e0) (he0 : e0 < 1000) (hB : ∀ q, q ≠ j0 → Bf' q = Bf q) (hv : (Bf' j0).toInt = v) (he' : e1' = e1 + 1) (hm : most < 1000) : DMR N most C E Bf' F e1' := by
  intro f e a b c
  by_cases hs : f = f0 ∧ e = e0
  · obtain ⟨rfl, rfl⟩ := hs
    rw [← hj, hv]
    exact h1.upd hB (by omega)
  · rw [hB (1000 * f + e) (by omega)]
    exact (h f e a b (by omega)).upd hB (by omega)
theorem DP_le {N most : Int} {C E Bf C' E' Bf' : Nat → Int32} (hN : N ≤ 24) (mv : MVB (3 * (N + 1)) N C E) (hC : ∀ k : Nat, (k : Int) < 3 * (N + 1) → C' k = C k) (hE : ∀ k : Nat, (k : Int) < 3 * (N + 1) → ¬ (C k).toInt = 1000000000 → E' k = E k) (d : DPR N most C E Bf (-1) 0) (m : DMR N most C E Bf (-1) 0) (d' : DPR N most C' E' Bf' (-1) 0)
    {f e : Nat} (hf : (f : Int) ≤ N) (he : (e : Int) ≤ most) (ih : ∀ f2 e2 : Nat, f < f2 → (f2 : Int) ≤ N → (e2 : Int) ≤ most → (Bf' (1000 * f2 + e2)).toInt = (Bf (1000 * f2 + e2)).toInt) : (Bf (1000 * f + e)).toInt ≤ (Bf' (1000 * f + e)).toInt := by
  have h1 := d f e hf he (by omega)
  have h2 := m f e hf he (by omega)
  rcases d' f e hf he (by omega) with g | ⟨g1, g2, g3⟩
  · rw [g]
    rcases h1 with h | ⟨h3, h4, -⟩
    · omega
    · omega
  · rcases g3 with g | ⟨far, k, i, a1, a2, a3, a4, a5, a6, a7, a8⟩
    · have := h2.1 g
      omega
    · have hk : (k : Int) < 3 * (N + 1) := by omega
      rw [hC k hk] at a4 a8
      rw [hE k hk a4] at a5 a6
      have hm := (mv k hk).resolve_left a4
      have e1 : k / 3 = f := by omega
      have e2 : k % 3 + 1 = far := by omega
      obtain ⟨e3, he3⟩ : ∃ e3 : Nat, (e3 : Int) = e - (E k).toInt := ⟨((e : Int) - (E k).toInt).toNat, by omega⟩
      obtain rfl : i = 1000 * (f + far) + e3 := by omega
      have hi := ih (f + far) e3 (by omega) (by omega) (by omega)
      rw [hi] at a7 a8
      rw [a8]
      exact h2.2 far k _ a1 (by omega) a3 a4 a5 a6 a7
theorem DP_uniq {N most : Int} {C E Bf C' E' Bf' : Nat → Int32} (hN : N ≤ 24) (mv : MVB (3 * (N + 1)) N C E) (mv' : MVB (3 * (N + 1)) N C' E') (hC : ∀ k : Nat, (k : Int) < 3 * (N + 1) → C' k = C k) (hE : ∀ k : Nat, (k : Int) < 3 * (N + 1) → ¬ (C k).toInt = 1000000000 → E' k = E k) (d : DPR N most C E Bf (-1) 0) (m : DMR N most C E Bf (-1) 0) (d' : DPR N most C' E' Bf' (-1) 0) (m' : DMR N most C' E' Bf' (-1) 0) :
    ∀ (n f e : Nat), N - (f : Int) < n → (f : Int) ≤ N → (e : Int) ≤ most → (Bf' (1000 * f + e)).toInt = (Bf (1000 * f + e)).toInt := by
  intro n
  induction n with
  | zero => intro f e h hf; omega
  | succ n ih =>
    intro f e h hf he
    have l1 := DP_le hN mv hC hE d m d' hf he (fun f2 e2 a b c => ih f2 e2 (by omega) b c)
    have l2 := DP_le hN mv' (fun k hk => (hC k hk).symm) (fun k hk hc => (hE k hk (by rw [← hC k hk]; exact hc)).symm) d' m' d hf he (fun f2 e2 a b c => (ih f2 e2 (by omega) b c).symm)
    omega
theorem DPR.nn {N most : Int} {C E Bf : Nat → Int32} (d : DPR N most C E Bf (-1) 0) {e : Nat} (hN : 0 ≤ N) (he : (e : Int) ≤ most) : 0 ≤ (Bf e).toInt := by
  have h := d 0 e (by omega) he (by omega)
  rw [show 1000 * 0 + e = e by omega] at h
  rcases h with h | ⟨h, -⟩ <;> omega
/-- the tables of a pilgrim's moves and best rows -/
def XT (B : Nat × Nat) (v0 : Nat) (Z : jZ) (I : jI) (st sh : Int) (lp vw p : Int32) (kn : Int) (C E Bf : Nat → Int32) : Prop :=
  LMV B v0 Z I st sh lp vw p (3 * (st + 1)) C E ∧ MVB (3 * (st + 1)) st C E ∧ DPR st kn C E Bf (-1) 0 ∧ DMR st kn C E Bf (-1) 0
/-- an effort that the knees and the purse bear -/
def GD (Bf : Nat → Int32) (kn pu : Int) : Prop := ∃ e : Nat, (e : Int) ≤ kn ∧ ¬ (Bf e).toInt = 1000000000 ∧ (Bf e).toInt / 100 ≤ pu
def FCv (B : Nat × Nat) (v0 : Nat) (Z : jZ) (I : jI) (st sh : Int) (lp vw p : Int32) (kn pu : Int) : Prop := ∃ C E Bf : Nat → Int32, XT B v0 Z I st sh lp vw p kn C E Bf ∧ GD Bf kn pu
theorem XT.fc {B : Nat × Nat} {v0 : Nat} {Z : jZ} {I : jI} {st sh : Int} {lp vw p : Int32} {kn pu : Int} {C E Bf : Nat → Int32} (h : XT B v0 Z I st sh lp vw p kn C E Bf) (hs : 0 ≤ st ∧ st ≤ 24) : GD Bf kn pu ↔ FCv B v0 Z I st sh lp vw p kn pu := by
  refine ⟨fun g => ⟨C, E, Bf, h, g⟩, fun ⟨C', E', Bf', h', e, g1, g2, g3⟩ => ?_⟩
  have hC : ∀ k : Nat, (k : Int) < 3 * (st + 1) → C' k = C k := fun k hk => ((h.1 k hk).uniq (h'.1 k hk)).1.symm
  have hE : ∀ k : Nat, (k : Int) < 3 * (st + 1) → ¬ (C k).toInt = 1000000000 → E' k = E k := fun k hk hc => (((h.1 k hk).uniq (h'.1 k hk)).2 hc).symm
  have hu := DP_uniq hs.2 h.2.1 h'.2.1 hC hE h.2.2.1 h.2.2.2 h'.2.2.1 h'.2.2.2 (st.toNat + 1) 0 e (by omega) (by omega) g1
  rw [show 1000 * 0 + e = e by omega] at hu
  exact ⟨e, g1, by rw [← hu]; exact g2, by rw [← hu]; exact g3⟩
theorem FCv.cls {B : Nat × Nat} {v0 : Nat} {Z Z' : jZ} {I I' : jI} {L L' : jL} {st sh : Int} {lp vw p : Int32} {kn pu : Int} (a : A0 False v0 Z I L Z' I' L') (h : FCv B v0 Z' I' st sh lp vw p kn pu) : FCv B v0 Z I st sh lp vw p kn pu := by
  obtain ⟨C, E, Bf, h1, h2⟩ := h
  exact ⟨C, E, Bf, ⟨fun k hk => MV1.cls a (h1.1 k hk), h1.2⟩, h2⟩
