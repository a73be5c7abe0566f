/-! ===== the model's prices are a function of what is told: two runs side by side ===== -/
/-- what is left to show comes to one end K -/
def GO {Qt : Type} (OKK : (Qt → Prop) → Prop) (B : Qt → Prop) : Prop := ∃ K, OKK K ∧ ∀ Q, B Q ↔ K Q
section GOS
variable {Qt : Type} {OKK : (Qt → Prop) → Prop}
theorem GO.ite {c X Y : Prop} {B C : Qt → Prop} (h : (c → X) ∧ (¬ c → Y)) (k1 : c → X → GO OKK B) (k2 : ¬ c → Y → GO OKK C) : GO OKK (fun Q => (c → B Q) ∧ (¬ c → C Q)) := by
  by_cases hc : c
  · obtain ⟨K, h1, h2⟩ := k1 hc (h.1 hc)
    exact ⟨K, h1, fun Q => ⟨fun z => (h2 Q).mp (z.1 hc), fun z => ⟨fun _ => (h2 Q).mpr z, fun n => absurd hc n⟩⟩⟩
  · obtain ⟨K, h1, h2⟩ := k2 hc (h.2 hc)
    exact ⟨K, h1, fun Q => ⟨fun z => (h2 Q).mp (z.2 hc), fun z => ⟨fun n => absurd n hc, fun _ => (h2 Q).mpr z⟩⟩⟩
theorem GO.itn {c X Y : Prop} {B C : Qt → Prop} (h : (¬ c → X) ∧ (c → Y)) (k1 : ¬ c → X → GO OKK B) (k2 : c → Y → GO OKK C) : GO OKK (fun Q => (¬ c → B Q) ∧ (c → C Q)) := by
  by_cases hc : c
  · obtain ⟨K, h1, h2⟩ := k2 hc (h.2 hc)
    exact ⟨K, h1, fun Q => ⟨fun z => (h2 Q).mp (z.2 hc), fun z => ⟨fun n => absurd hc n, fun _ => (h2 Q).mpr z⟩⟩⟩
  · obtain ⟨K, h1, h2⟩ := k1 hc (h.1 hc)
    exact ⟨K, h1, fun Q => ⟨fun z => (h2 Q).mp (z.1 hc), fun z => ⟨fun _ => (h2 Q).mpr z, fun n => absurd n hc⟩⟩⟩
theorem GO.eq {α : Type} {e e' : α} {X : α → Prop} {B : α → Qt → Prop} (h : ∀ x, x = e → X x) (k : X e → GO OKK (B e')) : GO OKK (fun Q => ∀ x, x = e' → B x Q) := by
  obtain ⟨K, h1, h2⟩ := k (h e rfl)
  exact ⟨K, h1, fun Q => ⟨fun z => (h2 Q).mp (z e' rfl), fun z x ex => by rw [ex]; exact (h2 Q).mpr z⟩⟩
theorem GO.ob {o X : Prop} {B : Qt → Prop} (h : o ∧ X) (k : o → X → GO OKK B) : GO OKK (fun Q => o ∧ B Q) := by
  obtain ⟨K, h1, h2⟩ := k h.1 h.2
  exact ⟨K, h1, fun Q => ⟨fun z => (h2 Q).mp z.2, fun z => ⟨h.1, (h2 Q).mpr z⟩⟩⟩
theorem GO.ref {Z ZJ : jZ} {v j b : Nat} {X : Nat → Prop} {B : Nat → Qt → Prop} (e : jr Z v j = some b) (e' : jr ZJ v j = some b) (h : ∀ b, jr Z v j = some b → X b) (k : X b → GO OKK (B b)) : GO OKK (fun Q => ∀ b, jr ZJ v j = some b → B b Q) := by
  obtain ⟨K, h1, h2⟩ := k (h b e)
  exact ⟨K, h1, fun Q => ⟨fun z => (h2 Q).mp (z b e'), fun z b2 e2 => by cases e'.symm.trans e2; exact (h2 Q).mpr z⟩⟩
theorem GO.rd {Z ZJ : jZ} {v b : Nat} {X : Nat → Prop} {B : Nat → Qt → Prop} (e : jr Z v 23 = some b) (e' : jr ZJ v 23 = some b) (k' : jk ZJ b 13) (h : ∃ b, jr Z v 23 = some b ∧ jk Z b 13 ∧ X b) (k : X b → GO OKK (B b)) : GO OKK (fun Q => ∃ b, jr ZJ v 23 = some b ∧ jk ZJ b 13 ∧ B b Q) := by
  obtain ⟨b2, g1, g2, g3⟩ := h
  cases e.symm.trans g1
  obtain ⟨K, h1, h2⟩ := k g3
  exact ⟨K, h1, fun Q => ⟨fun ⟨b3, z1, _, z3⟩ => by cases e'.symm.trans z1; exact (h2 Q).mp z3, fun z => ⟨b, e', k', (h2 Q).mpr z⟩⟩⟩
/-- the ends: of a method that writes nothing, of one with an answer, of one without, of one that changes the pool -/
def OKP (A : Int32 → jI → jL → Prop) (I : jI) (L : jL) (J : jI) (M : jL) : ((Int32 → jI → jL → Prop) → Prop) → Prop := fun K => ∃ r, A r I L ∧ K = fun Q => Q r J M
def OKI (R : jI → jL → jI → jL → Prop) (A : Int32 → jI → jL → Prop) : ((Int32 → jI → jL → Prop) → Prop) → Prop := fun K => ∃ r I L J M, A r I L ∧ R I L J M ∧ K = fun Q => Q r J M
def OKV (R : jI → jL → jI → jL → Prop) (A : jI → jL → Prop) : ((jI → jL → Prop) → Prop) → Prop := fun K => ∃ I L J M, A I L ∧ R I L J M ∧ K = fun Q => Q J M
def OKZ (R : jZ → jI → jL → jZ → jI → jL → Prop) (A : Int32 → jZ → jI → jL → Prop) : ((Int32 → jZ → jI → jL → Prop) → Prop) → Prop := fun K => ∃ r Z I L ZJ J M, A r Z I L ∧ R Z I L ZJ J M ∧ K = fun Q => Q r ZJ J M
/-- the ends of a loop's body: the method's end, or the loop again -/
def OKB (OKK : (Qt → Prop) → Prop) : ((Qt × Nat) → Prop) → Prop := fun K => (∃ K0, OKK K0 ∧ K = fun q => K0 q.1) ∨ (∃ Bk : Nat → Qt → Prop, GO OKK (fun Q => ∃ m, Bk m Q) ∧ K = fun q => Bk q.2 q.1)
theorem GO.leafP {A : Int32 → jI → jL → Prop} {r : Int32} {I : jI} {L : jL} {J : jI} {M : jL} (h : A r I L) : GO (OKP A I L J M) (fun Q => Q r J M) := ⟨_, ⟨r, h, rfl⟩, fun _ => Iff.rfl⟩
theorem GO.leafI {R : jI → jL → jI → jL → Prop} {A : Int32 → jI → jL → Prop} {r : Int32} {I : jI} {L : jL} {J : jI} {M : jL} (ag : R I L J M) (h : A r I L) : GO (OKI R A) (fun Q => Q r J M) := ⟨_, ⟨r, I, L, J, M, h, ag, rfl⟩, fun _ => Iff.rfl⟩
theorem GO.leafV {R : jI → jL → jI → jL → Prop} {A : jI → jL → Prop} {I : jI} {L : jL} {J : jI} {M : jL} (ag : R I L J M) (h : A I L) : GO (OKV R A) (fun Q => Q J M) := ⟨_, ⟨I, L, J, M, h, ag, rfl⟩, fun _ => Iff.rfl⟩
theorem GO.leafZ {R : jZ → jI → jL → jZ → jI → jL → Prop} {A : Int32 → jZ → jI → jL → Prop} {r : Int32} {Z : jZ} {I : jI} {L : jL} {ZJ : jZ} {J : jI} {M : jL} (ag : R Z I L ZJ J M) (h : A r Z I L) : GO (OKZ R A) (fun Q => Q r ZJ J M) := ⟨_, ⟨r, Z, I, L, ZJ, J, M, h, ag, rfl⟩, fun _ => Iff.rfl⟩
theorem GO.leafB {B : Qt → Prop} (g : GO OKK B) : GO (OKB OKK) (fun q => B q.1) := by
  obtain ⟨K, h1, h2⟩ := g
  exact ⟨_, Or.inl ⟨K, h1, rfl⟩, fun q => h2 q.1⟩
theorem GO.back {Bk : Nat → Qt → Prop} (g : GO OKK (fun Q => ∃ m, Bk m Q)) : GO (OKB OKK) (fun q => Bk q.2 q.1) := ⟨_, Or.inr ⟨Bk, g, rfl⟩, fun _ => Iff.rfl⟩
theorem GO.loop {Bm : Nat → Qt → Prop} (h0 : ∀ Q, ¬ Bm 0 Q) (g : GO (OKB OKK) (fun q => Bm (q.2 + 1) q.1)) : GO OKK (fun Q => ∃ m, Bm m Q) := by
  obtain ⟨K, h1, h2⟩ := g
  have h3 : ∀ Q, (∃ m, Bm m Q) ↔ ∃ m, K (Q, m) := fun Q => ⟨fun ⟨m, hm⟩ => by
      cases m with
      | zero => exact absurd hm (h0 Q)
      | succ m => exact ⟨m, (h2 (Q, m)).mp hm⟩, fun ⟨m, hm⟩ => ⟨m + 1, (h2 (Q, m)).mpr hm⟩⟩
  rcases h1 with ⟨K0, g1, rfl⟩ | ⟨Bk, ⟨K0, g1, g2⟩, rfl⟩
  · exact ⟨K0, g1, fun Q => (h3 Q).trans ⟨fun ⟨_, z⟩ => z, fun z => ⟨0, z⟩⟩⟩
  · exact ⟨K0, g1, fun Q => (h3 Q).trans (g2 Q)⟩
theorem GO.callP {A : Int32 → jI → jL → Prop} {I : jI} {L : jL} {J : jI} {M : jL} {P : (Int32 → jI → jL → Prop) → Prop} {A' : Int32 → jI → jL → Qt → Prop} (D : GO (OKP A I L J M) P) (k : ∀ r, A r I L → GO OKK (A' r J M)) : GO OKK (fun Q => P (fun r I L => A' r I L Q)) := by
  obtain ⟨K, ⟨r, h1, rfl⟩, h2⟩ := D
  obtain ⟨K2, g1, g2⟩ := k r h1
  exact ⟨K2, g1, fun Q => (h2 _).trans (g2 Q)⟩
theorem GO.callI {R : jI → jL → jI → jL → Prop} {A : Int32 → jI → jL → Prop} {P : (Int32 → jI → jL → Prop) → Prop} {A' : Int32 → jI → jL → Qt → Prop} (D : GO (OKI R A) P) (k : ∀ r I L J M, R I L J M → A r I L → GO OKK (A' r J M)) : GO OKK (fun Q => P (fun r I L => A' r I L Q)) := by
  obtain ⟨K, ⟨r, I, L, J, M, h1, ag, rfl⟩, h2⟩ := D
  obtain ⟨K2, g1, g2⟩ := k r I L J M ag h1
  exact ⟨K2, g1, fun Q => (h2 _).trans (g2 Q)⟩
theorem GO.callV {R : jI → jL → jI → jL → Prop} {A : jI → jL → Prop} {P : (jI → jL → Prop) → Prop} {A' : jI → jL → Qt → Prop} (D : GO (OKV R A) P) (k : ∀ I L J M, R I L J M → A I L → GO OKK (A' J M)) : GO OKK (fun Q => P (fun I L => A' I L Q)) := by
  obtain ⟨K, ⟨I, L, J, M, h1, ag, rfl⟩, h2⟩ := D
  obtain ⟨K2, g1, g2⟩ := k I L J M ag h1
  exact ⟨K2, g1, fun Q => (h2 _).trans (g2 Q)⟩
theorem GO.callZ {R : jZ → jI → jL → jZ → jI → jL → Prop} {A : Int32 → jZ → jI → jL → Prop} {P : (Int32 → jZ → jI → jL → Prop) → Prop} {A' : Int32 → jZ → jI → jL → Qt → Prop} (D : GO (OKZ R A) P) (k : ∀ r Z I L ZJ J M, R Z I L ZJ J M → A r Z I L → GO OKK (A' r ZJ J M)) : GO OKK (fun Q => P (fun r Z I L => A' r Z I L Q)) := by
  obtain ⟨K, ⟨r, Z, I, L, ZJ, J, M, h1, ag, rfl⟩, h2⟩ := D
  obtain ⟨K2, g1, g2⟩ := k r Z I L ZJ J M ag h1
  exact ⟨K2, g1, fun Q => (h2 _).trans (g2 Q)⟩
end GOS
/-- two worlds that agree on what prices read (E: they are the same) -/
def A0 (E : Prop) (v0 : Nat) (Z : jZ) (I : jI) (L : jL) (ZJ : jZ) (J : jI) (M : jL) : Prop :=
  (E → ZJ = Z ∧ J = I ∧ M = L) ∧
  (∀ j, j ∈ ([1, 2, 3, 4, 5, 6, 11, 12, 13, 30] : List Nat) → ∃ b, jr Z v0 j = some b ∧ jr ZJ v0 j = some b ∧ b ≠ v0 ∧ J b = I b) ∧
  (∃ b, jr Z v0 29 = some b ∧ jr ZJ v0 29 = some b ∧ b ≠ v0 ∧ ∀ k, k < 2 → ∃ c, jr Z b k = some c ∧ jr ZJ b k = some c ∧ c ≠ v0 ∧ jk Z c 13 ∧ jk ZJ c 13 ∧ jlen ZJ c = jlen Z c ∧ J c = I c)
def AF (S : List Nat) (v0 : Nat) (I J : jI) : Prop := ∀ j, j ∈ S → J v0 j = I v0 j
def RDn (v0 : Nat) (Z : jZ) (I : jI) (ZJ : jZ) (J : jI) : Prop := ∃ b, jr Z v0 23 = some b ∧ jr ZJ v0 23 = some b ∧ b ≠ v0 ∧ jk Z b 13 ∧ jk ZJ b 13 ∧ jlen ZJ b = jlen Z b ∧ J b = I b
def A1 (E : Prop) (v0 : Nat) (Z : jZ) (I : jI) (L : jL) (ZJ : jZ) (J : jI) (M : jL) : Prop := A0 E v0 Z I L ZJ J M ∧ RDn v0 Z I ZJ J ∧ AF [24, 25, 26, 27, 31, 32, 33, 34] v0 I J
theorem A0.arr {E : Prop} {v0 : Nat} {Z : jZ} {I : jI} {L : jL} {ZJ : jZ} {J : jI} {M : jL} (ag : A0 E v0 Z I L ZJ J M) (j : Nat) {b : Nat} (hj : j ∈ ([1, 2, 3, 4, 5, 6, 11, 12, 13, 30] : List Nat)) (e : jr Z v0 j = some b) : J b = I b := by
  obtain ⟨b2, g1, _, _, g4⟩ := ag.2.1 j hj
  cases e.symm.trans g1; exact g4
theorem A0.put {E : Prop} {v0 : Nat} {Z : jZ} {I : jI} {L : jL} {ZJ : jZ} {J : jI} {M : jL} (ag : A0 E v0 Z I L ZJ J M) (k : Nat) (x : Int32) : A0 E v0 Z (jpI I v0 k x) L ZJ (jpI J v0 k x) M := by
  refine ⟨fun e => ⟨(ag.1 e).1, by rw [(ag.1 e).2.1], (ag.1 e).2.2⟩, fun j hj => ?_, ?_⟩
  · obtain ⟨b, g1, g2, g3, g4⟩ := ag.2.1 j hj
    exact ⟨b, g1, g2, g3, by rw [jpI_ne g3, jpI_ne g3]; exact g4⟩
  · obtain ⟨b, g1, g2, g3, g4⟩ := ag.2.2
    refine ⟨b, g1, g2, g3, fun k2 hk => ?_⟩
    obtain ⟨c, f1, f2, f3, f4, f5, f6, f7⟩ := g4 k2 hk
    exact ⟨c, f1, f2, f3, f4, f5, f6, by rw [jpI_ne f3, jpI_ne f3]; exact f7⟩
theorem AF.put {S : List Nat} {v0 : Nat} {I J : jI} (h : AF S v0 I J) (k : Nat) (x : Int32) : AF (k :: S) v0 (jpI I v0 k x) (jpI J v0 k x) := by
  intro j hj
  by_cases e : j = k
  · subst e; rw [jpI_at, jpI_at]
  · rw [jpI_off e, jpI_off e]
    exact h j ((List.mem_cons.mp hj).resolve_left e)
theorem A1.put {E : Prop} {v0 : Nat} {Z : jZ} {I : jI} {L : jL} {ZJ : jZ} {J : jI} {M : jL} (ag : A1 E v0 Z I L ZJ J M) (k : Nat) (x : Int32) : A1 E v0 Z (jpI I v0 k x) L ZJ (jpI J v0 k x) M := by
  refine ⟨ag.1.put k x, ?_, fun j hj => (ag.2.2.put k x) j (List.mem_cons_of_mem _ hj)⟩
  obtain ⟨b, g1, g2, g3, g4, g5, g6, g7⟩ := ag.2.1
  exact ⟨b, g1, g2, g3, g4, g5, g6, by rw [jpI_ne g3, jpI_ne g3]; exact g7⟩
theorem GO.put {Qt : Type} {OKK : (Qt → Prop) → Prop} {E : Prop} {v0 : Nat} {Z : jZ} {I : jI} {L : jL} {ZJ : jZ} {J : jI} {M : jL} (ag : A1 E v0 Z I L ZJ J M) {n : Nat} {x : Int32} {X : jI → Prop} {B : jI → Qt → Prop} (h : ∀ I1, I1 = jpI I v0 n x → X I1) (k : ∀ I1 J1, A1 E v0 Z I1 L ZJ J1 M → X I1 → GO OKK (B J1)) : GO OKK (fun Q => ∀ J1, J1 = jpI J v0 n x → B J1 Q) :=
  GO.eq h (k _ _ (ag.put n x))
def HT (F : FTR12) : Prop := ∀ (w : Nat), w < 4 → ∀ {E : Prop} {v0 : Nat} {v1 : Int32} {Z : jZ} {I : jI} {L : jL} {ZJ : jZ} {J : jI} {M : jL} {A : Int32 → jI → jL → Prop}, A1 E v0 Z I L ZJ J M → F w v0 v1 Z I L A → GO (OKI (fun I L J M => A1 E v0 Z I L ZJ J M) A) (fun Q => F w v0 v1 ZJ J M Q)
