/-! ===== the model's reading of a law: how deep ===== -/
def Ws_R12 : List (Nat × Nat) := [(12, 26), (12, 27)]
def HS12 (d : Nat) (F : FTR12) : Prop := ∀ (w : Nat), w ≤ 3 → ∀ (Z : jZ) (I : jI) (L : jL), WD Z I → ∀ (v0 : Nat) (v1 : Int32), jk Z v0 12 → ∀ uR, jr Z v0 23 = some uR → jk Z uR 13
  → (0 ≤ (I v0 26).toInt ∧ (I v0 26).toInt ≤ (I v0 24).toInt ∧ (I v0 26).toInt ≤ (I v0 25).toInt ∧ (I v0 24).toInt ≤ (jlen Z uR : Int) ∧ jlen Z uR ≤ 80)
  → ((I v0 31).toInt = -1 ∨ (0 ≤ (I v0 31).toInt ∧ (I v0 31).toInt ≤ 23 ∧ (I v0 32).toInt ≤ 23)) → (0 ≤ v1.toInt ∧ v1.toInt ≤ 4)
  → (I v0 25).toInt - (I v0 26).toInt + 4 * (4 - v1.toInt) + 4 - (w : Int) ≤ (d : Int)
  → ∀ Q : Int32 → jI → jL → Prop, (∀ (r : Int32) (I' : jI) (L' : jL), WD Z I' → FR Ws_R12 Z I Z I' → ((I v0 26).toInt ≤ (I' v0 26).toInt ∧ (I' v0 26).toInt ≤ (I v0 24).toInt ∧ (I' v0 26).toInt ≤ (I v0 25).toInt ∧ (¬ (I v0 27).toInt = -1 → ¬ (I' v0 27).toInt = -1)) → Q r I' L') → F w v0 v1 Z I L Q
