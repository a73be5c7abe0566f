theorem TBr_frp {Z Z' : jZ} {I I' : jI} {uT uB v2 uM : Nat} (f : FRp Z I Z' I') (kT : jk Z uT 10) (kB : jk Z uB 13) (k2 : jk Z v2 12) (kM : jk Z uM 13) (h : TBr I uT uB v2 uM) : TBr I' uT uB v2 uM := by
  have e1 : I' uB = I uB := funext fun i => f.2 uB 13 i kB (by omega)
  have e2 : I' uM = I uM := funext fun i => f.2 uM 13 i kM (by omega)
  unfold TBr
  rw [f.2 uT 10 1 kT (by omega), f.2 v2 12 19 k2 (by omega), e1, e2]
  exact h
