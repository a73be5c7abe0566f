theorem hs12 : ∀ d : Nat, HS12 d (fR12 d) := by
  intro d
  induction d with
  | zero =>
    intro w hw Z I L w_I v0 v1 kv0 uR huR kuR p0 p1 p2 p3
    exfalso
    omega
  | succ d ih =>
    intro w hw Z I L w_I v0 v1 kv0 uR huR kuR p0 p1 p2 p3 Q hQ
    match w, hw with
    | 0, _ => exact s_X12_held ih w_I v0 v1 kv0 uR huR kuR p0 p1 p2 (by omega) hQ
    | 1, _ => exact s_X12_sum ih w_I v0 v1 kv0 uR huR kuR p0 p1 p2 (by omega) hQ
    | 2, _ => exact s_X12_product ih w_I v0 v1 kv0 uR huR kuR p0 p1 p2 (by omega) hQ
    | 3, _ => exact s_X12_thing ih w_I v0 v1 kv0 uR huR kuR p0 p1 p2 (by omega) hQ
