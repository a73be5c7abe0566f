def Ws_X12_runFeast : List (Nat × Nat) := [(12, 24), (12, 25), (12, 26), (12, 27), (12, 31), (12, 32), (12, 33), (12, 34), (12, 37), (12, 38), (12, 40), (12, 41), (12, 42), (12, 43), (12, 44), (12, 55), (12, 56), (12, 57), (12, 58), (12, 59), (12, 60), (12, 61)]
set_option maxHeartbeats 4000000 in
set_option maxRecDepth 100000 in
theorem l_X12_runFeast_L353 {B : Nat × Nat} {T : Nat} {Z0 : jZ} {I0 : jI} {Q : Int32 → jZ → jI → jL → Prop} (w0 : WD Z0 I0) (v0 : Nat) (v1 : Int32) (kv0 : jk Z0 v0 12) (uO : Nat) (huO : jr Z0 v0 55 = some uO) (uM : Nat) (huM : jr Z0 v0 56 = some uM) (uG : Nat) (huG : jr Z0 v0 57 = some uG) (uP : Nat) (huP : jr Z0 v0 61 = some uP) (uR : Nat) (huR : jr Z0 v0 44 = some uR) (p0 : 1 ≤ (I0 v0 0).toInt) (p1 : 1 ≤ v1.toInt) (v2 : Int32) (v3 : Int32) (hQ : ∀ (r : Int32) (Z' : jZ) (I' : jI) (L' : jL), WD Z' I' → BUD B Z' T → FR Ws_X12_runFeast Z0 I0 Z' I' → CP Z0 Z' → Q r Z' I' L') {K138 : Nat → Int32 → Int32 → Int32 → jZ → jI → jL → Prop} {N138 : Int} (hK138 : ∀ (v2 : Int32) (v3 : Int32) (Z : jZ) (I : jI) (L : jL), WD Z I → BUD B Z T → FR Ws_X12_runFeast Z0 I0 Z I → CP Z0 Z →   ((0 ≤ v2.toInt ∧ v2.toInt ≤ 6 ∧ SGo (I uG) ≤ 144) ∧ BSt (I0 v0 0).toInt (I0 v0 8).toInt (I uO) (I uM) (I uG) v2.toInt) → 144 - SGo (I uG) < N138 → K138 v0 v1 v2 v3 Z I L) : ∀ (n : Nat) (v4 : Int32) (Z : jZ) (I : jI) (L : jL), WD Z I → BUD B Z T → FR Ws_X12_runFeast Z0 I0 Z I → CP Z0 Z →   ((0 ≤ v4.toInt ∧ v4.toInt ≤ 24 ∧ 0 ≤ v2.toInt ∧ v2.toInt ≤ 6 ∧ SGo (I uG) ≤ 144 ∧ 144 - SGo (I uG) < N138) ∧ BSt (I0 v0 0).toInt (I0 v0 8).toInt (I uO) (I uM) (I uG) v2.toInt) → 144 - SGo (I uG) ≤ N138 → 24 - v4.toInt < (n : Int) → f_X12_runFeast_L353 B K138 Q n v0 v1 v2 v3 v4 Z I L := by
  intro n
  induction n with
  | zero =>
    intro v4 Z I L w_I bd_Z q_I cp_Z   li hm138 me
    exfalso
    omega
  | succ n ih =>
    intro v4 Z I L w_I bd_Z q_I cp_Z   li hm138 me
    unfold f_X12_runFeast_L353
    have rv4 := i_rng v4
    have rv2 := i_rng v2
    have rv3 := i_rng v3
    have rv1 := i_rng v1
    obtain ⟨li0, li1⟩ := li
    have kv0_0 := kv0
    have kv0 := (q_I.1 _ _ kv0).1
    have t1 : 0 ≤ (I v0 0).toInt ∧ (I v0 0).toInt ≤ 24 := w_I.fld 12 0 kv0 (by decide)
    have t2 : 0 ≤ (I v0 8).toInt ∧ (I v0 8).toInt ≤ 6 := w_I.fld 12 8 kv0 (by decide)
    have huO_1 : jr Z v0 55 = some uO := (q_I.2.1 v0 12 55 kv0_0 (by decide) (by decide)).trans huO
    have luO : jlen Z uO = 144 := by obtain ⟨b9, e9, -, l9⟩ := sh_f w_I.1 kv0 (j := 55) (k := 14) (m := 144) rfl; cases huO_1.symm.trans e9; exact l9
    have kuO : jk Z uO 14 := by obtain ⟨b9, e9, k9, -⟩ := sh_f w_I.1 kv0 (j := 55) (k := 14) (m := 144) rfl; cases huO_1.symm.trans e9; exact k9
    have huM_1 : jr Z v0 56 = some uM := (q_I.2.1 v0 12 56 kv0_0 (by decide) (by decide)).trans huM
    have luM : jlen Z uM = 6 := by obtain ⟨b9, e9, -, l9⟩ := sh_f w_I.1 kv0 (j := 56) (k := 14) (m := 6) rfl; cases huM_1.symm.trans e9; exact l9
    have kuM : jk Z uM 14 := by obtain ⟨b9, e9, k9, -⟩ := sh_f w_I.1 kv0 (j := 56) (k := 14) (m := 6) rfl; cases huM_1.symm.trans e9; exact k9
    have huG_1 : jr Z v0 57 = some uG := (q_I.2.1 v0 12 57 kv0_0 (by decide) (by decide)).trans huG
    have luG : jlen Z uG = 6 := by obtain ⟨b9, e9, -, l9⟩ := sh_f w_I.1 kv0 (j := 57) (k := 14) (m := 6) rfl; cases huG_1.symm.trans e9; exact l9
    have kuG : jk Z uG 14 := by obtain ⟨b9, e9, k9, -⟩ := sh_f w_I.1 kv0 (j := 57) (k := 14) (m := 6) rfl; cases huG_1.symm.trans e9; exact k9
    have huP_1 : jr Z v0 61 = some uP := (q_I.2.1 v0 12 61 kv0_0 (by decide) (by decide)).trans huP
    have luP : jlen Z uP = 6 := by obtain ⟨b9, e9, -, l9⟩ := sh_f w_I.1 kv0 (j := 61) (k := 14) (m := 6) rfl; cases huP_1.symm.trans e9; exact l9
    have kuP : jk Z uP 14 := by obtain ⟨b9, e9, k9, -⟩ := sh_f w_I.1 kv0 (j := 61) (k := 14) (m := 6) rfl; cases huP_1.symm.trans e9; exact k9
    have huR_1 : jr Z v0 44 = some uR := (q_I.2.1 v0 12 44 kv0_0 (by decide) (by decide)).trans huR
    have luR : jlen Z uR = 24 := by obtain ⟨b9, e9, -, l9⟩ := sh_f w_I.1 kv0 (j := 44) (k := 14) (m := 24) rfl; cases huR_1.symm.trans e9; exact l9
    have kuR : jk Z uR 14 := by obtain ⟨b9, e9, k9, -⟩ := sh_f w_I.1 kv0 (j := 44) (k := 14) (m := 24) rfl; cases huR_1.symm.trans e9; exact k9
    have xq_I := q_I.1
    have e0 : (I v0 0).toInt = (I0 v0 0).toInt := by rw [q_I.2.2.1 v0 12 0 kv0_0 (by decide) (by decide)]
    have e8 : (I v0 8).toInt = (I0 v0 8).toInt := by rw [q_I.2.2.1 v0 12 8 kv0_0 (by decide) (by decide)]
    have h80 : 0 ≤ (I0 v0 8).toInt ∧ (I0 v0 8).toInt ≤ 6 := w0.fld 12 8 kv0_0 (by decide)
    have h00 : 0 ≤ (I0 v0 0).toInt ∧ (I0 v0 0).toInt ≤ 24 := w0.fld 12 0 kv0_0 (by decide)
    have okO : ∀ q, 0 ≤ (I uO q).toInt := fun q => (show 0 ≤ (I uO q).toInt ∧ (I uO q).toInt ≤ 23 from w_I.arr 12 55 kv0 huO_1 kuO rfl rfl q).1
    have okGG : ∀ q, 0 ≤ (I uG q).toInt ∧ (I uG q).toInt ≤ 24 := fun q => w_I.arr 12 57 kv0 huG_1 kuG rfl rfl q
    have okMM : ∀ q, 0 ≤ (I uM q).toInt ∧ (I uM q).toInt ≤ 24 := fun q => w_I.arr 12 56 kv0 huM_1 kuM rfl rfl q
    have okG : ∀ q, 0 ≤ (I uG q).toInt := fun q => (okGG q).1
    have t4 : 0 ≤ (I v0 0).toInt ∧ (I v0 0).toInt ≤ 24 := w_I.fld 12 0 kv0 (by decide)
    refine ⟨fun c5 => ?_, fun c5 => ?_⟩
    · skip
      first | (have t6 : ((I v0 0).toInt - (1)) ≤ v4.toInt := (i_le (i_sub rfl (show (1 : Int32).toInt = 1 from rfl) (by omega) (by omega)) rfl).mp c5) | (have t6 : ((I v0 0) - (1 : Int32)).toInt ≤ v4.toInt := (i_le rfl rfl).mp c5) | skip
      intro x7 ex7
      have rx7 := i_rng x7
      first | (have tx7 : x7.toInt = v3.toInt + (1) := by (rw [ex7]; exact (i_add rfl (show (1 : Int32).toInt = 1 from rfl) (by omega) (by omega)))) | skip
      exact hK138 v2 x7 Z I L w_I bd_Z q_I cp_Z   (by first | exact ⟨by omega, li1⟩ | exact ⟨⟨by omega, by omega, SGo_le okGG⟩, BS0_out li1 (by omega) (fun q => (okMM q).1)⟩)  (by omega)
    · skip
      first | (have t8 : ¬ (((I v0 0).toInt - (1)) ≤ v4.toInt) := (not_congr (i_le (i_sub rfl (show (1 : Int32).toInt = 1 from rfl) (by omega) (by omega)) rfl)).mp c5) | (have t8 : ¬ (((I v0 0) - (1 : Int32)).toInt ≤ v4.toInt) := (not_congr (i_le rfl rfl)).mp c5) | skip
      refine s9_X12_onStep w_I v0 v4 kv0 uO huO_1 uM huM_1 uG huG_1  (fun r9 p10 => ?_)
      have rr9 := i_rng r9
      intro I11 eI11
      try (have t12 : (if (I v0 60) < r9 then r9 else (I v0 60)).toInt = (max (I v0 60).toInt r9.toInt) := (i_max rfl rfl))
      have w_I11 : WD Z I11 := by rw [eI11]; exact WD_putF w_I 12 60 kv0 (by decide) (by decide) trivial
      have f_I11 : FR [(12, 60)] Z I Z I11 := by rw [eI11]; exact FR_putF kv0 (by decide) List.mem_cons_self
      have q_I11 : FR Ws_X12_runFeast Z0 I0 Z I11 := q_I.trans w0.1 w0.2.1 (f_I11.mono (by decide))
      have ao_I11_uO : I11 uO = I uO := f_I11.2.2.2 v0 12 55 uO kv0 huO_1 (by rw [kuO.2]; rfl) rfl (by decide)
      have ao_I11_uM : I11 uM = I uM := f_I11.2.2.2 v0 12 56 uM kv0 huM_1 (by rw [kuM.2]; rfl) rfl (by decide)
      have ao_I11_uG : I11 uG = I uG := f_I11.2.2.2 v0 12 57 uG kv0 huG_1 (by rw [kuG.2]; rfl) rfl (by decide)
      have ao_I11_uP : I11 uP = I uP := f_I11.2.2.2 v0 12 61 uP kv0 huP_1 (by rw [kuP.2]; rfl) rfl (by decide)
      have ao_I11_uR : I11 uR = I uR := f_I11.2.2.2 v0 12 44 uR kv0 huR_1 (by rw [kuR.2]; rfl) rfl (by decide)
      have u13 : (I11 v0 0).toInt = (I v0 0).toInt := by rw [f_I11.2.2.1 v0 12 0 kv0 (by decide) (by decide)]
      have u14 : (I11 v0 8).toInt = (I v0 8).toInt := by rw [f_I11.2.2.1 v0 12 8 kv0 (by decide) (by decide)]
      first | (have u15 : (I11 v0 60).toInt = (max (I v0 60).toInt r9.toInt) := by (rw [eI11, show jpI I v0 60 (if (I v0 60) < r9 then r9 else (I v0 60)) v0 60 = (if (I v0 60) < r9 then r9 else (I v0 60)) from jpI_at] <;> exact (i_max rfl rfl))) | skip
      first | (have sg9 : SGo (I11 uG) = SGo (I uG) := congrArg SGo ao_I11_uG) | skip
      intro x16 ex16
      have rx16 := i_rng x16
      first | (have tx16 : x16.toInt = v4.toInt + (1) := by (rw [ex16]; exact (i_add rfl (show (1 : Int32).toInt = 1 from rfl) (by omega) (by omega)))) | skip
      exact ih x16 Z I11 L w_I11 bd_Z q_I11 cp_Z   (by first | (rw [ao_I11_uO, ao_I11_uM, ao_I11_uG]; exact ⟨by omega, li1⟩) | (have me9 := MIn_end li2 li1 (by omega) okO okG (by omega); exact ⟨by omega, li1⟩)) (by omega) (by omega)
set_option maxHeartbeats 4000000 in
set_option maxRecDepth 100000 in
theorem l_X12_runFeast_L212 {B : Nat × Nat} {T : Nat} {Z0 : jZ} {I0 : jI} {Q : Int32 → jZ → jI → jL → Prop} (w0 : WD Z0 I0) (v0 : Nat) (v1 : Int32) (kv0 : jk Z0 v0 12) (uO : Nat) (huO : jr Z0 v0 55 = some uO) (uM : Nat) (huM : jr Z0 v0 56 = some uM) (uG : Nat) (huG : jr Z0 v0 57 = some uG) (uP : Nat) (huP : jr Z0 v0 61 = some uP) (uR : Nat) (huR : jr Z0 v0 44 = some uR) (p0 : 1 ≤ (I0 v0 0).toInt) (p1 : 1 ≤ v1.toInt) (v3 : Int32) (v4 : Int32) (hQ : ∀ (r : Int32) (Z' : jZ) (I' : jI) (L' : jL), WD Z' I' → BUD B Z' T → FR Ws_X12_runFeast Z0 I0 Z' I' → CP Z0 Z' → Q r Z' I' L') {K138 : Nat → Int32 → Int32 → Int32 → jZ → jI → jL → Prop} {N138 : Int} (hK138 : ∀ (v2 : Int32) (v3 : Int32) (Z : jZ) (I : jI) (L : jL), WD Z I → BUD B Z T → FR Ws_X12_runFeast Z0 I0 Z I → CP Z0 Z →   ((0 ≤ v2.toInt ∧ v2.toInt ≤ 6 ∧ SGo (I uG) ≤ 144) ∧ BSt (I0 v0 0).toInt (I0 v0 8).toInt (I uO) (I uM) (I uG) v2.toInt) → 144 - SGo (I uG) < N138 → K138 v0 v1 v2 v3 Z I L) {K203 : Nat → Int32 → Int32 → Int32 → Int32 → jZ → jI → jL → Prop} {N203 : Int} (hK203 : ∀ (v2 : Int32) (v4 : Int32) (Z : jZ) (I : jI) (L : jL), WD Z I → BUD B Z T → FR Ws_X12_runFeast Z0 I0 Z I → CP Z0 Z →   ((-2 ≤ v4.toInt ∧ v4.toInt ≤ 23 ∧ 0 ≤ v2.toInt ∧ v2.toInt ≤ 6 ∧ SGo (I uG) ≤ 144) ∧ BSt (I0 v0 0).toInt (I0 v0 8).toInt (I uO) (I uM) (I uG) v2.toInt ∧ MIn N138 (I0 v0 8).toInt (I uO) (I uM) (I uG) (I uP) v4.toInt 0 v2.toInt) → 144 - SGo (I uG) ≤ N138 → v4.toInt + 2 < N203 → K203 v0 v1 v2 v3 v4 Z I L) : ∀ (n : Nat) (v2 : Int32) (v5 : Int32) (Z : jZ) (I : jI) (L : jL), WD Z I → BUD B Z T → FR Ws_X12_runFeast Z0 I0 Z I → CP Z0 Z →   ((0 ≤ v5.toInt ∧ v5.toInt ≤ 6 ∧ -1 ≤ v4.toInt ∧ v4.toInt ≤ 23 ∧ 0 ≤ v2.toInt ∧ v2.toInt ≤ 6 ∧ SGo (I uG) ≤ 144) ∧ BSt (I0 v0 0).toInt (I0 v0 8).toInt (I uO) (I uM) (I uG) v2.toInt ∧ MIn N138 (I0 v0 8).toInt (I uO) (I uM) (I uG) (I uP) v4.toInt v5.toInt v2.toInt) → 144 - SGo (I uG) ≤ N138 → v4.toInt + 2 ≤ N203 → 6 - v5.toInt < (n : Int) → f_X12_runFeast_L212 B K138 K203 Q n v0 v1 v2 v3 v4 v5 Z I L := by
  intro n
  induction n with
  | zero =>
    intro v2 v5 Z I L w_I bd_Z q_I cp_Z   li hm138 hm203 me
    exfalso
    omega
  | succ n ih =>
    intro v2 v5 Z I L w_I bd_Z q_I cp_Z   li hm138 hm203 me
    unfold f_X12_runFeast_L212
    have rv2 := i_rng v2
    have rv5 := i_rng v5
    have rv3 := i_rng v3
    have rv4 := i_rng v4
    have rv1 := i_rng v1
    obtain ⟨li0, li1, li2⟩ := li
    have kv0_0 := kv0
    have kv0 := (q_I.1 _ _ kv0).1
    have t17 : 0 ≤ (I v0 0).toInt ∧ (I v0 0).toInt ≤ 24 := w_I.fld 12 0 kv0 (by decide)
    have t18 : 0 ≤ (I v0 8).toInt ∧ (I v0 8).toInt ≤ 6 := w_I.fld 12 8 kv0 (by decide)
    have huO_1 : jr Z v0 55 = some uO := (q_I.2.1 v0 12 55 kv0_0 (by decide) (by decide)).trans huO
    have luO : jlen Z uO = 144 := by obtain ⟨b9, e9, -, l9⟩ := sh_f w_I.1 kv0 (j := 55) (k := 14) (m := 144) rfl; cases huO_1.symm.trans e9; exact l9
    have kuO : jk Z uO 14 := by obtain ⟨b9, e9, k9, -⟩ := sh_f w_I.1 kv0 (j := 55) (k := 14) (m := 144) rfl; cases huO_1.symm.trans e9; exact k9
    have huM_1 : jr Z v0 56 = some uM := (q_I.2.1 v0 12 56 kv0_0 (by decide) (by decide)).trans huM
    have luM : jlen Z uM = 6 := by obtain ⟨b9, e9, -, l9⟩ := sh_f w_I.1 kv0 (j := 56) (k := 14) (m := 6) rfl; cases huM_1.symm.trans e9; exact l9
    have kuM : jk Z uM 14 := by obtain ⟨b9, e9, k9, -⟩ := sh_f w_I.1 kv0 (j := 56) (k := 14) (m := 6) rfl; cases huM_1.symm.trans e9; exact k9
    have huG_1 : jr Z v0 57 = some uG := (q_I.2.1 v0 12 57 kv0_0 (by decide) (by decide)).trans huG
    have luG : jlen Z uG = 6 := by obtain ⟨b9, e9, -, l9⟩ := sh_f w_I.1 kv0 (j := 57) (k := 14) (m := 6) rfl; cases huG_1.symm.trans e9; exact l9
    have kuG : jk Z uG 14 := by obtain ⟨b9, e9, k9, -⟩ := sh_f w_I.1 kv0 (j := 57) (k := 14) (m := 6) rfl; cases huG_1.symm.trans e9; exact k9
    have huP_1 : jr Z v0 61 = some uP := (q_I.2.1 v0 12 61 kv0_0 (by decide) (by decide)).trans huP
    have luP : jlen Z uP = 6 := by obtain ⟨b9, e9, -, l9⟩ := sh_f w_I.1 kv0 (j := 61) (k := 14) (m := 6) rfl; cases huP_1.symm.trans e9; exact l9
    have kuP : jk Z uP 14 := by obtain ⟨b9, e9, k9, -⟩ := sh_f w_I.1 kv0 (j := 61) (k := 14) (m := 6) rfl; cases huP_1.symm.trans e9; exact k9
    have huR_1 : jr Z v0 44 = some uR := (q_I.2.1 v0 12 44 kv0_0 (by decide) (by decide)).trans huR
    have luR : jlen Z uR = 24 := by obtain ⟨b9, e9, -, l9⟩ := sh_f w_I.1 kv0 (j := 44) (k := 14) (m := 24) rfl; cases huR_1.symm.trans e9; exact l9
    have kuR : jk Z uR 14 := by obtain ⟨b9, e9, k9, -⟩ := sh_f w_I.1 kv0 (j := 44) (k := 14) (m := 24) rfl; cases huR_1.symm.trans e9; exact k9
    have xq_I := q_I.1
    have e0 : (I v0 0).toInt = (I0 v0 0).toInt := by rw [q_I.2.2.1 v0 12 0 kv0_0 (by decide) (by decide)]
    have e8 : (I v0 8).toInt = (I0 v0 8).toInt := by rw [q_I.2.2.1 v0 12 8 kv0_0 (by decide) (by decide)]
    have h80 : 0 ≤ (I0 v0 8).toInt ∧ (I0 v0 8).toInt ≤ 6 := w0.fld 12 8 kv0_0 (by decide)
    have h00 : 0 ≤ (I0 v0 0).toInt ∧ (I0 v0 0).toInt ≤ 24 := w0.fld 12 0 kv0_0 (by decide)
    have okO : ∀ q, 0 ≤ (I uO q).toInt := fun q => (show 0 ≤ (I uO q).toInt ∧ (I uO q).toInt ≤ 23 from w_I.arr 12 55 kv0 huO_1 kuO rfl rfl q).1
    have okGG : ∀ q, 0 ≤ (I uG q).toInt ∧ (I uG q).toInt ≤ 24 := fun q => w_I.arr 12 57 kv0 huG_1 kuG rfl rfl q
    have okMM : ∀ q, 0 ≤ (I uM q).toInt ∧ (I uM q).toInt ≤ 24 := fun q => w_I.arr 12 56 kv0 huM_1 kuM rfl rfl q
    have okG : ∀ q, 0 ≤ (I uG q).toInt := fun q => (okGG q).1
    have nv5 := i_nat (x := v5) rfl (by omega)
    have t20 : 0 ≤ (I v0 8).toInt ∧ (I v0 8).toInt ≤ 6 := w_I.fld 12 8 kv0 (by decide)
    refine ⟨fun c21 => ?_, fun c21 => ?_⟩
    · skip
      first | (have t22 : (I v0 8).toInt ≤ v5.toInt := (i_le rfl rfl).mp c21) | (have t22 : (I v0 8).toInt ≤ v5.toInt := (i_le rfl rfl).mp c21) | skip
      intro x23 ex23
      have rx23 := i_rng x23
      first | (have tx23 : x23.toInt = v4.toInt + (-1) := by (rw [ex23]; exact (i_add rfl (show (-1 : Int32).toInt = -1 from rfl) (by omega) (by omega)))) | skip
      exact hK203 v2 x23 Z I L w_I bd_Z q_I cp_Z   (by first | exact ⟨by omega, li1, MIn_next li2 (by omega) (by omega)⟩ | (refine ⟨by omega, li1, ?_⟩; rw [show x23.toInt = (I0 v0 0).toInt - 1 by omega]; exact MIn_start li1 (by omega) okO okG (fun p hp => li2 p (by omega)) (by omega))) (by omega) (by omega)
    · skip
      first | (have t24 : ¬ ((I v0 8).toInt ≤ v5.toInt) := (not_congr (i_le rfl rfl)).mp c21) | (have t24 : ¬ ((I v0 8).toInt ≤ v5.toInt) := (not_congr (i_le rfl rfl)).mp c21) | skip
      intro b25 eb25
      obtain rfl : uP = b25 := Option.some.inj (huP_1.symm.trans eb25)
      have o26 : vp_in v5 6 := vi_of rfl (by omega) (by omega)
      refine ⟨o26, ?_⟩
      refine ⟨fun c27 => ?_, fun c27 => ?_⟩
      · skip
        first | (have t28 : (I uP v5.toNatClampNeg).toInt = v4.toInt := (i_eq rfl rfl).mp c27) | (have t28 : (I uP v5.toNatClampNeg).toInt = v4.toInt := (i_eq rfl rfl).mp c27) | skip
        have hgm : (I uG v5.toNatClampNeg).toInt < (I uM v5.toNatClampNeg).toInt := li2.1 v5.toNatClampNeg (by omega) (by omega) (by omega)
        have hmm := okMM v5.toNatClampNeg
        intro b29 eb29
        obtain rfl : uO = b29 := Option.some.inj (huO_1.symm.trans eb29)
        intro b30 eb30
        obtain rfl : uG = b30 := Option.some.inj (huG_1.symm.trans eb30)
        have o31 : vp_in v5 6 := vi_of rfl (by omega) (by omega)
        refine ⟨o31, ?_⟩
        have t32 : 0 ≤ (I uG v5.toNatClampNeg).toInt ∧ (I uG v5.toNatClampNeg).toInt ≤ 24 := w_I.arr 12 57 kv0 huG_1 kuG rfl rfl _
        have o33 : vp_in (((24 : Int32) * v5) + (I uG v5.toNatClampNeg)) 144 := vi_of (i_add (i_mul (show (24 : Int32).toInt = 24 from rfl) rfl (by omega) (by omega)) rfl (by omega) (by omega)) (by omega) (by omega)
        refine ⟨o33, ?_⟩
        have t34 : 0 ≤ (I uO (((24 : Int32) * v5) + (I uG v5.toNatClampNeg)).toNatClampNeg).toInt ∧ (I uO (((24 : Int32) * v5) + (I uG v5.toNatClampNeg)).toNatClampNeg).toInt ≤ 23 := w_I.arr 12 55 kv0 huO_1 kuO rfl rfl _
        intro x35 ex35
        have rx35 := i_rng x35
        first | (have tx35 : x35.toInt = (I uO (((24 : Int32) * v5) + (I uG v5.toNatClampNeg)).toNatClampNeg).toInt := by (rw [ex35]; exact rfl)) | (have tx35 : x35.toInt = (I uO (((24 : Int32) * v5) + (I uG v5.toNatClampNeg)).toNatClampNeg).toInt := by rw [ex35])
        have t37 : 0 ≤ (I v0 0).toInt ∧ (I v0 0).toInt ≤ 24 := w_I.fld 12 0 kv0 (by decide)
        refine ⟨fun c38 => ?_, fun c38 => ?_⟩
        · skip
          first | (have t39 : ((I v0 0).toInt - (1)) ≤ x35.toInt := (i_le (i_sub rfl (show (1 : Int32).toInt = 1 from rfl) (by omega) (by omega)) rfl).mp c38) | (have t39 : ((I v0 0) - (1 : Int32)).toInt ≤ x35.toInt := (i_le rfl rfl).mp c38) | skip
          unfold f_X12_runFeast_b302
          intro b40 eb40
          obtain rfl : uG = b40 := Option.some.inj (huG_1.symm.trans eb40)
          have o41 : vp_in v5 6 := vi_of rfl (by omega) (by omega)
          refine ⟨o41, ?_⟩
          have t42 : 0 ≤ (I uG v5.toNatClampNeg).toInt ∧ (I uG v5.toNatClampNeg).toInt ≤ 24 := w_I.arr 12 57 kv0 huG_1 kuG rfl rfl _
          have o43 : vp_in v5 6 := vi_of rfl (by omega) (by omega)
          refine ⟨o43, ?_⟩
          intro I44 eI44
          try (have t45 : ((I uG v5.toNatClampNeg) + (1 : Int32)).toInt = ((I uG v5.toNatClampNeg).toInt + (1)) := (i_add rfl (show (1 : Int32).toInt = 1 from rfl) (by omega) (by omega)))
          have w_I44 : WD Z I44 := by rw [eI44]; exact WD_putA w_I 12 57 kv0 huG_1 kuG rfl rfl (by decide) (by constructor <;> omega)
          have ao_I44_uG : ∀ q, q ≠ v5.toNatClampNeg → I44 uG q = I uG q := fun q hq => by rw [eI44]; exact jpI_off hq
          first | (have u46 : (I44 uG (v5.toNatClampNeg)).toInt = ((I uG v5.toNatClampNeg).toInt + (1)) := by (rw [eI44, show jpI I uG v5.toNatClampNeg ((I uG v5.toNatClampNeg) + (1 : Int32)) uG v5.toNatClampNeg = ((I uG v5.toNatClampNeg) + (1 : Int32)) from jpI_at] <;> exact (i_add rfl (show (1 : Int32).toInt = 1 from rfl) (by omega) (by omega)))) | skip
          have f_I44 : FR [(12, 57)] Z I Z I44 := by rw [eI44]; exact FR_upA w_I.2.1 kv0 huG_1 kuG rfl rfl List.mem_cons_self
          have q_I44 : FR Ws_X12_runFeast Z0 I0 Z I44 := q_I.trans w0.1 w0.2.1 (f_I44.mono (by decide))
          have ao_I44_uO : I44 uO = I uO := f_I44.2.2.2 v0 12 55 uO kv0 huO_1 (by rw [kuO.2]; rfl) rfl (by decide)
          have ao_I44_uM : I44 uM = I uM := f_I44.2.2.2 v0 12 56 uM kv0 huM_1 (by rw [kuM.2]; rfl) rfl (by decide)
          have ao_I44_uP : I44 uP = I uP := f_I44.2.2.2 v0 12 61 uP kv0 huP_1 (by rw [kuP.2]; rfl) rfl (by decide)
          have ao_I44_uR : I44 uR = I uR := f_I44.2.2.2 v0 12 44 uR kv0 huR_1 (by rw [kuR.2]; rfl) rfl (by decide)
          have u47 : (I44 uM (v5.toNatClampNeg)).toInt = (I uM (v5.toNatClampNeg)).toInt := by rw [f_I44.2.2.2 v0 12 56 uM kv0 huM_1 (by rw [kuM.2]; rfl) rfl (by decide)]
          have u48 : (I44 uP (v5.toNatClampNeg)).toInt = (I uP (v5.toNatClampNeg)).toInt := by rw [f_I44.2.2.2 v0 12 61 uP kv0 huP_1 (by rw [kuP.2]; rfl) rfl (by decide)]
          have u49 : (I44 v0 0).toInt = (I v0 0).toInt := by rw [f_I44.2.2.1 v0 12 0 kv0 (by decide) (by decide)]
          have u50 : (I44 v0 8).toInt = (I v0 8).toInt := by rw [f_I44.2.2.1 v0 12 8 kv0 (by decide) (by decide)]
          have sg9 : SGo (I44 uG) = SGo (I uG) + 1 := SGo_up (p := v5.toNatClampNeg) (by omega) ao_I44_uG (by omega)
          intro b51 eb51
          obtain rfl : uG = b51 := Option.some.inj (huG_1.symm.trans eb51)
          have o52 : vp_in v5 6 := vi_of rfl (by omega) (by omega)
          refine ⟨o52, ?_⟩
          have t53 : 0 ≤ (I44 uG v5.toNatClampNeg).toInt ∧ (I44 uG v5.toNatClampNeg).toInt ≤ 24 := w_I44.arr 12 57 kv0 huG_1 kuG rfl rfl _
          intro b54 eb54
          obtain rfl : uM = b54 := Option.some.inj (huM_1.symm.trans eb54)
          have o55 : vp_in v5 6 := vi_of rfl (by omega) (by omega)
          refine ⟨o55, ?_⟩
          have t56 : 0 ≤ (I44 uM v5.toNatClampNeg).toInt ∧ (I44 uM v5.toNatClampNeg).toInt ≤ 24 := w_I44.arr 12 56 kv0 huM_1 kuM rfl rfl _
          refine ⟨fun c57 => ?_, fun c57 => ?_⟩
          · skip
            first | (have t58 : ¬ ((I44 uG v5.toNatClampNeg).toInt = (I44 uM v5.toNatClampNeg).toInt) := (not_congr (i_eq rfl rfl)).mp c57) | (have t58 : ¬ ((I44 uG v5.toNatClampNeg).toInt = (I44 uM v5.toNatClampNeg).toInt) := (not_congr (i_eq rfl rfl)).mp c57) | skip
            unfold f_X12_runFeast_b336
            intro x59 ex59
            have rx59 := i_rng x59
            first | (have tx59 : x59.toInt = (v2.toInt - (0)) := by (rw [ex59]; exact (i_sub rfl (show (0 : Int32).toInt = 0 from rfl) (by omega) (by omega)))) | (have tx59 : x59.toInt = (v2 - (0 : Int32)).toInt := by rw [ex59])
            unfold f_X12_runFeast_b338
            first | (have sg8 : SGo (I44 uG) = SGo (I uG) := congrArg SGo rfl) | skip
            intro x60 ex60
            have rx60 := i_rng x60
            first | (have tx60 : x60.toInt = v5.toInt + (1) := by (rw [ex60]; exact (i_add rfl (show (1 : Int32).toInt = 1 from rfl) (by omega) (by omega)))) | skip
            exact ih x59 x60 Z I44 L w_I44 bd_Z q_I44 cp_Z   (by first | (rw [ao_I44_uO, ao_I44_uM, ao_I44_uP, rfl]; exact ⟨by omega, li1, MIn_wait li2 (by omega) (by omega)⟩) | (rw [ao_I44_uO, ao_I44_uM, ao_I44_uP]; have hb := BSt_move (p := v5.toNatClampNeg) (G' := I44 uG) (lf' := x59.toInt) li1 (by omega) ao_I44_uG (by omega) (by omega) (by omega); have hb1 := hb.1; have hb2 := CNT_rng (G := I44 uG) (M := I uM) (n := (I0 v0 8).toInt.toNat); have sgl : SGo (I44 uG) ≤ 144 := SGo_le (fun q => w_I44.arr 12 57 kv0 huG_1 kuG rfl rfl q); exact ⟨by omega, hb, MIn_move (p := v5.toNatClampNeg) li2 hm138 nv5 (by omega) (by omega) (by omega) ao_I44_uG (by omega)⟩) | (exact ⟨by omega, li1, MIn_skip (p := v5.toNatClampNeg) li2 nv5 (by omega) (by omega)⟩) | (exact ⟨by omega, li1, li2⟩)) (by omega) (by omega) (by omega)
          · skip
            first | (have t61 : (I44 uG v5.toNatClampNeg).toInt = (I44 uM v5.toNatClampNeg).toInt := (i_eq rfl rfl).mp c57) | (have t61 : (I44 uG v5.toNatClampNeg).toInt = (I44 uM v5.toNatClampNeg).toInt := (i_eq rfl rfl).mp c57) | skip
            unfold f_X12_runFeast_b336
            intro x62 ex62
            have rx62 := i_rng x62
            first | (have tx62 : x62.toInt = (v2.toInt - (1)) := by (rw [ex62]; exact (i_sub rfl (show (1 : Int32).toInt = 1 from rfl) (by omega) (by omega)))) | (have tx62 : x62.toInt = (v2 - (1 : Int32)).toInt := by rw [ex62])
            unfold f_X12_runFeast_b338
            first | (have sg8 : SGo (I44 uG) = SGo (I uG) := congrArg SGo rfl) | skip
            intro x63 ex63
            have rx63 := i_rng x63
            first | (have tx63 : x63.toInt = v5.toInt + (1) := by (rw [ex63]; exact (i_add rfl (show (1 : Int32).toInt = 1 from rfl) (by omega) (by omega)))) | skip
            exact ih x62 x63 Z I44 L w_I44 bd_Z q_I44 cp_Z   (by first | (rw [ao_I44_uO, ao_I44_uM, ao_I44_uP, rfl]; exact ⟨by omega, li1, MIn_wait li2 (by omega) (by omega)⟩) | (rw [ao_I44_uO, ao_I44_uM, ao_I44_uP]; have hb := BSt_move (p := v5.toNatClampNeg) (G' := I44 uG) (lf' := x62.toInt) li1 (by omega) ao_I44_uG (by omega) (by omega) (by omega); have hb1 := hb.1; have hb2 := CNT_rng (G := I44 uG) (M := I uM) (n := (I0 v0 8).toInt.toNat); have sgl : SGo (I44 uG) ≤ 144 := SGo_le (fun q => w_I44.arr 12 57 kv0 huG_1 kuG rfl rfl q); exact ⟨by omega, hb, MIn_move (p := v5.toNatClampNeg) li2 hm138 nv5 (by omega) (by omega) (by omega) ao_I44_uG (by omega)⟩) | (exact ⟨by omega, li1, MIn_skip (p := v5.toNatClampNeg) li2 nv5 (by omega) (by omega)⟩) | (exact ⟨by omega, li1, li2⟩)) (by omega) (by omega) (by omega)
        · skip
          first | (have t64 : ¬ (((I v0 0).toInt - (1)) ≤ x35.toInt) := (not_congr (i_le (i_sub rfl (show (1 : Int32).toInt = 1 from rfl) (by omega) (by omega)) rfl)).mp c38) | (have t64 : ¬ (((I v0 0) - (1 : Int32)).toInt ≤ x35.toInt) := (not_congr (i_le rfl rfl)).mp c38) | skip
          refine s9_X12_onStep w_I v0 x35 kv0 uO huO_1 uM huM_1 uG huG_1  (fun r65 p66 => ?_)
          have rr65 := i_rng r65
          have nx := i_nat (x := (((24 : Int32) * v5) + (I uG v5.toNatClampNeg))) (i_add (i_mul (show (24 : Int32).toInt = 24 from rfl) rfl (by omega) (by omega)) rfl (by omega) (by omega)) (by omega)
          have hon : r65.toInt = 0 ∨ 144 - SGo (I uG) < N138 := by rcases p66 with h | ⟨p9, h1, h2, h3⟩; exact Or.inl h; right; exact MIn_free (p := v5.toNatClampNeg) (to := x35.toInt) li2 li1 okO (by omega) (by omega) (by omega) okG (by rw [ex35, show (((24 : Int32) * v5) + (I uG v5.toNatClampNeg)).toNatClampNeg = 24 * v5.toNatClampNeg + (I uG v5.toNatClampNeg).toInt.toNat by omega]) (by omega) ⟨p9, by omega, h2, h3⟩
          refine ⟨fun c67 => ?_, fun c67 => ?_⟩
          · skip
            first | (have t68 : r65.toInt < v1.toInt := (i_lt rfl rfl).mp c67) | (have t68 : r65.toInt < v1.toInt := (i_lt rfl rfl).mp c67) | skip
            unfold f_X12_runFeast_b302
            intro b69 eb69
            obtain rfl : uG = b69 := Option.some.inj (huG_1.symm.trans eb69)
            have o70 : vp_in v5 6 := vi_of rfl (by omega) (by omega)
            refine ⟨o70, ?_⟩
            have t71 : 0 ≤ (I uG v5.toNatClampNeg).toInt ∧ (I uG v5.toNatClampNeg).toInt ≤ 24 := w_I.arr 12 57 kv0 huG_1 kuG rfl rfl _
            have o72 : vp_in v5 6 := vi_of rfl (by omega) (by omega)
            refine ⟨o72, ?_⟩
            intro I73 eI73
            try (have t74 : ((I uG v5.toNatClampNeg) + (1 : Int32)).toInt = ((I uG v5.toNatClampNeg).toInt + (1)) := (i_add rfl (show (1 : Int32).toInt = 1 from rfl) (by omega) (by omega)))
            have w_I73 : WD Z I73 := by rw [eI73]; exact WD_putA w_I 12 57 kv0 huG_1 kuG rfl rfl (by decide) (by constructor <;> omega)
            have ao_I73_uG : ∀ q, q ≠ v5.toNatClampNeg → I73 uG q = I uG q := fun q hq => by rw [eI73]; exact jpI_off hq
            first | (have u75 : (I73 uG (v5.toNatClampNeg)).toInt = ((I uG v5.toNatClampNeg).toInt + (1)) := by (rw [eI73, show jpI I uG v5.toNatClampNeg ((I uG v5.toNatClampNeg) + (1 : Int32)) uG v5.toNatClampNeg = ((I uG v5.toNatClampNeg) + (1 : Int32)) from jpI_at] <;> exact (i_add rfl (show (1 : Int32).toInt = 1 from rfl) (by omega) (by omega)))) | skip
            have f_I73 : FR [(12, 57)] Z I Z I73 := by rw [eI73]; exact FR_upA w_I.2.1 kv0 huG_1 kuG rfl rfl List.mem_cons_self
            have q_I73 : FR Ws_X12_runFeast Z0 I0 Z I73 := q_I.trans w0.1 w0.2.1 (f_I73.mono (by decide))
            have ao_I73_uO : I73 uO = I uO := f_I73.2.2.2 v0 12 55 uO kv0 huO_1 (by rw [kuO.2]; rfl) rfl (by decide)
            have ao_I73_uM : I73 uM = I uM := f_I73.2.2.2 v0 12 56 uM kv0 huM_1 (by rw [kuM.2]; rfl) rfl (by decide)
            have ao_I73_uP : I73 uP = I uP := f_I73.2.2.2 v0 12 61 uP kv0 huP_1 (by rw [kuP.2]; rfl) rfl (by decide)
            have ao_I73_uR : I73 uR = I uR := f_I73.2.2.2 v0 12 44 uR kv0 huR_1 (by rw [kuR.2]; rfl) rfl (by decide)
            have u76 : (I73 uM (v5.toNatClampNeg)).toInt = (I uM (v5.toNatClampNeg)).toInt := by rw [f_I73.2.2.2 v0 12 56 uM kv0 huM_1 (by rw [kuM.2]; rfl) rfl (by decide)]
            have u77 : (I73 uP (v5.toNatClampNeg)).toInt = (I uP (v5.toNatClampNeg)).toInt := by rw [f_I73.2.2.2 v0 12 61 uP kv0 huP_1 (by rw [kuP.2]; rfl) rfl (by decide)]
            have u78 : (I73 v0 0).toInt = (I v0 0).toInt := by rw [f_I73.2.2.1 v0 12 0 kv0 (by decide) (by decide)]
            have u79 : (I73 v0 8).toInt = (I v0 8).toInt := by rw [f_I73.2.2.1 v0 12 8 kv0 (by decide) (by decide)]
            have sg9 : SGo (I73 uG) = SGo (I uG) + 1 := SGo_up (p := v5.toNatClampNeg) (by omega) ao_I73_uG (by omega)
            intro b80 eb80
            obtain rfl : uG = b80 := Option.some.inj (huG_1.symm.trans eb80)
            have o81 : vp_in v5 6 := vi_of rfl (by omega) (by omega)
            refine ⟨o81, ?_⟩
            have t82 : 0 ≤ (I73 uG v5.toNatClampNeg).toInt ∧ (I73 uG v5.toNatClampNeg).toInt ≤ 24 := w_I73.arr 12 57 kv0 huG_1 kuG rfl rfl _
            intro b83 eb83
            obtain rfl : uM = b83 := Option.some.inj (huM_1.symm.trans eb83)
            have o84 : vp_in v5 6 := vi_of rfl (by omega) (by omega)
            refine ⟨o84, ?_⟩
            have t85 : 0 ≤ (I73 uM v5.toNatClampNeg).toInt ∧ (I73 uM v5.toNatClampNeg).toInt ≤ 24 := w_I73.arr 12 56 kv0 huM_1 kuM rfl rfl _
            refine ⟨fun c86 => ?_, fun c86 => ?_⟩
            · skip
              first | (have t87 : ¬ ((I73 uG v5.toNatClampNeg).toInt = (I73 uM v5.toNatClampNeg).toInt) := (not_congr (i_eq rfl rfl)).mp c86) | (have t87 : ¬ ((I73 uG v5.toNatClampNeg).toInt = (I73 uM v5.toNatClampNeg).toInt) := (not_congr (i_eq rfl rfl)).mp c86) | skip
              unfold f_X12_runFeast_b336
              intro x88 ex88
              have rx88 := i_rng x88
              first | (have tx88 : x88.toInt = (v2.toInt - (0)) := by (rw [ex88]; exact (i_sub rfl (show (0 : Int32).toInt = 0 from rfl) (by omega) (by omega)))) | (have tx88 : x88.toInt = (v2 - (0 : Int32)).toInt := by rw [ex88])
              unfold f_X12_runFeast_b338
              first | (have sg8 : SGo (I73 uG) = SGo (I uG) := congrArg SGo rfl) | skip
              intro x89 ex89
              have rx89 := i_rng x89
              first | (have tx89 : x89.toInt = v5.toInt + (1) := by (rw [ex89]; exact (i_add rfl (show (1 : Int32).toInt = 1 from rfl) (by omega) (by omega)))) | skip
              exact ih x88 x89 Z I73 L w_I73 bd_Z q_I73 cp_Z   (by first | (rw [ao_I73_uO, ao_I73_uM, ao_I73_uP, rfl]; exact ⟨by omega, li1, MIn_wait li2 (by omega) (by omega)⟩) | (rw [ao_I73_uO, ao_I73_uM, ao_I73_uP]; have hb := BSt_move (p := v5.toNatClampNeg) (G' := I73 uG) (lf' := x88.toInt) li1 (by omega) ao_I73_uG (by omega) (by omega) (by omega); have hb1 := hb.1; have hb2 := CNT_rng (G := I73 uG) (M := I uM) (n := (I0 v0 8).toInt.toNat); have sgl : SGo (I73 uG) ≤ 144 := SGo_le (fun q => w_I73.arr 12 57 kv0 huG_1 kuG rfl rfl q); exact ⟨by omega, hb, MIn_move (p := v5.toNatClampNeg) li2 hm138 nv5 (by omega) (by omega) (by omega) ao_I73_uG (by omega)⟩) | (exact ⟨by omega, li1, MIn_skip (p := v5.toNatClampNeg) li2 nv5 (by omega) (by omega)⟩) | (exact ⟨by omega, li1, li2⟩)) (by omega) (by omega) (by omega)
            · skip
              first | (have t90 : (I73 uG v5.toNatClampNeg).toInt = (I73 uM v5.toNatClampNeg).toInt := (i_eq rfl rfl).mp c86) | (have t90 : (I73 uG v5.toNatClampNeg).toInt = (I73 uM v5.toNatClampNeg).toInt := (i_eq rfl rfl).mp c86) | skip
              unfold f_X12_runFeast_b336
              intro x91 ex91
              have rx91 := i_rng x91
              first | (have tx91 : x91.toInt = (v2.toInt - (1)) := by (rw [ex91]; exact (i_sub rfl (show (1 : Int32).toInt = 1 from rfl) (by omega) (by omega)))) | (have tx91 : x91.toInt = (v2 - (1 : Int32)).toInt := by rw [ex91])
              unfold f_X12_runFeast_b338
              first | (have sg8 : SGo (I73 uG) = SGo (I uG) := congrArg SGo rfl) | skip
              intro x92 ex92
              have rx92 := i_rng x92
              first | (have tx92 : x92.toInt = v5.toInt + (1) := by (rw [ex92]; exact (i_add rfl (show (1 : Int32).toInt = 1 from rfl) (by omega) (by omega)))) | skip
              exact ih x91 x92 Z I73 L w_I73 bd_Z q_I73 cp_Z   (by first | (rw [ao_I73_uO, ao_I73_uM, ao_I73_uP, rfl]; exact ⟨by omega, li1, MIn_wait li2 (by omega) (by omega)⟩) | (rw [ao_I73_uO, ao_I73_uM, ao_I73_uP]; have hb := BSt_move (p := v5.toNatClampNeg) (G' := I73 uG) (lf' := x91.toInt) li1 (by omega) ao_I73_uG (by omega) (by omega) (by omega); have hb1 := hb.1; have hb2 := CNT_rng (G := I73 uG) (M := I uM) (n := (I0 v0 8).toInt.toNat); have sgl : SGo (I73 uG) ≤ 144 := SGo_le (fun q => w_I73.arr 12 57 kv0 huG_1 kuG rfl rfl q); exact ⟨by omega, hb, MIn_move (p := v5.toNatClampNeg) li2 hm138 nv5 (by omega) (by omega) (by omega) ao_I73_uG (by omega)⟩) | (exact ⟨by omega, li1, MIn_skip (p := v5.toNatClampNeg) li2 nv5 (by omega) (by omega)⟩) | (exact ⟨by omega, li1, li2⟩)) (by omega) (by omega) (by omega)
          · skip
            first | (have t93 : ¬ (r65.toInt < v1.toInt) := (not_congr (i_lt rfl rfl)).mp c67) | (have t93 : ¬ (r65.toInt < v1.toInt) := (not_congr (i_lt rfl rfl)).mp c67) | skip
            intro b94 eb94
            obtain ⟨x95, ex95, kb94, lb94⟩ := sh_f w_I.1 kv0 (j := 58) (k := 14) (m := 6) rfl
            cases eb94.symm.trans ex95
            have o96 : vp_in v5 6 := vi_of rfl (by omega) (by omega)
            refine ⟨o96, ?_⟩
            have o97 : vp_in v5 6 := vi_of rfl (by omega) (by omega)
            refine ⟨o97, ?_⟩
            intro I98 eI98
            try (have t99 : ((I b94 v5.toNatClampNeg) + (1 : Int32)).toInt = ((I b94 v5.toNatClampNeg).toInt + (1)) := (i_add rfl (show (1 : Int32).toInt = 1 from rfl) (by omega) (by omega)))
            have w_I98 : WD Z I98 := by rw [eI98]; exact WD_putA w_I 12 58 kv0 eb94 kb94 rfl rfl (by decide) trivial
            have f_I98 : FR [(12, 58)] Z I Z I98 := by rw [eI98]; exact FR_upA w_I.2.1 kv0 eb94 kb94 rfl rfl List.mem_cons_self
            have q_I98 : FR Ws_X12_runFeast Z0 I0 Z I98 := q_I.trans w0.1 w0.2.1 (f_I98.mono (by decide))
            have ao_I98_uO : I98 uO = I uO := f_I98.2.2.2 v0 12 55 uO kv0 huO_1 (by rw [kuO.2]; rfl) rfl (by decide)
            have ao_I98_uM : I98 uM = I uM := f_I98.2.2.2 v0 12 56 uM kv0 huM_1 (by rw [kuM.2]; rfl) rfl (by decide)
            have ao_I98_uG : I98 uG = I uG := f_I98.2.2.2 v0 12 57 uG kv0 huG_1 (by rw [kuG.2]; rfl) rfl (by decide)
            have ao_I98_uP : I98 uP = I uP := f_I98.2.2.2 v0 12 61 uP kv0 huP_1 (by rw [kuP.2]; rfl) rfl (by decide)
            have ao_I98_uR : I98 uR = I uR := f_I98.2.2.2 v0 12 44 uR kv0 huR_1 (by rw [kuR.2]; rfl) rfl (by decide)
            have u100 : (I98 uM (v5.toNatClampNeg)).toInt = (I uM (v5.toNatClampNeg)).toInt := by rw [f_I98.2.2.2 v0 12 56 uM kv0 huM_1 (by rw [kuM.2]; rfl) rfl (by decide)]
            have u101 : (I98 uG (v5.toNatClampNeg)).toInt = (I uG (v5.toNatClampNeg)).toInt := by rw [f_I98.2.2.2 v0 12 57 uG kv0 huG_1 (by rw [kuG.2]; rfl) rfl (by decide)]
            have u102 : (I98 uP (v5.toNatClampNeg)).toInt = (I uP (v5.toNatClampNeg)).toInt := by rw [f_I98.2.2.2 v0 12 61 uP kv0 huP_1 (by rw [kuP.2]; rfl) rfl (by decide)]
            have u103 : (I98 v0 0).toInt = (I v0 0).toInt := by rw [f_I98.2.2.1 v0 12 0 kv0 (by decide) (by decide)]
            have u104 : (I98 v0 8).toInt = (I v0 8).toInt := by rw [f_I98.2.2.1 v0 12 8 kv0 (by decide) (by decide)]
            intro b105 eb105
            obtain ⟨x106, ex106, kb105, lb105⟩ := sh_f w_I98.1 kv0 (j := 59) (k := 14) (m := 24) rfl
            cases eb105.symm.trans ex106
            have o107 : vp_in x35 24 := vi_of rfl (by omega) (by omega)
            refine ⟨o107, ?_⟩
            have o108 : vp_in x35 24 := vi_of rfl (by omega) (by omega)
            refine ⟨o108, ?_⟩
            intro I109 eI109
            try (have t110 : ((I98 b105 x35.toNatClampNeg) + (1 : Int32)).toInt = ((I98 b105 x35.toNatClampNeg).toInt + (1)) := (i_add rfl (show (1 : Int32).toInt = 1 from rfl) (by omega) (by omega)))
            have w_I109 : WD Z I109 := by rw [eI109]; exact WD_putA w_I98 12 59 kv0 eb105 kb105 rfl rfl (by decide) trivial
            have f_I109 : FR [(12, 59)] Z I98 Z I109 := by rw [eI109]; exact FR_upA w_I98.2.1 kv0 eb105 kb105 rfl rfl List.mem_cons_self
            have q_I109 : FR Ws_X12_runFeast Z0 I0 Z I109 := q_I98.trans w0.1 w0.2.1 (f_I109.mono (by decide))
            have ao_I109_uO : I109 uO = I uO := (f_I109.2.2.2 v0 12 55 uO kv0 huO_1 (by rw [kuO.2]; rfl) rfl (by decide)).trans ao_I98_uO
            have ao_I109_uM : I109 uM = I uM := (f_I109.2.2.2 v0 12 56 uM kv0 huM_1 (by rw [kuM.2]; rfl) rfl (by decide)).trans ao_I98_uM
            have ao_I109_uG : I109 uG = I uG := (f_I109.2.2.2 v0 12 57 uG kv0 huG_1 (by rw [kuG.2]; rfl) rfl (by decide)).trans ao_I98_uG
            have ao_I109_uP : I109 uP = I uP := (f_I109.2.2.2 v0 12 61 uP kv0 huP_1 (by rw [kuP.2]; rfl) rfl (by decide)).trans ao_I98_uP
            have ao_I109_uR : I109 uR = I uR := (f_I109.2.2.2 v0 12 44 uR kv0 huR_1 (by rw [kuR.2]; rfl) rfl (by decide)).trans ao_I98_uR
            have u111 : (I109 uM (v5.toNatClampNeg)).toInt = (I98 uM (v5.toNatClampNeg)).toInt := by rw [f_I109.2.2.2 v0 12 56 uM kv0 huM_1 (by rw [kuM.2]; rfl) rfl (by decide)]
            have u112 : (I109 uG (v5.toNatClampNeg)).toInt = (I98 uG (v5.toNatClampNeg)).toInt := by rw [f_I109.2.2.2 v0 12 57 uG kv0 huG_1 (by rw [kuG.2]; rfl) rfl (by decide)]
            have u113 : (I109 uP (v5.toNatClampNeg)).toInt = (I98 uP (v5.toNatClampNeg)).toInt := by rw [f_I109.2.2.2 v0 12 61 uP kv0 huP_1 (by rw [kuP.2]; rfl) rfl (by decide)]
            have u114 : (I109 v0 0).toInt = (I98 v0 0).toInt := by rw [f_I109.2.2.1 v0 12 0 kv0 (by decide) (by decide)]
            have u115 : (I109 v0 8).toInt = (I98 v0 8).toInt := by rw [f_I109.2.2.1 v0 12 8 kv0 (by decide) (by decide)]
            unfold f_X12_runFeast_b338
            first | (have sg8 : SGo (I109 uG) = SGo (I uG) := congrArg SGo ao_I109_uG) | skip
            intro x116 ex116
            have rx116 := i_rng x116
            first | (have tx116 : x116.toInt = v5.toInt + (1) := by (rw [ex116]; exact (i_add rfl (show (1 : Int32).toInt = 1 from rfl) (by omega) (by omega)))) | skip
            exact ih v2 x116 Z I109 L w_I109 bd_Z q_I109 cp_Z   (by first | (rw [ao_I109_uO, ao_I109_uM, ao_I109_uP, ao_I109_uG]; exact ⟨by omega, li1, MIn_wait li2 (by omega) (by omega)⟩) | (rw [ao_I109_uO, ao_I109_uM, ao_I109_uP]; have hb := BSt_move (p := v5.toNatClampNeg) (G' := I109 uG) (lf' := v2.toInt) li1 (by omega) (fun q _ => congrFun ao_I109_uG q) (by omega) (by omega) (by omega); have hb1 := hb.1; have hb2 := CNT_rng (G := I109 uG) (M := I uM) (n := (I0 v0 8).toInt.toNat); have sgl : SGo (I109 uG) ≤ 144 := SGo_le (fun q => w_I109.arr 12 57 kv0 huG_1 kuG rfl rfl q); exact ⟨by omega, hb, MIn_move (p := v5.toNatClampNeg) li2 hm138 nv5 (by omega) (by omega) (by omega) (fun q _ => congrFun ao_I109_uG q) (by omega)⟩) | (exact ⟨by omega, li1, MIn_skip (p := v5.toNatClampNeg) li2 nv5 (by omega) (by omega)⟩) | (exact ⟨by omega, li1, li2⟩)) (by omega) (by omega) (by omega)
      · skip
        first | (have t117 : ¬ ((I uP v5.toNatClampNeg).toInt = v4.toInt) := (not_congr (i_eq rfl rfl)).mp c27) | (have t117 : ¬ ((I uP v5.toNatClampNeg).toInt = v4.toInt) := (not_congr (i_eq rfl rfl)).mp c27) | skip
        unfold f_X12_runFeast_b338
        first | (have sg8 : SGo (I uG) = SGo (I uG) := congrArg SGo rfl) | skip
        intro x118 ex118
        have rx118 := i_rng x118
        first | (have tx118 : x118.toInt = v5.toInt + (1) := by (rw [ex118]; exact (i_add rfl (show (1 : Int32).toInt = 1 from rfl) (by omega) (by omega)))) | skip
        exact ih v2 x118 Z I L w_I bd_Z q_I cp_Z   (by first | (rw [rfl, rfl, rfl, rfl]; exact ⟨by omega, li1, MIn_wait li2 (by omega) (by omega)⟩) | (rw [rfl, rfl, rfl]; have hb := BSt_move (p := v5.toNatClampNeg) (G' := I uG) (lf' := v2.toInt) li1 (by omega) (fun _ _ => rfl) (by omega) (by omega) (by omega); have hb1 := hb.1; have hb2 := CNT_rng (G := I uG) (M := I uM) (n := (I0 v0 8).toInt.toNat); have sgl : SGo (I uG) ≤ 144 := SGo_le (fun q => w_I.arr 12 57 kv0 huG_1 kuG rfl rfl q); exact ⟨by omega, hb, MIn_move (p := v5.toNatClampNeg) li2 hm138 nv5 (by omega) (by omega) (by omega) (fun _ _ => rfl) (by omega)⟩) | (exact ⟨by omega, li1, MIn_skip (p := v5.toNatClampNeg) li2 nv5 (by omega) (by omega)⟩) | (exact ⟨by omega, li1, li2⟩)) (by omega) (by omega) (by omega)
set_option maxHeartbeats 4000000 in
set_option maxRecDepth 100000 in
theorem l_X12_runFeast_L203 {B : Nat × Nat} {T : Nat} {Z0 : jZ} {I0 : jI} {Q : Int32 → jZ → jI → jL → Prop} (w0 : WD Z0 I0) (v0 : Nat) (v1 : Int32) (kv0 : jk Z0 v0 12) (uO : Nat) (huO : jr Z0 v0 55 = some uO) (uM : Nat) (huM : jr Z0 v0 56 = some uM) (uG : Nat) (huG : jr Z0 v0 57 = some uG) (uP : Nat) (huP : jr Z0 v0 61 = some uP) (uR : Nat) (huR : jr Z0 v0 44 = some uR) (p0 : 1 ≤ (I0 v0 0).toInt) (p1 : 1 ≤ v1.toInt) (v3 : Int32) (hQ : ∀ (r : Int32) (Z' : jZ) (I' : jI) (L' : jL), WD Z' I' → BUD B Z' T → FR Ws_X12_runFeast Z0 I0 Z' I' → CP Z0 Z' → Q r Z' I' L') {K138 : Nat → Int32 → Int32 → Int32 → jZ → jI → jL → Prop} {N138 : Int} (hK138 : ∀ (v2 : Int32) (v3 : Int32) (Z : jZ) (I : jI) (L : jL), WD Z I → BUD B Z T → FR Ws_X12_runFeast Z0 I0 Z I → CP Z0 Z →   ((0 ≤ v2.toInt ∧ v2.toInt ≤ 6 ∧ SGo (I uG) ≤ 144) ∧ BSt (I0 v0 0).toInt (I0 v0 8).toInt (I uO) (I uM) (I uG) v2.toInt) → 144 - SGo (I uG) < N138 → K138 v0 v1 v2 v3 Z I L) : ∀ (n : Nat) (v2 : Int32) (v4 : Int32) (Z : jZ) (I : jI) (L : jL), WD Z I → BUD B Z T → FR Ws_X12_runFeast Z0 I0 Z I → CP Z0 Z →   ((-2 ≤ v4.toInt ∧ v4.toInt ≤ 23 ∧ 0 ≤ v2.toInt ∧ v2.toInt ≤ 6 ∧ SGo (I uG) ≤ 144) ∧ BSt (I0 v0 0).toInt (I0 v0 8).toInt (I uO) (I uM) (I uG) v2.toInt ∧ MIn N138 (I0 v0 8).toInt (I uO) (I uM) (I uG) (I uP) v4.toInt 0 v2.toInt) → 144 - SGo (I uG) ≤ N138 → v4.toInt + 2 < (n : Int) → f_X12_runFeast_L203 B K138 Q n v0 v1 v2 v3 v4 Z I L := by
  intro n
  induction n with
  | zero =>
    intro v2 v4 Z I L w_I bd_Z q_I cp_Z   li hm138 me
    exfalso
    omega
  | succ n ih =>
    intro v2 v4 Z I L w_I bd_Z q_I cp_Z   li hm138 me
    unfold f_X12_runFeast_L203
    have rv2 := i_rng v2
    have rv4 := i_rng v4
    have rv3 := i_rng v3
    have rv1 := i_rng v1
    obtain ⟨li0, li1, li2⟩ := li
    have kv0_0 := kv0
    have kv0 := (q_I.1 _ _ kv0).1
    have t119 : 0 ≤ (I v0 0).toInt ∧ (I v0 0).toInt ≤ 24 := w_I.fld 12 0 kv0 (by decide)
    have t120 : 0 ≤ (I v0 8).toInt ∧ (I v0 8).toInt ≤ 6 := w_I.fld 12 8 kv0 (by decide)
    have huO_1 : jr Z v0 55 = some uO := (q_I.2.1 v0 12 55 kv0_0 (by decide) (by decide)).trans huO
    have luO : jlen Z uO = 144 := by obtain ⟨b9, e9, -, l9⟩ := sh_f w_I.1 kv0 (j := 55) (k := 14) (m := 144) rfl; cases huO_1.symm.trans e9; exact l9
    have kuO : jk Z uO 14 := by obtain ⟨b9, e9, k9, -⟩ := sh_f w_I.1 kv0 (j := 55) (k := 14) (m := 144) rfl; cases huO_1.symm.trans e9; exact k9
    have huM_1 : jr Z v0 56 = some uM := (q_I.2.1 v0 12 56 kv0_0 (by decide) (by decide)).trans huM
    have luM : jlen Z uM = 6 := by obtain ⟨b9, e9, -, l9⟩ := sh_f w_I.1 kv0 (j := 56) (k := 14) (m := 6) rfl; cases huM_1.symm.trans e9; exact l9
    have kuM : jk Z uM 14 := by obtain ⟨b9, e9, k9, -⟩ := sh_f w_I.1 kv0 (j := 56) (k := 14) (m := 6) rfl; cases huM_1.symm.trans e9; exact k9
    have huG_1 : jr Z v0 57 = some uG := (q_I.2.1 v0 12 57 kv0_0 (by decide) (by decide)).trans huG
    have luG : jlen Z uG = 6 := by obtain ⟨b9, e9, -, l9⟩ := sh_f w_I.1 kv0 (j := 57) (k := 14) (m := 6) rfl; cases huG_1.symm.trans e9; exact l9
    have kuG : jk Z uG 14 := by obtain ⟨b9, e9, k9, -⟩ := sh_f w_I.1 kv0 (j := 57) (k := 14) (m := 6) rfl; cases huG_1.symm.trans e9; exact k9
    have huP_1 : jr Z v0 61 = some uP := (q_I.2.1 v0 12 61 kv0_0 (by decide) (by decide)).trans huP
    have luP : jlen Z uP = 6 := by obtain ⟨b9, e9, -, l9⟩ := sh_f w_I.1 kv0 (j := 61) (k := 14) (m := 6) rfl; cases huP_1.symm.trans e9; exact l9
    have kuP : jk Z uP 14 := by obtain ⟨b9, e9, k9, -⟩ := sh_f w_I.1 kv0 (j := 61) (k := 14) (m := 6) rfl; cases huP_1.symm.trans e9; exact k9
    have huR_1 : jr Z v0 44 = some uR := (q_I.2.1 v0 12 44 kv0_0 (by decide) (by decide)).trans huR
    have luR : jlen Z uR = 24 := by obtain ⟨b9, e9, -, l9⟩ := sh_f w_I.1 kv0 (j := 44) (k := 14) (m := 24) rfl; cases huR_1.symm.trans e9; exact l9
    have kuR : jk Z uR 14 := by obtain ⟨b9, e9, k9, -⟩ := sh_f w_I.1 kv0 (j := 44) (k := 14) (m := 24) rfl; cases huR_1.symm.trans e9; exact k9
    have xq_I := q_I.1
    have e0 : (I v0 0).toInt = (I0 v0 0).toInt := by rw [q_I.2.2.1 v0 12 0 kv0_0 (by decide) (by decide)]
    have e8 : (I v0 8).toInt = (I0 v0 8).toInt := by rw [q_I.2.2.1 v0 12 8 kv0_0 (by decide) (by decide)]
    have h80 : 0 ≤ (I0 v0 8).toInt ∧ (I0 v0 8).toInt ≤ 6 := w0.fld 12 8 kv0_0 (by decide)
    have h00 : 0 ≤ (I0 v0 0).toInt ∧ (I0 v0 0).toInt ≤ 24 := w0.fld 12 0 kv0_0 (by decide)
    have okO : ∀ q, 0 ≤ (I uO q).toInt := fun q => (show 0 ≤ (I uO q).toInt ∧ (I uO q).toInt ≤ 23 from w_I.arr 12 55 kv0 huO_1 kuO rfl rfl q).1
    have okGG : ∀ q, 0 ≤ (I uG q).toInt ∧ (I uG q).toInt ≤ 24 := fun q => w_I.arr 12 57 kv0 huG_1 kuG rfl rfl q
    have okMM : ∀ q, 0 ≤ (I uM q).toInt ∧ (I uM q).toInt ≤ 24 := fun q => w_I.arr 12 56 kv0 huM_1 kuM rfl rfl q
    have okG : ∀ q, 0 ≤ (I uG q).toInt := fun q => (okGG q).1
    refine ⟨fun c121 => ?_, fun c121 => ?_⟩
    · skip
      first | (have t122 : v4.toInt < (-1) := (i_lt rfl (show (-1 : Int32).toInt = -1 from rfl)).mp c121) | (have t122 : v4.toInt < (-1 : Int32).toInt := (i_lt rfl rfl).mp c121) | skip
      have t123 : (0 : Int32).toInt = 0 := rfl
      exact ⟨(24 - (0 : Int32).toInt).toNat + 1, l_X12_runFeast_L353 w0 v0 v1 kv0_0 uO huO uM huM uG huG uP huP uR huR p0 p1 v2 v3  hQ hK138  _ (0 : Int32) Z I L w_I bd_Z q_I cp_Z   (by first | (rw [rfl, rfl, rfl]; exact ⟨by omega, li1⟩) | (have me9 := MIn_end li2 li1 (by omega) okO okG (by omega); exact ⟨by omega, li1⟩)) (by omega) (by omega)⟩
    · skip
      first | (have t124 : ¬ (v4.toInt < (-1)) := (not_congr (i_lt rfl (show (-1 : Int32).toInt = -1 from rfl))).mp c121) | (have t124 : ¬ (v4.toInt < (-1 : Int32).toInt) := (not_congr (i_lt rfl rfl)).mp c121) | skip
      have t125 : (0 : Int32).toInt = 0 := rfl
      exact ⟨(6 - (0 : Int32).toInt).toNat + 1, l_X12_runFeast_L212 w0 v0 v1 kv0_0 uO huO uM huM uG huG uP huP uR huR p0 p1 v3 v4  hQ hK138 ih  _ v2 (0 : Int32) Z I L w_I bd_Z q_I cp_Z   (by first | (rw [rfl, rfl, rfl, rfl]; exact ⟨by omega, li1, MIn_wait li2 (by omega) (by omega)⟩) | (rw [rfl, rfl, rfl]; have hb := BSt_move (p := v5.toNatClampNeg) (G' := I uG) (lf' := v2.toInt) li1 (by omega) (fun _ _ => rfl) (by omega) (by omega) (by omega); have hb1 := hb.1; have hb2 := CNT_rng (G := I uG) (M := I uM) (n := (I0 v0 8).toInt.toNat); have sgl : SGo (I uG) ≤ 144 := SGo_le (fun q => w_I.arr 12 57 kv0 huG_1 kuG rfl rfl q); exact ⟨by omega, hb, MIn_move (p := v5.toNatClampNeg) li2 hm138 nv5 (by omega) (by omega) (by omega) (fun _ _ => rfl) (by omega)⟩) | (exact ⟨by omega, li1, MIn_skip (p := v5.toNatClampNeg) li2 nv5 (by omega) (by omega)⟩) | (exact ⟨by omega, li1, li2⟩)) (by omega) (by omega) (by omega)⟩
set_option maxHeartbeats 4000000 in
set_option maxRecDepth 100000 in
theorem l_X12_runFeast_L145 {B : Nat × Nat} {T : Nat} {Z0 : jZ} {I0 : jI} {Q : Int32 → jZ → jI → jL → Prop} (w0 : WD Z0 I0) (v0 : Nat) (v1 : Int32) (kv0 : jk Z0 v0 12) (uO : Nat) (huO : jr Z0 v0 55 = some uO) (uM : Nat) (huM : jr Z0 v0 56 = some uM) (uG : Nat) (huG : jr Z0 v0 57 = some uG) (uP : Nat) (huP : jr Z0 v0 61 = some uP) (uR : Nat) (huR : jr Z0 v0 44 = some uR) (p0 : 1 ≤ (I0 v0 0).toInt) (p1 : 1 ≤ v1.toInt) (v2 : Int32) (v3 : Int32) (hQ : ∀ (r : Int32) (Z' : jZ) (I' : jI) (L' : jL), WD Z' I' → BUD B Z' T → FR Ws_X12_runFeast Z0 I0 Z' I' → CP Z0 Z' → Q r Z' I' L') {K138 : Nat → Int32 → Int32 → Int32 → jZ → jI → jL → Prop} {N138 : Int} (hK138 : ∀ (v2 : Int32) (v3 : Int32) (Z : jZ) (I : jI) (L : jL), WD Z I → BUD B Z T → FR Ws_X12_runFeast Z0 I0 Z I → CP Z0 Z →   ((0 ≤ v2.toInt ∧ v2.toInt ≤ 6 ∧ SGo (I uG) ≤ 144) ∧ BSt (I0 v0 0).toInt (I0 v0 8).toInt (I uO) (I uM) (I uG) v2.toInt) → 144 - SGo (I uG) < N138 → K138 v0 v1 v2 v3 Z I L) : ∀ (n : Nat) (v4 : Int32) (Z : jZ) (I : jI) (L : jL), WD Z I → BUD B Z T → FR Ws_X12_runFeast Z0 I0 Z I → CP Z0 Z →   ((0 ≤ v4.toInt ∧ v4.toInt ≤ 6 ∧ 0 < v2.toInt ∧ v2.toInt ≤ 6 ∧ SGo (I uG) ≤ 144) ∧ BSt (I0 v0 0).toInt (I0 v0 8).toInt (I uO) (I uM) (I uG) v2.toInt ∧ (∀ i : Nat, (i : Int) < v4.toInt → (I uP i).toInt = if (I uG i).toInt < (I uM i).toInt then PLC (I uO) (I uG) i else -2)) → 144 - SGo (I uG) ≤ N138 → 6 - v4.toInt < (n : Int) → f_X12_runFeast_L145 B K138 Q n v0 v1 v2 v3 v4 Z I L := by
  intro n
  induction n with
  | zero =>
    intro v4 Z I L w_I bd_Z q_I cp_Z   li hm138 me
    exfalso
    omega
  | succ n ih =>
    intro v4 Z I L w_I bd_Z q_I cp_Z   li hm138 me
    unfold f_X12_runFeast_L145
    have rv4 := i_rng v4
    have rv2 := i_rng v2
    have rv3 := i_rng v3
    have rv1 := i_rng v1
    obtain ⟨li0, li1, li2⟩ := li
    have kv0_0 := kv0
    have kv0 := (q_I.1 _ _ kv0).1
    have t126 : 0 ≤ (I v0 0).toInt ∧ (I v0 0).toInt ≤ 24 := w_I.fld 12 0 kv0 (by decide)
    have t127 : 0 ≤ (I v0 8).toInt ∧ (I v0 8).toInt ≤ 6 := w_I.fld 12 8 kv0 (by decide)
    have huO_1 : jr Z v0 55 = some uO := (q_I.2.1 v0 12 55 kv0_0 (by decide) (by decide)).trans huO
    have luO : jlen Z uO = 144 := by obtain ⟨b9, e9, -, l9⟩ := sh_f w_I.1 kv0 (j := 55) (k := 14) (m := 144) rfl; cases huO_1.symm.trans e9; exact l9
    have kuO : jk Z uO 14 := by obtain ⟨b9, e9, k9, -⟩ := sh_f w_I.1 kv0 (j := 55) (k := 14) (m := 144) rfl; cases huO_1.symm.trans e9; exact k9
    have huM_1 : jr Z v0 56 = some uM := (q_I.2.1 v0 12 56 kv0_0 (by decide) (by decide)).trans huM
    have luM : jlen Z uM = 6 := by obtain ⟨b9, e9, -, l9⟩ := sh_f w_I.1 kv0 (j := 56) (k := 14) (m := 6) rfl; cases huM_1.symm.trans e9; exact l9
    have kuM : jk Z uM 14 := by obtain ⟨b9, e9, k9, -⟩ := sh_f w_I.1 kv0 (j := 56) (k := 14) (m := 6) rfl; cases huM_1.symm.trans e9; exact k9
    have huG_1 : jr Z v0 57 = some uG := (q_I.2.1 v0 12 57 kv0_0 (by decide) (by decide)).trans huG
    have luG : jlen Z uG = 6 := by obtain ⟨b9, e9, -, l9⟩ := sh_f w_I.1 kv0 (j := 57) (k := 14) (m := 6) rfl; cases huG_1.symm.trans e9; exact l9
    have kuG : jk Z uG 14 := by obtain ⟨b9, e9, k9, -⟩ := sh_f w_I.1 kv0 (j := 57) (k := 14) (m := 6) rfl; cases huG_1.symm.trans e9; exact k9
    have huP_1 : jr Z v0 61 = some uP := (q_I.2.1 v0 12 61 kv0_0 (by decide) (by decide)).trans huP
    have luP : jlen Z uP = 6 := by obtain ⟨b9, e9, -, l9⟩ := sh_f w_I.1 kv0 (j := 61) (k := 14) (m := 6) rfl; cases huP_1.symm.trans e9; exact l9
    have kuP : jk Z uP 14 := by obtain ⟨b9, e9, k9, -⟩ := sh_f w_I.1 kv0 (j := 61) (k := 14) (m := 6) rfl; cases huP_1.symm.trans e9; exact k9
    have huR_1 : jr Z v0 44 = some uR := (q_I.2.1 v0 12 44 kv0_0 (by decide) (by decide)).trans huR
    have luR : jlen Z uR = 24 := by obtain ⟨b9, e9, -, l9⟩ := sh_f w_I.1 kv0 (j := 44) (k := 14) (m := 24) rfl; cases huR_1.symm.trans e9; exact l9
    have kuR : jk Z uR 14 := by obtain ⟨b9, e9, k9, -⟩ := sh_f w_I.1 kv0 (j := 44) (k := 14) (m := 24) rfl; cases huR_1.symm.trans e9; exact k9
    have xq_I := q_I.1
    have e0 : (I v0 0).toInt = (I0 v0 0).toInt := by rw [q_I.2.2.1 v0 12 0 kv0_0 (by decide) (by decide)]
    have e8 : (I v0 8).toInt = (I0 v0 8).toInt := by rw [q_I.2.2.1 v0 12 8 kv0_0 (by decide) (by decide)]
    have h80 : 0 ≤ (I0 v0 8).toInt ∧ (I0 v0 8).toInt ≤ 6 := w0.fld 12 8 kv0_0 (by decide)
    have h00 : 0 ≤ (I0 v0 0).toInt ∧ (I0 v0 0).toInt ≤ 24 := w0.fld 12 0 kv0_0 (by decide)
    have okO : ∀ q, 0 ≤ (I uO q).toInt := fun q => (show 0 ≤ (I uO q).toInt ∧ (I uO q).toInt ≤ 23 from w_I.arr 12 55 kv0 huO_1 kuO rfl rfl q).1
    have okGG : ∀ q, 0 ≤ (I uG q).toInt ∧ (I uG q).toInt ≤ 24 := fun q => w_I.arr 12 57 kv0 huG_1 kuG rfl rfl q
    have okMM : ∀ q, 0 ≤ (I uM q).toInt ∧ (I uM q).toInt ≤ 24 := fun q => w_I.arr 12 56 kv0 huM_1 kuM rfl rfl q
    have okG : ∀ q, 0 ≤ (I uG q).toInt := fun q => (okGG q).1
    have nv4 := i_nat (x := v4) rfl (by omega)
    have t129 : 0 ≤ (I v0 8).toInt ∧ (I v0 8).toInt ≤ 6 := w_I.fld 12 8 kv0 (by decide)
    refine ⟨fun c130 => ?_, fun c130 => ?_⟩
    · skip
      first | (have t131 : (I v0 8).toInt ≤ v4.toInt := (i_le rfl rfl).mp c130) | (have t131 : (I v0 8).toInt ≤ v4.toInt := (i_le rfl rfl).mp c130) | skip
      have t133 : 0 ≤ (I v0 0).toInt ∧ (I v0 0).toInt ≤ 24 := w_I.fld 12 0 kv0 (by decide)
      intro x134 ex134
      have rx134 := i_rng x134
      first | (have tx134 : x134.toInt = ((I v0 0).toInt - (1)) := by (rw [ex134]; exact (i_sub rfl (show (1 : Int32).toInt = 1 from rfl) (by omega) (by omega)))) | (have tx134 : x134.toInt = ((I v0 0) - (1 : Int32)).toInt := by rw [ex134])
      exact ⟨(x134.toInt + 2).toNat + 1, l_X12_runFeast_L203 w0 v0 v1 kv0_0 uO huO uM huM uG huG uP huP uR huR p0 p1 v3  hQ hK138  _ v2 x134 Z I L w_I bd_Z q_I cp_Z   (by first | exact ⟨by omega, li1, MIn_next li2 (by omega) (by omega)⟩ | (refine ⟨by omega, li1, ?_⟩; rw [show x134.toInt = (I0 v0 0).toInt - 1 by omega]; exact MIn_start li1 (by omega) okO okG (fun p hp => li2 p (by omega)) (by omega))) (by omega) (by omega)⟩
    · skip
      first | (have t135 : ¬ ((I v0 8).toInt ≤ v4.toInt) := (not_congr (i_le rfl rfl)).mp c130) | (have t135 : ¬ ((I v0 8).toInt ≤ v4.toInt) := (not_congr (i_le rfl rfl)).mp c130) | skip
      intro b136 eb136
      obtain rfl : uP = b136 := Option.some.inj (huP_1.symm.trans eb136)
      intro b137 eb137
      obtain rfl : uG = b137 := Option.some.inj (huG_1.symm.trans eb137)
      have o138 : vp_in v4 6 := vi_of rfl (by omega) (by omega)
      refine ⟨o138, ?_⟩
      have t139 : 0 ≤ (I uG v4.toNatClampNeg).toInt ∧ (I uG v4.toNatClampNeg).toInt ≤ 24 := w_I.arr 12 57 kv0 huG_1 kuG rfl rfl _
      intro b140 eb140
      obtain rfl : uM = b140 := Option.some.inj (huM_1.symm.trans eb140)
      have o141 : vp_in v4 6 := vi_of rfl (by omega) (by omega)
      refine ⟨o141, ?_⟩
      have t142 : 0 ≤ (I uM v4.toNatClampNeg).toInt ∧ (I uM v4.toNatClampNeg).toInt ≤ 24 := w_I.arr 12 56 kv0 huM_1 kuM rfl rfl _
      refine ⟨fun c143 => ?_, fun c143 => ?_⟩
      · skip
        first | (have t144 : (I uM v4.toNatClampNeg).toInt ≤ (I uG v4.toNatClampNeg).toInt := (i_le rfl rfl).mp c143) | (have t144 : (I uM v4.toNatClampNeg).toInt ≤ (I uG v4.toNatClampNeg).toInt := (i_le rfl rfl).mp c143) | skip
        unfold f_X12_runFeast_b188
        have o145 : vp_in v4 (jlen Z uP) := vi_of rfl (by omega) (by omega)
        refine ⟨o145, ?_⟩
        intro I146 eI146
        have t147 : (-2 : Int32).toInt = -2 := rfl
        have w_I146 : WD Z I146 := by rw [eI146]; exact WD_putA w_I 12 61 kv0 huP_1 kuP rfl rfl (by decide) trivial
        have ao_I146_uP : ∀ q, q ≠ v4.toNatClampNeg → I146 uP q = I uP q := fun q hq => by rw [eI146]; exact jpI_off hq
        first | (have u148 : (I146 uP (v4.toNatClampNeg)).toInt = (-2) := by (rw [eI146, show jpI I uP v4.toNatClampNeg (-2 : Int32) uP v4.toNatClampNeg = (-2 : Int32) from jpI_at] <;> exact (show (-2 : Int32).toInt = -2 from rfl))) | skip
        have f_I146 : FR [(12, 61)] Z I Z I146 := by rw [eI146]; exact FR_upA w_I.2.1 kv0 huP_1 kuP rfl rfl List.mem_cons_self
        have q_I146 : FR Ws_X12_runFeast Z0 I0 Z I146 := q_I.trans w0.1 w0.2.1 (f_I146.mono (by decide))
        have ao_I146_uO : I146 uO = I uO := f_I146.2.2.2 v0 12 55 uO kv0 huO_1 (by rw [kuO.2]; rfl) rfl (by decide)
        have ao_I146_uM : I146 uM = I uM := f_I146.2.2.2 v0 12 56 uM kv0 huM_1 (by rw [kuM.2]; rfl) rfl (by decide)
        have ao_I146_uG : I146 uG = I uG := f_I146.2.2.2 v0 12 57 uG kv0 huG_1 (by rw [kuG.2]; rfl) rfl (by decide)
        have ao_I146_uR : I146 uR = I uR := f_I146.2.2.2 v0 12 44 uR kv0 huR_1 (by rw [kuR.2]; rfl) rfl (by decide)
        have u149 : (I146 uG (v4.toNatClampNeg)).toInt = (I uG (v4.toNatClampNeg)).toInt := by rw [f_I146.2.2.2 v0 12 57 uG kv0 huG_1 (by rw [kuG.2]; rfl) rfl (by decide)]
        have u150 : (I146 uM (v4.toNatClampNeg)).toInt = (I uM (v4.toNatClampNeg)).toInt := by rw [f_I146.2.2.2 v0 12 56 uM kv0 huM_1 (by rw [kuM.2]; rfl) rfl (by decide)]
        have u151 : (I146 v0 0).toInt = (I v0 0).toInt := by rw [f_I146.2.2.1 v0 12 0 kv0 (by decide) (by decide)]
        have u152 : (I146 v0 8).toInt = (I v0 8).toInt := by rw [f_I146.2.2.1 v0 12 8 kv0 (by decide) (by decide)]
        first | (have sg9 : SGo (I146 uG) = SGo (I uG) := congrArg SGo ao_I146_uG) | skip
        intro x153 ex153
        have rx153 := i_rng x153
        first | (have tx153 : x153.toInt = v4.toInt + (1) := by (rw [ex153]; exact (i_add rfl (show (1 : Int32).toInt = 1 from rfl) (by omega) (by omega)))) | skip
        exact ih x153 Z I146 L w_I146 bd_Z q_I146 cp_Z   (by first | (rw [ao_I146_uO, ao_I146_uM, ao_I146_uG]; exact ⟨by omega, li1, PTn_step li2 nv4 (by omega) ao_I146_uP (by omega)⟩) | exact ⟨by omega, li1, fun i hi => absurd hi (by omega)⟩) (by omega) (by omega)
      · skip
        first | (have t154 : ¬ ((I uM v4.toNatClampNeg).toInt ≤ (I uG v4.toNatClampNeg).toInt) := (not_congr (i_le rfl rfl)).mp c143) | (have t154 : ¬ ((I uM v4.toNatClampNeg).toInt ≤ (I uG v4.toNatClampNeg).toInt) := (not_congr (i_le rfl rfl)).mp c143) | skip
        refine s9_X12_placeOf w_I v0 v4 kv0 uO huO_1 uG huG_1 (by omega) (fun r155 p156 => ?_)
        have rr155 := i_rng r155
        unfold f_X12_runFeast_b188
        have o157 : vp_in v4 (jlen Z uP) := vi_of rfl (by omega) (by omega)
        refine ⟨o157, ?_⟩
        intro I158 eI158
        have w_I158 : WD Z I158 := by rw [eI158]; exact WD_putA w_I 12 61 kv0 huP_1 kuP rfl rfl (by decide) trivial
        have ao_I158_uP : ∀ q, q ≠ v4.toNatClampNeg → I158 uP q = I uP q := fun q hq => by rw [eI158]; exact jpI_off hq
        first | (have u159 : (I158 uP (v4.toNatClampNeg)).toInt = r155.toInt := by (rw [eI158, show jpI I uP v4.toNatClampNeg r155 uP v4.toNatClampNeg = r155 from jpI_at] <;> exact rfl)) | skip
        have f_I158 : FR [(12, 61)] Z I Z I158 := by rw [eI158]; exact FR_upA w_I.2.1 kv0 huP_1 kuP rfl rfl List.mem_cons_self
        have q_I158 : FR Ws_X12_runFeast Z0 I0 Z I158 := q_I.trans w0.1 w0.2.1 (f_I158.mono (by decide))
        have ao_I158_uO : I158 uO = I uO := f_I158.2.2.2 v0 12 55 uO kv0 huO_1 (by rw [kuO.2]; rfl) rfl (by decide)
        have ao_I158_uM : I158 uM = I uM := f_I158.2.2.2 v0 12 56 uM kv0 huM_1 (by rw [kuM.2]; rfl) rfl (by decide)
        have ao_I158_uG : I158 uG = I uG := f_I158.2.2.2 v0 12 57 uG kv0 huG_1 (by rw [kuG.2]; rfl) rfl (by decide)
        have ao_I158_uR : I158 uR = I uR := f_I158.2.2.2 v0 12 44 uR kv0 huR_1 (by rw [kuR.2]; rfl) rfl (by decide)
        have u160 : (I158 uG (v4.toNatClampNeg)).toInt = (I uG (v4.toNatClampNeg)).toInt := by rw [f_I158.2.2.2 v0 12 57 uG kv0 huG_1 (by rw [kuG.2]; rfl) rfl (by decide)]
        have u161 : (I158 uM (v4.toNatClampNeg)).toInt = (I uM (v4.toNatClampNeg)).toInt := by rw [f_I158.2.2.2 v0 12 56 uM kv0 huM_1 (by rw [kuM.2]; rfl) rfl (by decide)]
        have u162 : (I158 v0 0).toInt = (I v0 0).toInt := by rw [f_I158.2.2.1 v0 12 0 kv0 (by decide) (by decide)]
        have u163 : (I158 v0 8).toInt = (I v0 8).toInt := by rw [f_I158.2.2.1 v0 12 8 kv0 (by decide) (by decide)]
        first | (have sg9 : SGo (I158 uG) = SGo (I uG) := congrArg SGo ao_I158_uG) | skip
        intro x164 ex164
        have rx164 := i_rng x164
        first | (have tx164 : x164.toInt = v4.toInt + (1) := by (rw [ex164]; exact (i_add rfl (show (1 : Int32).toInt = 1 from rfl) (by omega) (by omega)))) | skip
        exact ih x164 Z I158 L w_I158 bd_Z q_I158 cp_Z   (by first | (rw [ao_I158_uO, ao_I158_uM, ao_I158_uG]; exact ⟨by omega, li1, PTn_step li2 nv4 (by omega) ao_I158_uP (by omega)⟩) | exact ⟨by omega, li1, fun i hi => absurd hi (by omega)⟩) (by omega) (by omega)
set_option maxHeartbeats 4000000 in
set_option maxRecDepth 100000 in
theorem l_X12_runFeast_L138 {B : Nat × Nat} {T : Nat} {Z0 : jZ} {I0 : jI} {Q : Int32 → jZ → jI → jL → Prop} (w0 : WD Z0 I0) (v0 : Nat) (v1 : Int32) (kv0 : jk Z0 v0 12) (uO : Nat) (huO : jr Z0 v0 55 = some uO) (uM : Nat) (huM : jr Z0 v0 56 = some uM) (uG : Nat) (huG : jr Z0 v0 57 = some uG) (uP : Nat) (huP : jr Z0 v0 61 = some uP) (uR : Nat) (huR : jr Z0 v0 44 = some uR) (p0 : 1 ≤ (I0 v0 0).toInt) (p1 : 1 ≤ v1.toInt) (hQ : ∀ (r : Int32) (Z' : jZ) (I' : jI) (L' : jL), WD Z' I' → BUD B Z' T → FR Ws_X12_runFeast Z0 I0 Z' I' → CP Z0 Z' → Q r Z' I' L') : ∀ (n : Nat) (v2 : Int32) (v3 : Int32) (Z : jZ) (I : jI) (L : jL), WD Z I → BUD B Z T → FR Ws_X12_runFeast Z0 I0 Z I → CP Z0 Z →   ((0 ≤ v2.toInt ∧ v2.toInt ≤ 6 ∧ SGo (I uG) ≤ 144) ∧ BSt (I0 v0 0).toInt (I0 v0 8).toInt (I uO) (I uM) (I uG) v2.toInt) → 144 - SGo (I uG) < (n : Int) → f_X12_runFeast_L138 B  Q n v0 v1 v2 v3 Z I L := by
  intro n
  induction n with
  | zero =>
    intro v2 v3 Z I L w_I bd_Z q_I cp_Z   li  me
    exfalso
    omega
  | succ n ih =>
    intro v2 v3 Z I L w_I bd_Z q_I cp_Z   li  me
    unfold f_X12_runFeast_L138
    have rv2 := i_rng v2
    have rv3 := i_rng v3
    have rv1 := i_rng v1
    obtain ⟨li0, li1⟩ := li
    have kv0_0 := kv0
    have kv0 := (q_I.1 _ _ kv0).1
    have t165 : 0 ≤ (I v0 0).toInt ∧ (I v0 0).toInt ≤ 24 := w_I.fld 12 0 kv0 (by decide)
    have t166 : 0 ≤ (I v0 8).toInt ∧ (I v0 8).toInt ≤ 6 := w_I.fld 12 8 kv0 (by decide)
    have huO_1 : jr Z v0 55 = some uO := (q_I.2.1 v0 12 55 kv0_0 (by decide) (by decide)).trans huO
    have luO : jlen Z uO = 144 := by obtain ⟨b9, e9, -, l9⟩ := sh_f w_I.1 kv0 (j := 55) (k := 14) (m := 144) rfl; cases huO_1.symm.trans e9; exact l9
    have kuO : jk Z uO 14 := by obtain ⟨b9, e9, k9, -⟩ := sh_f w_I.1 kv0 (j := 55) (k := 14) (m := 144) rfl; cases huO_1.symm.trans e9; exact k9
    have huM_1 : jr Z v0 56 = some uM := (q_I.2.1 v0 12 56 kv0_0 (by decide) (by decide)).trans huM
    have luM : jlen Z uM = 6 := by obtain ⟨b9, e9, -, l9⟩ := sh_f w_I.1 kv0 (j := 56) (k := 14) (m := 6) rfl; cases huM_1.symm.trans e9; exact l9
    have kuM : jk Z uM 14 := by obtain ⟨b9, e9, k9, -⟩ := sh_f w_I.1 kv0 (j := 56) (k := 14) (m := 6) rfl; cases huM_1.symm.trans e9; exact k9
    have huG_1 : jr Z v0 57 = some uG := (q_I.2.1 v0 12 57 kv0_0 (by decide) (by decide)).trans huG
    have luG : jlen Z uG = 6 := by obtain ⟨b9, e9, -, l9⟩ := sh_f w_I.1 kv0 (j := 57) (k := 14) (m := 6) rfl; cases huG_1.symm.trans e9; exact l9
    have kuG : jk Z uG 14 := by obtain ⟨b9, e9, k9, -⟩ := sh_f w_I.1 kv0 (j := 57) (k := 14) (m := 6) rfl; cases huG_1.symm.trans e9; exact k9
    have huP_1 : jr Z v0 61 = some uP := (q_I.2.1 v0 12 61 kv0_0 (by decide) (by decide)).trans huP
    have luP : jlen Z uP = 6 := by obtain ⟨b9, e9, -, l9⟩ := sh_f w_I.1 kv0 (j := 61) (k := 14) (m := 6) rfl; cases huP_1.symm.trans e9; exact l9
    have kuP : jk Z uP 14 := by obtain ⟨b9, e9, k9, -⟩ := sh_f w_I.1 kv0 (j := 61) (k := 14) (m := 6) rfl; cases huP_1.symm.trans e9; exact k9
    have huR_1 : jr Z v0 44 = some uR := (q_I.2.1 v0 12 44 kv0_0 (by decide) (by decide)).trans huR
    have luR : jlen Z uR = 24 := by obtain ⟨b9, e9, -, l9⟩ := sh_f w_I.1 kv0 (j := 44) (k := 14) (m := 24) rfl; cases huR_1.symm.trans e9; exact l9
    have kuR : jk Z uR 14 := by obtain ⟨b9, e9, k9, -⟩ := sh_f w_I.1 kv0 (j := 44) (k := 14) (m := 24) rfl; cases huR_1.symm.trans e9; exact k9
    have xq_I := q_I.1
    have e0 : (I v0 0).toInt = (I0 v0 0).toInt := by rw [q_I.2.2.1 v0 12 0 kv0_0 (by decide) (by decide)]
    have e8 : (I v0 8).toInt = (I0 v0 8).toInt := by rw [q_I.2.2.1 v0 12 8 kv0_0 (by decide) (by decide)]
    have h80 : 0 ≤ (I0 v0 8).toInt ∧ (I0 v0 8).toInt ≤ 6 := w0.fld 12 8 kv0_0 (by decide)
    have h00 : 0 ≤ (I0 v0 0).toInt ∧ (I0 v0 0).toInt ≤ 24 := w0.fld 12 0 kv0_0 (by decide)
    have okO : ∀ q, 0 ≤ (I uO q).toInt := fun q => (show 0 ≤ (I uO q).toInt ∧ (I uO q).toInt ≤ 23 from w_I.arr 12 55 kv0 huO_1 kuO rfl rfl q).1
    have okGG : ∀ q, 0 ≤ (I uG q).toInt ∧ (I uG q).toInt ≤ 24 := fun q => w_I.arr 12 57 kv0 huG_1 kuG rfl rfl q
    have okMM : ∀ q, 0 ≤ (I uM q).toInt ∧ (I uM q).toInt ≤ 24 := fun q => w_I.arr 12 56 kv0 huM_1 kuM rfl rfl q
    have okG : ∀ q, 0 ≤ (I uG q).toInt := fun q => (okGG q).1
    refine ⟨fun c167 => ?_, fun c167 => ?_⟩
    · skip
      first | (have t168 : v2.toInt ≤ (0) := (i_le rfl (show (0 : Int32).toInt = 0 from rfl)).mp c167) | (have t168 : v2.toInt ≤ (0 : Int32).toInt := (i_le rfl rfl).mp c167) | skip
      exact hQ v3 Z I L w_I bd_Z q_I cp_Z 
    · skip
      first | (have t169 : ¬ (v2.toInt ≤ (0)) := (not_congr (i_le rfl (show (0 : Int32).toInt = 0 from rfl))).mp c167) | (have t169 : ¬ (v2.toInt ≤ (0 : Int32).toInt) := (not_congr (i_le rfl rfl)).mp c167) | skip
      have t170 : (0 : Int32).toInt = 0 := rfl
      exact ⟨(6 - (0 : Int32).toInt).toNat + 1, l_X12_runFeast_L145 w0 v0 v1 kv0_0 uO huO uM huM uG huG uP huP uR huR p0 p1 v2 v3  hQ ih  _ (0 : Int32) Z I L w_I bd_Z q_I cp_Z   (by first | (rw [rfl, rfl, rfl]; exact ⟨by omega, li1, PTn_step li2 nv4 (by omega) (fun _ _ => rfl) (by omega)⟩) | exact ⟨by omega, li1, fun i hi => absurd hi (by omega)⟩) (by omega) (by omega)⟩
set_option maxHeartbeats 4000000 in
set_option maxRecDepth 100000 in
theorem l_X12_runFeast_L77 {B : Nat × Nat} {T : Nat} {Z0 : jZ} {I0 : jI} {Q : Int32 → jZ → jI → jL → Prop} (w0 : WD Z0 I0) (v0 : Nat) (v1 : Int32) (kv0 : jk Z0 v0 12) (uO : Nat) (huO : jr Z0 v0 55 = some uO) (uM : Nat) (huM : jr Z0 v0 56 = some uM) (uG : Nat) (huG : jr Z0 v0 57 = some uG) (uP : Nat) (huP : jr Z0 v0 61 = some uP) (uR : Nat) (huR : jr Z0 v0 44 = some uR) (p0 : 1 ≤ (I0 v0 0).toInt) (p1 : 1 ≤ v1.toInt) (v2 : Int32) (v3 : Int32) (hQ : ∀ (r : Int32) (Z' : jZ) (I' : jI) (L' : jL), WD Z' I' → BUD B Z' T → FR Ws_X12_runFeast Z0 I0 Z' I' → CP Z0 Z' → Q r Z' I' L') {K30 : Nat → Int32 → Int32 → Int32 → jZ → jI → jL → Prop} {N30 : Int} (hK30 : ∀ (v2 : Int32) (v3 : Int32) (Z : jZ) (I : jI) (L : jL), WD Z I → BUD B Z T → FR Ws_X12_runFeast Z0 I0 Z I → CP Z0 Z →   ((0 ≤ v3.toInt ∧ v3.toInt ≤ 6 ∧ v3.toInt ≤ (I0 v0 8).toInt ∧ 0 ≤ v2.toInt ∧ v2.toInt ≤ v3.toInt) ∧ BS0 (I0 v0 0).toInt (I uO) (I uM) (I uG) v3.toInt v2.toInt) → 6 - v3.toInt < N30 → K30 v0 v1 v2 v3 Z I L) : ∀ (n : Nat) (v4 : Int32) (Z : jZ) (I : jI) (L : jL), WD Z I → BUD B Z T → FR Ws_X12_runFeast Z0 I0 Z I → CP Z0 Z →   ((0 ≤ v3.toInt ∧ v3.toInt ≤ 5 ∧ v3.toInt < (I0 v0 8).toInt ∧ 0 ≤ v2.toInt ∧ v2.toInt ≤ v3.toInt ∧ 0 ≤ v4.toInt ∧ v4.toInt ≤ 24 ∧ (I uG v3.toNatClampNeg).toInt = 0) ∧ BS0 (I0 v0 0).toInt (I uO) (I uM) (I uG) v3.toInt v2.toInt ∧ ((I uM v3.toNatClampNeg).toInt = 0 ∨ CRP (I uR) (I uM v3.toNatClampNeg).toInt ((I0 v0 0).toInt - 1)) ∧ (∀ k : Nat, (k : Int) < v4.toInt → I uO (24 * v3.toNatClampNeg + k) = I uR k)) → 6 - v3.toInt ≤ N30 → 24 - v4.toInt < (n : Int) → f_X12_runFeast_L77 B K30 Q n v0 v1 v2 v3 v4 Z I L := by
  intro n
  induction n with
  | zero =>
    intro v4 Z I L w_I bd_Z q_I cp_Z   li hm30 me
    exfalso
    omega
  | succ n ih =>
    intro v4 Z I L w_I bd_Z q_I cp_Z   li hm30 me
    unfold f_X12_runFeast_L77
    have rv4 := i_rng v4
    have rv2 := i_rng v2
    have rv3 := i_rng v3
    have rv1 := i_rng v1
    obtain ⟨li0, li1, li2, li3⟩ := li
    have kv0_0 := kv0
    have kv0 := (q_I.1 _ _ kv0).1
    have t171 : 0 ≤ (I v0 0).toInt ∧ (I v0 0).toInt ≤ 24 := w_I.fld 12 0 kv0 (by decide)
    have t172 : 0 ≤ (I v0 8).toInt ∧ (I v0 8).toInt ≤ 6 := w_I.fld 12 8 kv0 (by decide)
    have huO_1 : jr Z v0 55 = some uO := (q_I.2.1 v0 12 55 kv0_0 (by decide) (by decide)).trans huO
    have luO : jlen Z uO = 144 := by obtain ⟨b9, e9, -, l9⟩ := sh_f w_I.1 kv0 (j := 55) (k := 14) (m := 144) rfl; cases huO_1.symm.trans e9; exact l9
    have kuO : jk Z uO 14 := by obtain ⟨b9, e9, k9, -⟩ := sh_f w_I.1 kv0 (j := 55) (k := 14) (m := 144) rfl; cases huO_1.symm.trans e9; exact k9
    have huM_1 : jr Z v0 56 = some uM := (q_I.2.1 v0 12 56 kv0_0 (by decide) (by decide)).trans huM
    have luM : jlen Z uM = 6 := by obtain ⟨b9, e9, -, l9⟩ := sh_f w_I.1 kv0 (j := 56) (k := 14) (m := 6) rfl; cases huM_1.symm.trans e9; exact l9
    have kuM : jk Z uM 14 := by obtain ⟨b9, e9, k9, -⟩ := sh_f w_I.1 kv0 (j := 56) (k := 14) (m := 6) rfl; cases huM_1.symm.trans e9; exact k9
    have huG_1 : jr Z v0 57 = some uG := (q_I.2.1 v0 12 57 kv0_0 (by decide) (by decide)).trans huG
    have luG : jlen Z uG = 6 := by obtain ⟨b9, e9, -, l9⟩ := sh_f w_I.1 kv0 (j := 57) (k := 14) (m := 6) rfl; cases huG_1.symm.trans e9; exact l9
    have kuG : jk Z uG 14 := by obtain ⟨b9, e9, k9, -⟩ := sh_f w_I.1 kv0 (j := 57) (k := 14) (m := 6) rfl; cases huG_1.symm.trans e9; exact k9
    have huP_1 : jr Z v0 61 = some uP := (q_I.2.1 v0 12 61 kv0_0 (by decide) (by decide)).trans huP
    have luP : jlen Z uP = 6 := by obtain ⟨b9, e9, -, l9⟩ := sh_f w_I.1 kv0 (j := 61) (k := 14) (m := 6) rfl; cases huP_1.symm.trans e9; exact l9
    have kuP : jk Z uP 14 := by obtain ⟨b9, e9, k9, -⟩ := sh_f w_I.1 kv0 (j := 61) (k := 14) (m := 6) rfl; cases huP_1.symm.trans e9; exact k9
    have huR_1 : jr Z v0 44 = some uR := (q_I.2.1 v0 12 44 kv0_0 (by decide) (by decide)).trans huR
    have luR : jlen Z uR = 24 := by obtain ⟨b9, e9, -, l9⟩ := sh_f w_I.1 kv0 (j := 44) (k := 14) (m := 24) rfl; cases huR_1.symm.trans e9; exact l9
    have kuR : jk Z uR 14 := by obtain ⟨b9, e9, k9, -⟩ := sh_f w_I.1 kv0 (j := 44) (k := 14) (m := 24) rfl; cases huR_1.symm.trans e9; exact k9
    have xq_I := q_I.1
    have e0 : (I v0 0).toInt = (I0 v0 0).toInt := by rw [q_I.2.2.1 v0 12 0 kv0_0 (by decide) (by decide)]
    have e8 : (I v0 8).toInt = (I0 v0 8).toInt := by rw [q_I.2.2.1 v0 12 8 kv0_0 (by decide) (by decide)]
    have h80 : 0 ≤ (I0 v0 8).toInt ∧ (I0 v0 8).toInt ≤ 6 := w0.fld 12 8 kv0_0 (by decide)
    have h00 : 0 ≤ (I0 v0 0).toInt ∧ (I0 v0 0).toInt ≤ 24 := w0.fld 12 0 kv0_0 (by decide)
    have okO : ∀ q, 0 ≤ (I uO q).toInt := fun q => (show 0 ≤ (I uO q).toInt ∧ (I uO q).toInt ≤ 23 from w_I.arr 12 55 kv0 huO_1 kuO rfl rfl q).1
    have okGG : ∀ q, 0 ≤ (I uG q).toInt ∧ (I uG q).toInt ≤ 24 := fun q => w_I.arr 12 57 kv0 huG_1 kuG rfl rfl q
    have okMM : ∀ q, 0 ≤ (I uM q).toInt ∧ (I uM q).toInt ≤ 24 := fun q => w_I.arr 12 56 kv0 huM_1 kuM rfl rfl q
    have okG : ∀ q, 0 ≤ (I uG q).toInt := fun q => (okGG q).1
    have nv3 := i_nat (x := v3) rfl (by omega)
    have nv4 := i_nat (x := v4) rfl (by omega)
    intro b173 eb173
    obtain rfl : uM = b173 := Option.some.inj (huM_1.symm.trans eb173)
    have o174 : vp_in v3 6 := vi_of rfl (by omega) (by omega)
    refine ⟨o174, ?_⟩
    have t175 : 0 ≤ (I uM v3.toNatClampNeg).toInt ∧ (I uM v3.toNatClampNeg).toInt ≤ 24 := w_I.arr 12 56 kv0 huM_1 kuM rfl rfl _
    refine ⟨fun c176 => ?_, fun c176 => ?_⟩
    · skip
      first | (have t177 : (I uM v3.toNatClampNeg).toInt ≤ v4.toInt := (i_le rfl rfl).mp c176) | (have t177 : (I uM v3.toNatClampNeg).toInt ≤ v4.toInt := (i_le rfl rfl).mp c176) | skip
      intro b178 eb178
      obtain rfl : uM = b178 := Option.some.inj (huM_1.symm.trans eb178)
      have o179 : vp_in v3 6 := vi_of rfl (by omega) (by omega)
      refine ⟨o179, ?_⟩
      have t180 : 0 ≤ (I uM v3.toNatClampNeg).toInt ∧ (I uM v3.toNatClampNeg).toInt ≤ 24 := w_I.arr 12 56 kv0 huM_1 kuM rfl rfl _
      refine ⟨fun c181 => ?_, fun c181 => ?_⟩
      · skip
        first | (have t182 : (I uM v3.toNatClampNeg).toInt ≤ (0) := (i_le rfl (show (0 : Int32).toInt = 0 from rfl)).mp c181) | (have t182 : (I uM v3.toNatClampNeg).toInt ≤ (0 : Int32).toInt := (i_le rfl rfl).mp c181) | skip
        unfold f_X12_runFeast_b128
        intro x183 ex183
        have rx183 := i_rng x183
        first | (have tx183 : x183.toInt = (v2.toInt + (0)) := by (rw [ex183]; exact (i_add rfl (show (0 : Int32).toInt = 0 from rfl) (by omega) (by omega)))) | (have tx183 : x183.toInt = (v2 + (0 : Int32)).toInt := by rw [ex183])
        intro x184 ex184
        have rx184 := i_rng x184
        first | (have tx184 : x184.toInt = v3.toInt + (1) := by (rw [ex184]; exact (i_add rfl (show (1 : Int32).toInt = 1 from rfl) (by omega) (by omega)))) | skip
        exact hK30 x183 x184 Z I L w_I bd_Z q_I cp_Z   (by first | (exact ⟨by omega, ⟨by rw [show (0 : Int32).toInt = 0 from rfl]; rfl, fun p hp => absurd hp (by omega), fun p hp => absurd hp (by omega)⟩⟩) | (exact ⟨by omega, BS0_next (p := v3.toNatClampNeg) (R := I uR) li1 nv3 (by omega) (by omega) (okMM _) li2 (fun k hk => li3 k (by omega)) (by omega)⟩))  (by omega)
      · skip
        first | (have t185 : ¬ ((I uM v3.toNatClampNeg).toInt ≤ (0)) := (not_congr (i_le rfl (show (0 : Int32).toInt = 0 from rfl))).mp c181) | (have t185 : ¬ ((I uM v3.toNatClampNeg).toInt ≤ (0 : Int32).toInt) := (not_congr (i_le rfl rfl)).mp c181) | skip
        unfold f_X12_runFeast_b128
        intro x186 ex186
        have rx186 := i_rng x186
        first | (have tx186 : x186.toInt = (v2.toInt + (1)) := by (rw [ex186]; exact (i_add rfl (show (1 : Int32).toInt = 1 from rfl) (by omega) (by omega)))) | (have tx186 : x186.toInt = (v2 + (1 : Int32)).toInt := by rw [ex186])
        intro x187 ex187
        have rx187 := i_rng x187
        first | (have tx187 : x187.toInt = v3.toInt + (1) := by (rw [ex187]; exact (i_add rfl (show (1 : Int32).toInt = 1 from rfl) (by omega) (by omega)))) | skip
        exact hK30 x186 x187 Z I L w_I bd_Z q_I cp_Z   (by first | (exact ⟨by omega, ⟨by rw [show (0 : Int32).toInt = 0 from rfl]; rfl, fun p hp => absurd hp (by omega), fun p hp => absurd hp (by omega)⟩⟩) | (exact ⟨by omega, BS0_next (p := v3.toNatClampNeg) (R := I uR) li1 nv3 (by omega) (by omega) (okMM _) li2 (fun k hk => li3 k (by omega)) (by omega)⟩))  (by omega)
    · skip
      first | (have t188 : ¬ ((I uM v3.toNatClampNeg).toInt ≤ v4.toInt) := (not_congr (i_le rfl rfl)).mp c176) | (have t188 : ¬ ((I uM v3.toNatClampNeg).toInt ≤ v4.toInt) := (not_congr (i_le rfl rfl)).mp c176) | skip
      intro b189 eb189
      obtain rfl : uO = b189 := Option.some.inj (huO_1.symm.trans eb189)
      intro b190 eb190
      obtain rfl : uR = b190 := Option.some.inj (huR_1.symm.trans eb190)
      have o191 : vp_in v4 24 := vi_of rfl (by omega) (by omega)
      refine ⟨o191, ?_⟩
      have t192 : 0 ≤ (I uR v4.toNatClampNeg).toInt ∧ (I uR v4.toNatClampNeg).toInt ≤ 23 := w_I.arr 12 44 kv0 huR_1 kuR rfl rfl _
      have o193 : vp_in (((24 : Int32) * v3) + v4) 144 := vi_of (i_add (i_mul (show (24 : Int32).toInt = 24 from rfl) rfl (by omega) (by omega)) rfl (by omega) (by omega)) (by omega) (by omega)
      refine ⟨o193, ?_⟩
      intro I194 eI194
      have w_I194 : WD Z I194 := by rw [eI194]; exact WD_putA w_I 12 55 kv0 huO_1 kuO rfl rfl (by decide) (by constructor <;> omega)
      have ao_I194_uO : ∀ q, q ≠ (((24 : Int32) * v3) + v4).toNatClampNeg → I194 uO q = I uO q := fun q hq => by rw [eI194]; exact jpI_off hq
      have f_I194 : FR [(12, 55)] Z I Z I194 := by rw [eI194]; exact FR_upA w_I.2.1 kv0 huO_1 kuO rfl rfl List.mem_cons_self
      have q_I194 : FR Ws_X12_runFeast Z0 I0 Z I194 := q_I.trans w0.1 w0.2.1 (f_I194.mono (by decide))
      have ao_I194_uM : I194 uM = I uM := f_I194.2.2.2 v0 12 56 uM kv0 huM_1 (by rw [kuM.2]; rfl) rfl (by decide)
      have ao_I194_uG : I194 uG = I uG := f_I194.2.2.2 v0 12 57 uG kv0 huG_1 (by rw [kuG.2]; rfl) rfl (by decide)
      have ao_I194_uP : I194 uP = I uP := f_I194.2.2.2 v0 12 61 uP kv0 huP_1 (by rw [kuP.2]; rfl) rfl (by decide)
      have ao_I194_uR : I194 uR = I uR := f_I194.2.2.2 v0 12 44 uR kv0 huR_1 (by rw [kuR.2]; rfl) rfl (by decide)
      have u195 : (I194 uG (v3.toNatClampNeg)).toInt = (I uG (v3.toNatClampNeg)).toInt := by rw [f_I194.2.2.2 v0 12 57 uG kv0 huG_1 (by rw [kuG.2]; rfl) rfl (by decide)]
      have u196 : (I194 uM (v3.toNatClampNeg)).toInt = (I uM (v3.toNatClampNeg)).toInt := by rw [f_I194.2.2.2 v0 12 56 uM kv0 huM_1 (by rw [kuM.2]; rfl) rfl (by decide)]
      have u197 : (I194 v0 0).toInt = (I v0 0).toInt := by rw [f_I194.2.2.1 v0 12 0 kv0 (by decide) (by decide)]
      have u198 : (I194 v0 8).toInt = (I v0 8).toInt := by rw [f_I194.2.2.1 v0 12 8 kv0 (by decide) (by decide)]
      intro x199 ex199
      have rx199 := i_rng x199
      first | (have tx199 : x199.toInt = v4.toInt + (1) := by (rw [ex199]; exact (i_add rfl (show (1 : Int32).toInt = 1 from rfl) (by omega) (by omega)))) | skip
      exact ih x199 Z I194 L w_I194 bd_Z q_I194 cp_Z   (by first | (refine ⟨by omega, BS0_keep li1 (by omega) ao_I194_uO (fun q hq => (fun q _ => congrFun ao_I194_uM q) q (by omega)) (fun q hq => (fun q _ => congrFun ao_I194_uG q) q (by omega)) okMM, hcl9, fun k hk => absurd hk (by omega)⟩) | (have nx := i_nat (x := (((24 : Int32) * v3) + v4)) (i_add (i_mul (show (24 : Int32).toInt = 24 from rfl) rfl (by omega) (by omega)) rfl (by omega) (by omega)) (by omega); refine ⟨by omega, BS0_keep li1 (by omega) (fun q hq => ao_I194_uO q (by omega)) (fun q _ => congrFun ao_I194_uM q) (fun q _ => congrFun ao_I194_uG q) okMM, by rw [ao_I194_uM, ao_I194_uR]; exact li2, fun k hk => ?_⟩; rw [ao_I194_uR]; by_cases h : k = v4.toNatClampNeg; (rw [show 24 * v3.toNatClampNeg + k = (((24 : Int32) * v3) + v4).toNatClampNeg by omega, eI194, h]; exact jpI_at); (rw [ao_I194_uO _ (by omega)]; exact li3 k (by omega)))) (by omega) (by omega)
set_option maxHeartbeats 4000000 in
set_option maxRecDepth 100000 in
theorem l_X12_runFeast_L30 {B : Nat × Nat} {T : Nat} {Z0 : jZ} {I0 : jI} {Q : Int32 → jZ → jI → jL → Prop} (w0 : WD Z0 I0) (v0 : Nat) (v1 : Int32) (kv0 : jk Z0 v0 12) (uO : Nat) (huO : jr Z0 v0 55 = some uO) (uM : Nat) (huM : jr Z0 v0 56 = some uM) (uG : Nat) (huG : jr Z0 v0 57 = some uG) (uP : Nat) (huP : jr Z0 v0 61 = some uP) (uR : Nat) (huR : jr Z0 v0 44 = some uR) (p0 : 1 ≤ (I0 v0 0).toInt) (p1 : 1 ≤ v1.toInt) (hQ : ∀ (r : Int32) (Z' : jZ) (I' : jI) (L' : jL), WD Z' I' → BUD B Z' T → FR Ws_X12_runFeast Z0 I0 Z' I' → CP Z0 Z' → Q r Z' I' L') : ∀ (n : Nat) (v2 : Int32) (v3 : Int32) (Z : jZ) (I : jI) (L : jL), WD Z I → BUD B Z T → FR Ws_X12_runFeast Z0 I0 Z I → CP Z0 Z →   ((0 ≤ v3.toInt ∧ v3.toInt ≤ 6 ∧ v3.toInt ≤ (I0 v0 8).toInt ∧ 0 ≤ v2.toInt ∧ v2.toInt ≤ v3.toInt) ∧ BS0 (I0 v0 0).toInt (I uO) (I uM) (I uG) v3.toInt v2.toInt) → 6 - v3.toInt < (n : Int) → f_X12_runFeast_L30 B  Q n v0 v1 v2 v3 Z I L := by
  intro n
  induction n with
  | zero =>
    intro v2 v3 Z I L w_I bd_Z q_I cp_Z   li  me
    exfalso
    omega
  | succ n ih =>
    intro v2 v3 Z I L w_I bd_Z q_I cp_Z   li  me
    unfold f_X12_runFeast_L30
    have rv2 := i_rng v2
    have rv3 := i_rng v3
    have rv1 := i_rng v1
    obtain ⟨li0, li1⟩ := li
    have kv0_0 := kv0
    have kv0 := (q_I.1 _ _ kv0).1
    have t200 : 0 ≤ (I v0 0).toInt ∧ (I v0 0).toInt ≤ 24 := w_I.fld 12 0 kv0 (by decide)
    have t201 : 0 ≤ (I v0 8).toInt ∧ (I v0 8).toInt ≤ 6 := w_I.fld 12 8 kv0 (by decide)
    have huO_1 : jr Z v0 55 = some uO := (q_I.2.1 v0 12 55 kv0_0 (by decide) (by decide)).trans huO
    have luO : jlen Z uO = 144 := by obtain ⟨b9, e9, -, l9⟩ := sh_f w_I.1 kv0 (j := 55) (k := 14) (m := 144) rfl; cases huO_1.symm.trans e9; exact l9
    have kuO : jk Z uO 14 := by obtain ⟨b9, e9, k9, -⟩ := sh_f w_I.1 kv0 (j := 55) (k := 14) (m := 144) rfl; cases huO_1.symm.trans e9; exact k9
    have huM_1 : jr Z v0 56 = some uM := (q_I.2.1 v0 12 56 kv0_0 (by decide) (by decide)).trans huM
    have luM : jlen Z uM = 6 := by obtain ⟨b9, e9, -, l9⟩ := sh_f w_I.1 kv0 (j := 56) (k := 14) (m := 6) rfl; cases huM_1.symm.trans e9; exact l9
    have kuM : jk Z uM 14 := by obtain ⟨b9, e9, k9, -⟩ := sh_f w_I.1 kv0 (j := 56) (k := 14) (m := 6) rfl; cases huM_1.symm.trans e9; exact k9
    have huG_1 : jr Z v0 57 = some uG := (q_I.2.1 v0 12 57 kv0_0 (by decide) (by decide)).trans huG
    have luG : jlen Z uG = 6 := by obtain ⟨b9, e9, -, l9⟩ := sh_f w_I.1 kv0 (j := 57) (k := 14) (m := 6) rfl; cases huG_1.symm.trans e9; exact l9
    have kuG : jk Z uG 14 := by obtain ⟨b9, e9, k9, -⟩ := sh_f w_I.1 kv0 (j := 57) (k := 14) (m := 6) rfl; cases huG_1.symm.trans e9; exact k9
    have huP_1 : jr Z v0 61 = some uP := (q_I.2.1 v0 12 61 kv0_0 (by decide) (by decide)).trans huP
    have luP : jlen Z uP = 6 := by obtain ⟨b9, e9, -, l9⟩ := sh_f w_I.1 kv0 (j := 61) (k := 14) (m := 6) rfl; cases huP_1.symm.trans e9; exact l9
    have kuP : jk Z uP 14 := by obtain ⟨b9, e9, k9, -⟩ := sh_f w_I.1 kv0 (j := 61) (k := 14) (m := 6) rfl; cases huP_1.symm.trans e9; exact k9
    have huR_1 : jr Z v0 44 = some uR := (q_I.2.1 v0 12 44 kv0_0 (by decide) (by decide)).trans huR
    have luR : jlen Z uR = 24 := by obtain ⟨b9, e9, -, l9⟩ := sh_f w_I.1 kv0 (j := 44) (k := 14) (m := 24) rfl; cases huR_1.symm.trans e9; exact l9
    have kuR : jk Z uR 14 := by obtain ⟨b9, e9, k9, -⟩ := sh_f w_I.1 kv0 (j := 44) (k := 14) (m := 24) rfl; cases huR_1.symm.trans e9; exact k9
    have xq_I := q_I.1
    have e0 : (I v0 0).toInt = (I0 v0 0).toInt := by rw [q_I.2.2.1 v0 12 0 kv0_0 (by decide) (by decide)]
    have e8 : (I v0 8).toInt = (I0 v0 8).toInt := by rw [q_I.2.2.1 v0 12 8 kv0_0 (by decide) (by decide)]
    have h80 : 0 ≤ (I0 v0 8).toInt ∧ (I0 v0 8).toInt ≤ 6 := w0.fld 12 8 kv0_0 (by decide)
    have h00 : 0 ≤ (I0 v0 0).toInt ∧ (I0 v0 0).toInt ≤ 24 := w0.fld 12 0 kv0_0 (by decide)
    have okO : ∀ q, 0 ≤ (I uO q).toInt := fun q => (show 0 ≤ (I uO q).toInt ∧ (I uO q).toInt ≤ 23 from w_I.arr 12 55 kv0 huO_1 kuO rfl rfl q).1
    have okGG : ∀ q, 0 ≤ (I uG q).toInt ∧ (I uG q).toInt ≤ 24 := fun q => w_I.arr 12 57 kv0 huG_1 kuG rfl rfl q
    have okMM : ∀ q, 0 ≤ (I uM q).toInt ∧ (I uM q).toInt ≤ 24 := fun q => w_I.arr 12 56 kv0 huM_1 kuM rfl rfl q
    have okG : ∀ q, 0 ≤ (I uG q).toInt := fun q => (okGG q).1
    have nv3 := i_nat (x := v3) rfl (by omega)
    have t203 : 0 ≤ (I v0 8).toInt ∧ (I v0 8).toInt ≤ 6 := w_I.fld 12 8 kv0 (by decide)
    refine ⟨fun c204 => ?_, fun c204 => ?_⟩
    · skip
      first | (have t205 : (I v0 8).toInt ≤ v3.toInt := (i_le rfl rfl).mp c204) | (have t205 : (I v0 8).toInt ≤ v3.toInt := (i_le rfl rfl).mp c204) | skip
      have t206 : (0 : Int32).toInt = 0 := rfl
      exact ⟨(144 - SGo (I uG)).toNat + 1, l_X12_runFeast_L138 w0 v0 v1 kv0_0 uO huO uM huM uG huG uP huP uR huR p0 p1   hQ   _ v2 (0 : Int32) Z I L w_I bd_Z q_I cp_Z   (by first | exact ⟨by omega, li1⟩ | exact ⟨⟨by omega, by omega, SGo_le okGG⟩, BS0_out li1 (by omega) (fun q => (okMM q).1)⟩)  (by omega)⟩
    · skip
      first | (have t207 : ¬ ((I v0 8).toInt ≤ v3.toInt) := (not_congr (i_le rfl rfl)).mp c204) | (have t207 : ¬ ((I v0 8).toInt ≤ v3.toInt) := (not_congr (i_le rfl rfl)).mp c204) | skip
      intro b208 eb208
      obtain rfl : uG = b208 := Option.some.inj (huG_1.symm.trans eb208)
      have o209 : vp_in v3 6 := vi_of rfl (by omega) (by omega)
      refine ⟨o209, ?_⟩
      intro I210 eI210
      have t211 : (0 : Int32).toInt = 0 := rfl
      have w_I210 : WD Z I210 := by rw [eI210]; exact WD_putA w_I 12 57 kv0 huG_1 kuG rfl rfl (by decide) (by constructor <;> omega)
      have ao_I210_uG : ∀ q, q ≠ v3.toNatClampNeg → I210 uG q = I uG q := fun q hq => by rw [eI210]; exact jpI_off hq
      first | (have u212 : (I210 uG (v3.toNatClampNeg)).toInt = (0) := by (rw [eI210, show jpI I uG v3.toNatClampNeg (0 : Int32) uG v3.toNatClampNeg = (0 : Int32) from jpI_at] <;> exact (show (0 : Int32).toInt = 0 from rfl))) | skip
      have f_I210 : FR [(12, 57)] Z I Z I210 := by rw [eI210]; exact FR_upA w_I.2.1 kv0 huG_1 kuG rfl rfl List.mem_cons_self
      have q_I210 : FR Ws_X12_runFeast Z0 I0 Z I210 := q_I.trans w0.1 w0.2.1 (f_I210.mono (by decide))
      have ao_I210_uO : I210 uO = I uO := f_I210.2.2.2 v0 12 55 uO kv0 huO_1 (by rw [kuO.2]; rfl) rfl (by decide)
      have ao_I210_uM : I210 uM = I uM := f_I210.2.2.2 v0 12 56 uM kv0 huM_1 (by rw [kuM.2]; rfl) rfl (by decide)
      have ao_I210_uP : I210 uP = I uP := f_I210.2.2.2 v0 12 61 uP kv0 huP_1 (by rw [kuP.2]; rfl) rfl (by decide)
      have ao_I210_uR : I210 uR = I uR := f_I210.2.2.2 v0 12 44 uR kv0 huR_1 (by rw [kuR.2]; rfl) rfl (by decide)
      have u213 : (I210 v0 0).toInt = (I v0 0).toInt := by rw [f_I210.2.2.1 v0 12 0 kv0 (by decide) (by decide)]
      have u214 : (I210 v0 8).toInt = (I v0 8).toInt := by rw [f_I210.2.2.1 v0 12 8 kv0 (by decide) (by decide)]
      intro b215 eb215
      obtain ⟨x216, ex216, kb215, lb215⟩ := sh_f w_I210.1 kv0 (j := 58) (k := 14) (m := 6) rfl
      cases eb215.symm.trans ex216
      have o217 : vp_in v3 6 := vi_of rfl (by omega) (by omega)
      refine ⟨o217, ?_⟩
      intro I218 eI218
      have t219 : (0 : Int32).toInt = 0 := rfl
      have w_I218 : WD Z I218 := by rw [eI218]; exact WD_putA w_I210 12 58 kv0 eb215 kb215 rfl rfl (by decide) trivial
      have f_I218 : FR [(12, 58)] Z I210 Z I218 := by rw [eI218]; exact FR_upA w_I210.2.1 kv0 eb215 kb215 rfl rfl List.mem_cons_self
      have q_I218 : FR Ws_X12_runFeast Z0 I0 Z I218 := q_I210.trans w0.1 w0.2.1 (f_I218.mono (by decide))
      have ao_I218_uO : I218 uO = I uO := (f_I218.2.2.2 v0 12 55 uO kv0 huO_1 (by rw [kuO.2]; rfl) rfl (by decide)).trans ao_I210_uO
      have ao_I218_uM : I218 uM = I uM := (f_I218.2.2.2 v0 12 56 uM kv0 huM_1 (by rw [kuM.2]; rfl) rfl (by decide)).trans ao_I210_uM
      have ao_I218_uG : ∀ q, q ≠ v3.toNatClampNeg → I218 uG q = I uG q := fun q hq => by rw [f_I218.2.2.2 v0 12 57 uG kv0 huG_1 (by rw [kuG.2]; rfl) rfl (by decide)]; exact ao_I210_uG q hq
      have ao_I218_uP : I218 uP = I uP := (f_I218.2.2.2 v0 12 61 uP kv0 huP_1 (by rw [kuP.2]; rfl) rfl (by decide)).trans ao_I210_uP
      have ao_I218_uR : I218 uR = I uR := (f_I218.2.2.2 v0 12 44 uR kv0 huR_1 (by rw [kuR.2]; rfl) rfl (by decide)).trans ao_I210_uR
      have u220 : (I218 uG (v3.toNatClampNeg)).toInt = (I210 uG (v3.toNatClampNeg)).toInt := by rw [f_I218.2.2.2 v0 12 57 uG kv0 huG_1 (by rw [kuG.2]; rfl) rfl (by decide)]
      have u221 : (I218 v0 0).toInt = (I210 v0 0).toInt := by rw [f_I218.2.2.1 v0 12 0 kv0 (by decide) (by decide)]
      have u222 : (I218 v0 8).toInt = (I210 v0 8).toInt := by rw [f_I218.2.2.1 v0 12 8 kv0 (by decide) (by decide)]
      intro b223 eb223
      obtain rfl : uM = b223 := Option.some.inj (huM_1.symm.trans eb223)
      obtain ⟨b224, eb224, kb224, lb224⟩ := sh_f w_I218.1 kv0 (j := 37) (k := 14) (m := 75) rfl
      obtain ⟨b225, eb225, kb225, lb225⟩ := sh_f w_I218.1 kv0 (j := 38) (k := 14) (m := 75) rfl
      obtain ⟨b226, eb226, kb226, lb226⟩ := sh_f w_I218.1 kv0 (j := 40) (k := 14) (m := 25000) rfl
      obtain ⟨b227, eb227, kb227, lb227⟩ := sh_f w_I218.1 kv0 (j := 9) (k := 14) (m := 6) rfl
      refine s_X12_findClimb w_I218 bd_Z v0 v3 kv0 b224 eb224 b225 eb225 b226 eb226 b227 eb227 uR huR_1 (by omega) (by omega) (fun r228 Z232 I230 L231 w_I230 bd_Z232 f_I230 c_Z232 p229 => ?_)
      have q_I230 : FR Ws_X12_runFeast Z0 I0 Z232 I230 := q_I218.trans w0.1 w0.2.1 (f_I230.mono (by decide))
      have cp_Z232 : CP Z0 Z232 := cp_Z.trans q_I218.1 c_Z232
      have x_Z232 := f_I230.1
      have k233 := (f_I230.1 _ _ kv0).1
      have k234 := (f_I230.1 _ _ kuM).1
      have l235 := (f_I230.1 _ _ kuM).2.trans luM
      have k236 := (f_I230.1 _ _ kv0).1
      have e237 := (f_I230.2.1 v0 12 56 kv0 (by decide) (by decide)).trans huM_1
      have k238 := (f_I230.1 _ _ kuO).1
      have l239 := (f_I230.1 _ _ kuO).2.trans luO
      have k240 := (f_I230.1 _ _ kv0).1
      have e241 := (f_I230.2.1 v0 12 55 kv0 (by decide) (by decide)).trans huO_1
      have k242 := (f_I230.1 _ _ kuG).1
      have l243 := (f_I230.1 _ _ kuG).2.trans luG
      have k244 := (f_I230.1 _ _ kv0).1
      have e245 := (f_I230.2.1 v0 12 57 kv0 (by decide) (by decide)).trans huG_1
      have k246 := (f_I230.1 _ _ kuP).1
      have l247 := (f_I230.1 _ _ kuP).2.trans luP
      have k248 := (f_I230.1 _ _ kv0).1
      have e249 := (f_I230.2.1 v0 12 61 kv0 (by decide) (by decide)).trans huP_1
      have k250 := (f_I230.1 _ _ kuR).1
      have l251 := (f_I230.1 _ _ kuR).2.trans luR
      have k252 := (f_I230.1 _ _ kv0).1
      have e253 := (f_I230.2.1 v0 12 44 kv0 (by decide) (by decide)).trans huR_1
      have k254 := (f_I230.1 _ _ kb215).1
      have l255 := (f_I230.1 _ _ kb215).2.trans lb215
      have k256 := (f_I230.1 _ _ kv0).1
      have e257 := (f_I230.2.1 v0 12 58 kv0 (by decide) (by decide)).trans eb215
      have k258 := (f_I230.1 _ _ kb224).1
      have l259 := (f_I230.1 _ _ kb224).2.trans lb224
      have k260 := (f_I230.1 _ _ kv0).1
      have e261 := (f_I230.2.1 v0 12 37 kv0 (by decide) (by decide)).trans eb224
      have k262 := (f_I230.1 _ _ kb225).1
      have l263 := (f_I230.1 _ _ kb225).2.trans lb225
      have k264 := (f_I230.1 _ _ kv0).1
      have e265 := (f_I230.2.1 v0 12 38 kv0 (by decide) (by decide)).trans eb225
      have k266 := (f_I230.1 _ _ kb226).1
      have l267 := (f_I230.1 _ _ kb226).2.trans lb226
      have k268 := (f_I230.1 _ _ kv0).1
      have e269 := (f_I230.2.1 v0 12 40 kv0 (by decide) (by decide)).trans eb226
      have k270 := (f_I230.1 _ _ kb227).1
      have l271 := (f_I230.1 _ _ kb227).2.trans lb227
      have k272 := (f_I230.1 _ _ kv0).1
      have e273 := (f_I230.2.1 v0 12 9 kv0 (by decide) (by decide)).trans eb227
      have ao_I230_uO : I230 uO = I uO := (f_I230.2.2.2 v0 12 55 uO kv0 huO_1 (by rw [kuO.2]; rfl) rfl (by decide)).trans ao_I218_uO
      have ao_I230_uM : I230 uM = I uM := (f_I230.2.2.2 v0 12 56 uM kv0 huM_1 (by rw [kuM.2]; rfl) rfl (by decide)).trans ao_I218_uM
      have ao_I230_uG : ∀ q, q ≠ v3.toNatClampNeg → I230 uG q = I uG q := fun q hq => by rw [f_I230.2.2.2 v0 12 57 uG kv0 huG_1 (by rw [kuG.2]; rfl) rfl (by decide)]; exact ao_I218_uG q hq
      have ao_I230_uP : I230 uP = I uP := (f_I230.2.2.2 v0 12 61 uP kv0 huP_1 (by rw [kuP.2]; rfl) rfl (by decide)).trans ao_I218_uP
      have u274 : (I230 uG (v3.toNatClampNeg)).toInt = (I218 uG (v3.toNatClampNeg)).toInt := by rw [f_I230.2.2.2 v0 12 57 uG kv0 huG_1 (by rw [kuG.2]; rfl) rfl (by decide)]
      have u275 : (I230 v0 0).toInt = (I218 v0 0).toInt := by rw [f_I230.2.2.1 v0 12 0 kv0 (by decide) (by decide)]
      have u276 : (I230 v0 8).toInt = (I218 v0 8).toInt := by rw [f_I230.2.2.1 v0 12 8 kv0 (by decide) (by decide)]
      have rr228 := i_rng r228
      obtain ⟨cm, hcm, hcl⟩ : ∃ cm : Int, cm = (I230 v0 43).toInt ∧ (r228.toInt = 0 ∨ CRP (I230 uR) cm ((I0 v0 0).toInt - 1)) := by refine ⟨_, rfl, ?_⟩; rcases p229 with h | h; exact Or.inl h; right; rw [show (I0 v0 0).toInt = (I230 v0 0).toInt by omega]; exact h.2
      refine ⟨fun c277 => ?_, fun c277 => ?_⟩
      · skip
        first | (have t278 : r228.toInt = (0) := (i_eq rfl (show (0 : Int32).toInt = 0 from rfl)).mp c277) | (have t278 : r228.toInt = (0 : Int32).toInt := (i_eq rfl rfl).mp c277) | skip
        unfold f_X12_runFeast_b73
        have o279 : vp_in v3 (jlen Z232 uM) := vi_of rfl (by omega) (by omega)
        refine ⟨o279, ?_⟩
        intro I280 eI280
        have t281 : (0 : Int32).toInt = 0 := rfl
        have w_I280 : WD Z232 I280 := by rw [eI280]; exact WD_putA w_I230 12 56 k236 e237 k234 rfl rfl (by decide) (by constructor <;> omega)
        have ao_I280_uM : ∀ q, q ≠ v3.toNatClampNeg → I280 uM q = I uM q := fun q hq => by rw [eI280, jpI_off hq, ao_I230_uM]
        first | (have u282 : (I280 uM (v3.toNatClampNeg)).toInt = (0) := by (rw [eI280, show jpI I230 uM v3.toNatClampNeg (0 : Int32) uM v3.toNatClampNeg = (0 : Int32) from jpI_at] <;> exact (show (0 : Int32).toInt = 0 from rfl))) | skip
        have f_I280 : FR [(12, 56)] Z232 I230 Z232 I280 := by rw [eI280]; exact FR_upA w_I230.2.1 k236 e237 k234 rfl rfl List.mem_cons_self
        have q_I280 : FR Ws_X12_runFeast Z0 I0 Z232 I280 := q_I230.trans w0.1 w0.2.1 (f_I280.mono (by decide))
        have ao_I280_uO : I280 uO = I uO := (f_I280.2.2.2 v0 12 55 uO k240 e241 (by rw [k238.2]; rfl) rfl (by decide)).trans ao_I230_uO
        have ao_I280_uG : ∀ q, q ≠ v3.toNatClampNeg → I280 uG q = I uG q := fun q hq => by rw [f_I280.2.2.2 v0 12 57 uG k244 e245 (by rw [k242.2]; rfl) rfl (by decide)]; exact ao_I230_uG q hq
        have ao_I280_uP : I280 uP = I uP := (f_I280.2.2.2 v0 12 61 uP k248 e249 (by rw [k246.2]; rfl) rfl (by decide)).trans ao_I230_uP
        have u283 : (I280 uG (v3.toNatClampNeg)).toInt = (I230 uG (v3.toNatClampNeg)).toInt := by rw [f_I280.2.2.2 v0 12 57 uG k244 e245 (by rw [k242.2]; rfl) rfl (by decide)]
        have u284 : (I280 v0 0).toInt = (I230 v0 0).toInt := by rw [f_I280.2.2.1 v0 12 0 k233 (by decide) (by decide)]
        have u285 : (I280 v0 8).toInt = (I230 v0 8).toInt := by rw [f_I280.2.2.1 v0 12 8 k233 (by decide) (by decide)]
        have hcl9 : (I280 uM v3.toNatClampNeg).toInt = 0 ∨ CRP (I280 uR) (I280 uM v3.toNatClampNeg).toInt ((I0 v0 0).toInt - 1) := by first | exact Or.inl (by omega) | (rcases hcl with h | h; (exfalso; omega); right; rw [f_I280.2.2.2 v0 12 44 uR k252 e253 (by rw [k250.2]; rfl) rfl (by decide), show (I280 uM v3.toNatClampNeg).toInt = cm by omega]; exact h)
        have t286 : (0 : Int32).toInt = 0 := rfl
        exact ⟨(24 - (0 : Int32).toInt).toNat + 1, l_X12_runFeast_L77 w0 v0 v1 kv0_0 uO huO uM huM uG huG uP huP uR huR p0 p1 v2 v3  hQ ih  _ (0 : Int32) Z232 I280 L231 w_I280 bd_Z232 q_I280 cp_Z232   (by first | (refine ⟨by omega, BS0_keep li1 (by omega) (fun q _ => congrFun ao_I280_uO q) (fun q hq => ao_I280_uM q (by omega)) (fun q hq => ao_I280_uG q (by omega)) okMM, hcl9, fun k hk => absurd hk (by omega)⟩) | (have nx := i_nat (x := 0) rfl (by omega); refine ⟨by omega, BS0_keep li1 (by omega) (fun q hq => (fun q _ => congrFun ao_I280_uO q) q (by omega)) (fun q _ => congrFun rfl q) (fun q _ => congrFun rfl q) okMM, by rw [rfl, rfl]; exact li2, fun k hk => ?_⟩; rw [rfl]; by_cases h : k = v4.toNatClampNeg; (rw [show 24 * v3.toNatClampNeg + k = 0 by omega, eI280, h]; exact jpI_at); (rw [(fun q _ => congrFun ao_I280_uO q) _ (by omega)]; exact li3 k (by omega)))) (by omega) (by omega)⟩
      · skip
        first | (have t287 : ¬ (r228.toInt = (0)) := (not_congr (i_eq rfl (show (0 : Int32).toInt = 0 from rfl))).mp c277) | (have t287 : ¬ (r228.toInt = (0 : Int32).toInt) := (not_congr (i_eq rfl rfl)).mp c277) | skip
        have t289 : 0 ≤ (I230 v0 43).toInt ∧ (I230 v0 43).toInt ≤ 24 := w_I230.fld 12 43 k233 (by decide)
        unfold f_X12_runFeast_b73
        have o290 : vp_in v3 (jlen Z232 uM) := vi_of rfl (by omega) (by omega)
        refine ⟨o290, ?_⟩
        intro I291 eI291
        have w_I291 : WD Z232 I291 := by rw [eI291]; exact WD_putA w_I230 12 56 k236 e237 k234 rfl rfl (by decide) (by constructor <;> omega)
        have ao_I291_uM : ∀ q, q ≠ v3.toNatClampNeg → I291 uM q = I uM q := fun q hq => by rw [eI291, jpI_off hq, ao_I230_uM]
        first | (have u292 : (I291 uM (v3.toNatClampNeg)).toInt = (I230 v0 43).toInt := by (rw [eI291, show jpI I230 uM v3.toNatClampNeg (I230 v0 43) uM v3.toNatClampNeg = (I230 v0 43) from jpI_at] <;> exact rfl)) | skip
        have f_I291 : FR [(12, 56)] Z232 I230 Z232 I291 := by rw [eI291]; exact FR_upA w_I230.2.1 k236 e237 k234 rfl rfl List.mem_cons_self
        have q_I291 : FR Ws_X12_runFeast Z0 I0 Z232 I291 := q_I230.trans w0.1 w0.2.1 (f_I291.mono (by decide))
        have ao_I291_uO : I291 uO = I uO := (f_I291.2.2.2 v0 12 55 uO k240 e241 (by rw [k238.2]; rfl) rfl (by decide)).trans ao_I230_uO
        have ao_I291_uG : ∀ q, q ≠ v3.toNatClampNeg → I291 uG q = I uG q := fun q hq => by rw [f_I291.2.2.2 v0 12 57 uG k244 e245 (by rw [k242.2]; rfl) rfl (by decide)]; exact ao_I230_uG q hq
        have ao_I291_uP : I291 uP = I uP := (f_I291.2.2.2 v0 12 61 uP k248 e249 (by rw [k246.2]; rfl) rfl (by decide)).trans ao_I230_uP
        have u293 : (I291 uG (v3.toNatClampNeg)).toInt = (I230 uG (v3.toNatClampNeg)).toInt := by rw [f_I291.2.2.2 v0 12 57 uG k244 e245 (by rw [k242.2]; rfl) rfl (by decide)]
        have u294 : (I291 v0 0).toInt = (I230 v0 0).toInt := by rw [f_I291.2.2.1 v0 12 0 k233 (by decide) (by decide)]
        have u295 : (I291 v0 8).toInt = (I230 v0 8).toInt := by rw [f_I291.2.2.1 v0 12 8 k233 (by decide) (by decide)]
        have u296 : (I291 v0 43).toInt = (I230 v0 43).toInt := by rw [f_I291.2.2.1 v0 12 43 k233 (by decide) (by decide)]
        have hcl9 : (I291 uM v3.toNatClampNeg).toInt = 0 ∨ CRP (I291 uR) (I291 uM v3.toNatClampNeg).toInt ((I0 v0 0).toInt - 1) := by first | exact Or.inl (by omega) | (rcases hcl with h | h; (exfalso; omega); right; rw [f_I291.2.2.2 v0 12 44 uR k252 e253 (by rw [k250.2]; rfl) rfl (by decide), show (I291 uM v3.toNatClampNeg).toInt = cm by omega]; exact h)
        have t297 : (0 : Int32).toInt = 0 := rfl
        exact ⟨(24 - (0 : Int32).toInt).toNat + 1, l_X12_runFeast_L77 w0 v0 v1 kv0_0 uO huO uM huM uG huG uP huP uR huR p0 p1 v2 v3  hQ ih  _ (0 : Int32) Z232 I291 L231 w_I291 bd_Z232 q_I291 cp_Z232   (by first | (refine ⟨by omega, BS0_keep li1 (by omega) (fun q _ => congrFun ao_I291_uO q) (fun q hq => ao_I291_uM q (by omega)) (fun q hq => ao_I291_uG q (by omega)) okMM, hcl9, fun k hk => absurd hk (by omega)⟩) | (have nx := i_nat (x := 0) rfl (by omega); refine ⟨by omega, BS0_keep li1 (by omega) (fun q hq => (fun q _ => congrFun ao_I291_uO q) q (by omega)) (fun q _ => congrFun rfl q) (fun q _ => congrFun rfl q) okMM, by rw [rfl, rfl]; exact li2, fun k hk => ?_⟩; rw [rfl]; by_cases h : k = v4.toNatClampNeg; (rw [show 24 * v3.toNatClampNeg + k = 0 by omega, eI291, h]; exact jpI_at); (rw [(fun q _ => congrFun ao_I291_uO q) _ (by omega)]; exact li3 k (by omega)))) (by omega) (by omega)⟩
set_option maxHeartbeats 4000000 in
set_option maxRecDepth 100000 in
theorem l_X12_runFeast_L2 {B : Nat × Nat} {T : Nat} {Z0 : jZ} {I0 : jI} {Q : Int32 → jZ → jI → jL → Prop} (w0 : WD Z0 I0) (v0 : Nat) (v1 : Int32) (kv0 : jk Z0 v0 12) (uO : Nat) (huO : jr Z0 v0 55 = some uO) (uM : Nat) (huM : jr Z0 v0 56 = some uM) (uG : Nat) (huG : jr Z0 v0 57 = some uG) (uP : Nat) (huP : jr Z0 v0 61 = some uP) (uR : Nat) (huR : jr Z0 v0 44 = some uR) (p0 : 1 ≤ (I0 v0 0).toInt) (p1 : 1 ≤ v1.toInt) (hQ : ∀ (r : Int32) (Z' : jZ) (I' : jI) (L' : jL), WD Z' I' → BUD B Z' T → FR Ws_X12_runFeast Z0 I0 Z' I' → CP Z0 Z' → Q r Z' I' L') : ∀ (n : Nat) (v2 : Int32) (Z : jZ) (I : jI) (L : jL), WD Z I → BUD B Z T → FR Ws_X12_runFeast Z0 I0 Z I → CP Z0 Z →   (0 ≤ v2.toInt ∧ v2.toInt ≤ 24) → 24 - v2.toInt < (n : Int) → f_X12_runFeast_L2 B  Q n v0 v1 v2 Z I L := by
  intro n
  induction n with
  | zero =>
    intro v2 Z I L w_I bd_Z q_I cp_Z   li  me
    exfalso
    omega
  | succ n ih =>
    intro v2 Z I L w_I bd_Z q_I cp_Z   li  me
    unfold f_X12_runFeast_L2
    have rv2 := i_rng v2
    have rv1 := i_rng v1
    have kv0_0 := kv0
    have kv0 := (q_I.1 _ _ kv0).1
    have t298 : 0 ≤ (I v0 0).toInt ∧ (I v0 0).toInt ≤ 24 := w_I.fld 12 0 kv0 (by decide)
    have t299 : 0 ≤ (I v0 8).toInt ∧ (I v0 8).toInt ≤ 6 := w_I.fld 12 8 kv0 (by decide)
    have huO_1 : jr Z v0 55 = some uO := (q_I.2.1 v0 12 55 kv0_0 (by decide) (by decide)).trans huO
    have luO : jlen Z uO = 144 := by obtain ⟨b9, e9, -, l9⟩ := sh_f w_I.1 kv0 (j := 55) (k := 14) (m := 144) rfl; cases huO_1.symm.trans e9; exact l9
    have kuO : jk Z uO 14 := by obtain ⟨b9, e9, k9, -⟩ := sh_f w_I.1 kv0 (j := 55) (k := 14) (m := 144) rfl; cases huO_1.symm.trans e9; exact k9
    have huM_1 : jr Z v0 56 = some uM := (q_I.2.1 v0 12 56 kv0_0 (by decide) (by decide)).trans huM
    have luM : jlen Z uM = 6 := by obtain ⟨b9, e9, -, l9⟩ := sh_f w_I.1 kv0 (j := 56) (k := 14) (m := 6) rfl; cases huM_1.symm.trans e9; exact l9
    have kuM : jk Z uM 14 := by obtain ⟨b9, e9, k9, -⟩ := sh_f w_I.1 kv0 (j := 56) (k := 14) (m := 6) rfl; cases huM_1.symm.trans e9; exact k9
    have huG_1 : jr Z v0 57 = some uG := (q_I.2.1 v0 12 57 kv0_0 (by decide) (by decide)).trans huG
    have luG : jlen Z uG = 6 := by obtain ⟨b9, e9, -, l9⟩ := sh_f w_I.1 kv0 (j := 57) (k := 14) (m := 6) rfl; cases huG_1.symm.trans e9; exact l9
    have kuG : jk Z uG 14 := by obtain ⟨b9, e9, k9, -⟩ := sh_f w_I.1 kv0 (j := 57) (k := 14) (m := 6) rfl; cases huG_1.symm.trans e9; exact k9
    have huP_1 : jr Z v0 61 = some uP := (q_I.2.1 v0 12 61 kv0_0 (by decide) (by decide)).trans huP
    have luP : jlen Z uP = 6 := by obtain ⟨b9, e9, -, l9⟩ := sh_f w_I.1 kv0 (j := 61) (k := 14) (m := 6) rfl; cases huP_1.symm.trans e9; exact l9
    have kuP : jk Z uP 14 := by obtain ⟨b9, e9, k9, -⟩ := sh_f w_I.1 kv0 (j := 61) (k := 14) (m := 6) rfl; cases huP_1.symm.trans e9; exact k9
    have huR_1 : jr Z v0 44 = some uR := (q_I.2.1 v0 12 44 kv0_0 (by decide) (by decide)).trans huR
    have luR : jlen Z uR = 24 := by obtain ⟨b9, e9, -, l9⟩ := sh_f w_I.1 kv0 (j := 44) (k := 14) (m := 24) rfl; cases huR_1.symm.trans e9; exact l9
    have kuR : jk Z uR 14 := by obtain ⟨b9, e9, k9, -⟩ := sh_f w_I.1 kv0 (j := 44) (k := 14) (m := 24) rfl; cases huR_1.symm.trans e9; exact k9
    have xq_I := q_I.1
    have e0 : (I v0 0).toInt = (I0 v0 0).toInt := by rw [q_I.2.2.1 v0 12 0 kv0_0 (by decide) (by decide)]
    have e8 : (I v0 8).toInt = (I0 v0 8).toInt := by rw [q_I.2.2.1 v0 12 8 kv0_0 (by decide) (by decide)]
    have h80 : 0 ≤ (I0 v0 8).toInt ∧ (I0 v0 8).toInt ≤ 6 := w0.fld 12 8 kv0_0 (by decide)
    have h00 : 0 ≤ (I0 v0 0).toInt ∧ (I0 v0 0).toInt ≤ 24 := w0.fld 12 0 kv0_0 (by decide)
    refine ⟨fun c300 => ?_, fun c300 => ?_⟩
    · skip
      first | (have t301 : (24) ≤ v2.toInt := (i_le (show (24 : Int32).toInt = 24 from rfl) rfl).mp c300) | (have t301 : (24 : Int32).toInt ≤ v2.toInt := (i_le rfl rfl).mp c300) | skip
      intro I302 eI302
      have t303 : (0 : Int32).toInt = 0 := rfl
      have w_I302 : WD Z I302 := by rw [eI302]; exact WD_putF w_I 12 60 kv0 (by decide) (by decide) trivial
      have f_I302 : FR [(12, 60)] Z I Z I302 := by rw [eI302]; exact FR_putF kv0 (by decide) List.mem_cons_self
      have q_I302 : FR Ws_X12_runFeast Z0 I0 Z I302 := q_I.trans w0.1 w0.2.1 (f_I302.mono (by decide))
      have ao_I302_uO : I302 uO = I uO := f_I302.2.2.2 v0 12 55 uO kv0 huO_1 (by rw [kuO.2]; rfl) rfl (by decide)
      have ao_I302_uM : I302 uM = I uM := f_I302.2.2.2 v0 12 56 uM kv0 huM_1 (by rw [kuM.2]; rfl) rfl (by decide)
      have ao_I302_uG : I302 uG = I uG := f_I302.2.2.2 v0 12 57 uG kv0 huG_1 (by rw [kuG.2]; rfl) rfl (by decide)
      have ao_I302_uP : I302 uP = I uP := f_I302.2.2.2 v0 12 61 uP kv0 huP_1 (by rw [kuP.2]; rfl) rfl (by decide)
      have ao_I302_uR : I302 uR = I uR := f_I302.2.2.2 v0 12 44 uR kv0 huR_1 (by rw [kuR.2]; rfl) rfl (by decide)
      have u304 : (I302 v0 0).toInt = (I v0 0).toInt := by rw [f_I302.2.2.1 v0 12 0 kv0 (by decide) (by decide)]
      have u305 : (I302 v0 8).toInt = (I v0 8).toInt := by rw [f_I302.2.2.1 v0 12 8 kv0 (by decide) (by decide)]
      first | (have u306 : (I302 v0 60).toInt = (0) := by (rw [eI302, show jpI I v0 60 (0 : Int32) v0 60 = (0 : Int32) from jpI_at] <;> exact (show (0 : Int32).toInt = 0 from rfl))) | skip
      have t307 : (0 : Int32).toInt = 0 := rfl
      have t308 : (0 : Int32).toInt = 0 := rfl
      exact ⟨(6 - (0 : Int32).toInt).toNat + 1, l_X12_runFeast_L30 w0 v0 v1 kv0_0 uO huO uM huM uG huG uP huP uR huR p0 p1   hQ   _ (0 : Int32) (0 : Int32) Z I302 L w_I302 bd_Z q_I302 cp_Z   (by first | (exact ⟨by omega, ⟨by rw [show (0 : Int32).toInt = 0 from rfl]; rfl, fun p hp => absurd hp (by omega), fun p hp => absurd hp (by omega)⟩⟩) | (exact ⟨by omega, BS0_next (p := v3.toNatClampNeg) (R := I uR) li1 nv3 (by omega) (by omega) (okMM _) li2 (fun k hk => li3 k (by omega)) (by omega)⟩))  (by omega)⟩
    · skip
      first | (have t309 : ¬ ((24) ≤ v2.toInt) := (not_congr (i_le (show (24 : Int32).toInt = 24 from rfl) rfl)).mp c300) | (have t309 : ¬ ((24 : Int32).toInt ≤ v2.toInt) := (not_congr (i_le rfl rfl)).mp c300) | skip
      intro b310 eb310
      obtain ⟨x311, ex311, kb310, lb310⟩ := sh_f w_I.1 kv0 (j := 59) (k := 14) (m := 24) rfl
      cases eb310.symm.trans ex311
      have o312 : vp_in v2 24 := vi_of rfl (by omega) (by omega)
      refine ⟨o312, ?_⟩
      intro I313 eI313
      have t314 : (0 : Int32).toInt = 0 := rfl
      have w_I313 : WD Z I313 := by rw [eI313]; exact WD_putA w_I 12 59 kv0 eb310 kb310 rfl rfl (by decide) trivial
      have f_I313 : FR [(12, 59)] Z I Z I313 := by rw [eI313]; exact FR_upA w_I.2.1 kv0 eb310 kb310 rfl rfl List.mem_cons_self
      have q_I313 : FR Ws_X12_runFeast Z0 I0 Z I313 := q_I.trans w0.1 w0.2.1 (f_I313.mono (by decide))
      have ao_I313_uO : I313 uO = I uO := f_I313.2.2.2 v0 12 55 uO kv0 huO_1 (by rw [kuO.2]; rfl) rfl (by decide)
      have ao_I313_uM : I313 uM = I uM := f_I313.2.2.2 v0 12 56 uM kv0 huM_1 (by rw [kuM.2]; rfl) rfl (by decide)
      have ao_I313_uG : I313 uG = I uG := f_I313.2.2.2 v0 12 57 uG kv0 huG_1 (by rw [kuG.2]; rfl) rfl (by decide)
      have ao_I313_uP : I313 uP = I uP := f_I313.2.2.2 v0 12 61 uP kv0 huP_1 (by rw [kuP.2]; rfl) rfl (by decide)
      have ao_I313_uR : I313 uR = I uR := f_I313.2.2.2 v0 12 44 uR kv0 huR_1 (by rw [kuR.2]; rfl) rfl (by decide)
      have u315 : (I313 v0 0).toInt = (I v0 0).toInt := by rw [f_I313.2.2.1 v0 12 0 kv0 (by decide) (by decide)]
      have u316 : (I313 v0 8).toInt = (I v0 8).toInt := by rw [f_I313.2.2.1 v0 12 8 kv0 (by decide) (by decide)]
      intro x317 ex317
      have rx317 := i_rng x317
      first | (have tx317 : x317.toInt = v2.toInt + (1) := by (rw [ex317]; exact (i_add rfl (show (1 : Int32).toInt = 1 from rfl) (by omega) (by omega)))) | skip
      exact ih x317 Z I313 L w_I313 bd_Z q_I313 cp_Z   (by omega)  (by omega)
set_option maxHeartbeats 4000000 in
set_option maxRecDepth 100000 in
theorem s_X12_runFeast {B : Nat × Nat} {T : Nat} {Z : jZ} {I : jI} {L : jL} (w_I : WD Z I) (bd_Z : BUD B Z T) (v0 : Nat) (v1 : Int32) (kv0 : jk Z v0 12) (uO : Nat) (huO : jr Z v0 55 = some uO) (uM : Nat) (huM : jr Z v0 56 = some uM) (uG : Nat) (huG : jr Z v0 57 = some uG) (uP : Nat) (huP : jr Z v0 61 = some uP) (uR : Nat) (huR : jr Z v0 44 = some uR) (p0 : 1 ≤ (I v0 0).toInt) (p1 : 1 ≤ v1.toInt) {Q : Int32 → jZ → jI → jL → Prop} (hQ : ∀ (r : Int32) (Z' : jZ) (I' : jI) (L' : jL), WD Z' I' → BUD B Z' T → FR Ws_X12_runFeast Z I Z' I' → CP Z Z' → Q r Z' I' L') : f_X12_runFeast B v0 v1 Z I L Q := by
  unfold f_X12_runFeast
  have q_I : FR Ws_X12_runFeast Z I Z I := FR.rf
  have cp_Z : CP Z Z := CP.rf
  have rv1 := i_rng v1
  have t318 : 0 ≤ (I v0 0).toInt ∧ (I v0 0).toInt ≤ 24 := w_I.fld 12 0 kv0 (by decide)
  have t319 : 0 ≤ (I v0 8).toInt ∧ (I v0 8).toInt ≤ 6 := w_I.fld 12 8 kv0 (by decide)
  have luO : jlen Z uO = 144 := by obtain ⟨b9, e9, -, l9⟩ := sh_f w_I.1 kv0 (j := 55) (k := 14) (m := 144) rfl; cases huO.symm.trans e9; exact l9
  have kuO : jk Z uO 14 := by obtain ⟨b9, e9, k9, -⟩ := sh_f w_I.1 kv0 (j := 55) (k := 14) (m := 144) rfl; cases huO.symm.trans e9; exact k9
  have luM : jlen Z uM = 6 := by obtain ⟨b9, e9, -, l9⟩ := sh_f w_I.1 kv0 (j := 56) (k := 14) (m := 6) rfl; cases huM.symm.trans e9; exact l9
  have kuM : jk Z uM 14 := by obtain ⟨b9, e9, k9, -⟩ := sh_f w_I.1 kv0 (j := 56) (k := 14) (m := 6) rfl; cases huM.symm.trans e9; exact k9
  have luG : jlen Z uG = 6 := by obtain ⟨b9, e9, -, l9⟩ := sh_f w_I.1 kv0 (j := 57) (k := 14) (m := 6) rfl; cases huG.symm.trans e9; exact l9
  have kuG : jk Z uG 14 := by obtain ⟨b9, e9, k9, -⟩ := sh_f w_I.1 kv0 (j := 57) (k := 14) (m := 6) rfl; cases huG.symm.trans e9; exact k9
  have luP : jlen Z uP = 6 := by obtain ⟨b9, e9, -, l9⟩ := sh_f w_I.1 kv0 (j := 61) (k := 14) (m := 6) rfl; cases huP.symm.trans e9; exact l9
  have kuP : jk Z uP 14 := by obtain ⟨b9, e9, k9, -⟩ := sh_f w_I.1 kv0 (j := 61) (k := 14) (m := 6) rfl; cases huP.symm.trans e9; exact k9
  have luR : jlen Z uR = 24 := by obtain ⟨b9, e9, -, l9⟩ := sh_f w_I.1 kv0 (j := 44) (k := 14) (m := 24) rfl; cases huR.symm.trans e9; exact l9
  have kuR : jk Z uR 14 := by obtain ⟨b9, e9, k9, -⟩ := sh_f w_I.1 kv0 (j := 44) (k := 14) (m := 24) rfl; cases huR.symm.trans e9; exact k9
  have t320 : (0 : Int32).toInt = 0 := rfl
  exact ⟨(24 - (0 : Int32).toInt).toNat + 1, l_X12_runFeast_L2 w_I v0 v1 kv0 uO huO uM huM uG huG uP huP uR huR p0 p1   hQ   _ (0 : Int32) Z I L w_I bd_Z q_I cp_Z   (by omega)  (by omega)⟩
