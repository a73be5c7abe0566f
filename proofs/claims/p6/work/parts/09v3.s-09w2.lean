section
def Ws_X12_runFeast : List (Nat × Nat) := [(12, 24), (12, 25), (12, 26), (12, 27), (12, 31), (12, 32), (12, 33), (12, 34), (12, 37), (12, 38), (12, 40), (12, 41), (12, 42), (12, 43), (12, 44), (12, 55), (12, 56), (12, 57), (12, 58), (12, 59), (12, 60), (12, 61)]
set_option maxHeartbeats 4000000 in
set_option maxRecDepth 100000 in
theorem l_X12_runFeast_L353 {B : Nat × Nat} {T : Nat} {Z0 : jZ} {I0 : jI} {Q : Int32 → jZ → jI → jL → Prop} (w0 : WD Z0 I0) (v0 : Nat) (v1 : Int32) (kv0 : jk Z0 v0 12) (uO : Nat) (huO : jr Z0 v0 55 = some uO) (uM : Nat) (huM : jr Z0 v0 56 = some uM) (uG : Nat) (huG : jr Z0 v0 57 = some uG) (uP : Nat) (huP : jr Z0 v0 61 = some uP) (uR : Nat) (huR : jr Z0 v0 44 = some uR) (p0 : 1 ≤ (I0 v0 0).toInt) (p1 : 1 ≤ v1.toInt) (v2 : Int32) (v3 : Int32) (hQ : ∀ (r : Int32) (Z' : jZ) (I' : jI) (L' : jL), WD Z' I' → BUD B Z' T → FR Ws_X12_runFeast Z0 I0 Z' I' → CP Z0 Z' → Q r Z' I' L') {K138 : Nat → Int32 → Int32 → Int32 → jZ → jI → jL → Prop} {N138 : Int} (hK138 : ∀ (v2 : Int32) (v3 : Int32) (Z : jZ) (I : jI) (L : jL), WD Z I → BUD B Z T → FR Ws_X12_runFeast Z0 I0 Z I → CP Z0 Z →   ((0 ≤ v2.toInt ∧ v2.toInt ≤ 6 ∧ SGo (I uG) ≤ 144) ∧ BSt (I0 v0 0).toInt (I0 v0 8).toInt (I uO) (I uM) (I uG) v2.toInt) → 144 - SGo (I uG) < N138 → K138 v0 v1 v2 v3 Z I L) : ∀ (n : Nat) (v4 : Int32) (Z : jZ) (I : jI) (L : jL), WD Z I → BUD B Z T → FR Ws_X12_runFeast Z0 I0 Z I → CP Z0 Z →   ((0 ≤ v4.toInt ∧ v4.toInt ≤ 24 ∧ 0 ≤ v2.toInt ∧ v2.toInt ≤ 6 ∧ SGo (I uG) ≤ 144 ∧ 144 - SGo (I uG) < N138) ∧ BSt (I0 v0 0).toInt (I0 v0 8).toInt (I uO) (I uM) (I uG) v2.toInt) → 144 - SGo (I uG) ≤ N138 → 24 - v4.toInt < (n : Int) → f_X12_runFeast_L353 B K138 Q n v0 v1 v2 v3 v4 Z I L := by
  intro n
  induction n with
  | zero =>
    intro v4 Z I L w_I bd_Z q_I cp_Z   li hm138 me
    exfalso
    omega
  | succ n ih =>
    intro v4 Z I L w_I bd_Z q_I cp_Z   li hm138 me
    unfold f_X12_runFeast_L353
    have rv4 := i_rng v4
    have rv2 := i_rng v2
    have rv3 := i_rng v3
    have rv1 := i_rng v1
    obtain ⟨li0, li1⟩ := li
    have kv0_0 := kv0
    have kv0 := (q_I.1 _ _ kv0).1
    have t1 : 0 ≤ (I v0 0).toInt ∧ (I v0 0).toInt ≤ 24 := w_I.fld 12 0 kv0 (by decide)
    have t2 : 0 ≤ (I v0 8).toInt ∧ (I v0 8).toInt ≤ 6 := w_I.fld 12 8 kv0 (by decide)
    have huO_1 : jr Z v0 55 = some uO := (q_I.2.1 v0 12 55 kv0_0 (by decide) (by decide)).trans huO
    have luO : jlen Z uO = 144 := by obtain ⟨b9, e9, -, l9⟩ := sh_f w_I.1 kv0 (j := 55) (k := 14) (m := 144) rfl; cases huO_1.symm.trans e9; exact l9
    have kuO : jk Z uO 14 := by obtain ⟨b9, e9, k9, -⟩ := sh_f w_I.1 kv0 (j := 55) (k := 14) (m := 144) rfl; cases huO_1.symm.trans e9; exact k9
    have huM_1 : jr Z v0 56 = some uM := (q_I.2.1 v0 12 56 kv0_0 (by decide) (by decide)).trans huM
    have luM : jlen Z uM = 6 := by obtain ⟨b9, e9, -, l9⟩ := sh_f w_I.1 kv0 (j := 56) (k := 14) (m := 6) rfl; cases huM_1.symm.trans e9; exact l9
    have kuM : jk Z uM 14 := by obtain ⟨b9, e9, k9, -⟩ := sh_f w_I.1 kv0 (j := 56) (k := 14) (m := 6) rfl; cases huM_1.symm.trans e9; exact k9
    have huG_1 : jr Z v0 57 = some uG := (q_I.2.1 v0 12 57 kv0_0 (by decide) (by decide)).trans huG
    have luG : jlen Z uG = 6 := by obtain ⟨b9, e9, -, l9⟩ := sh_f w_I.1 kv0 (j := 57) (k := 14) (m := 6) rfl; cases huG_1.symm.trans e9; exact l9
    have kuG : jk Z uG 14 := by obtain ⟨b9, e9, k9, -⟩ := sh_f w_I.1 kv0 (j := 57) (k := 14) (m := 6) rfl; cases huG_1.symm.trans e9; exact k9
    have huP_1 : jr Z v0 61 = some uP := (q_I.2.1 v0 12 61 kv0_0 (by decide) (by decide)).trans huP
    have luP : jlen Z uP = 6 := by obtain ⟨b9, e9, -, l9⟩ := sh_f w_I.1 kv0 (j := 61) (k := 14) (m := 6) rfl; cases huP_1.symm.trans e9; exact l9
    have kuP : jk Z uP 14 := by obtain ⟨b9, e9, k9, -⟩ := sh_f w_I.1 kv0 (j := 61) (k := 14) (m := 6) rfl; cases huP_1.symm.trans e9; exact k9
    have huR_1 : jr Z v0 44 = some uR := (q_I.2.1 v0 12 44 kv0_0 (by decide) (by decide)).trans huR
    have luR : jlen Z uR = 24 := by obtain ⟨b9, e9, -, l9⟩ := sh_f w_I.1 kv0 (j := 44) (k := 14) (m := 24) rfl; cases huR_1.symm.trans e9; exact l9
    have kuR : jk Z uR 14 := by obtain ⟨b9, e9, k9, -⟩ := sh_f w_I.1 kv0 (j := 44) (k := 14) (m := 24) rfl; cases huR_1.symm.trans e9; exact k9
    have xq_I := q_I.1
    have e0 : (I v0 0).toInt = (I0 v0 0).toInt := by rw [q_I.2.2.1 v0 12 0 kv0_0 (by decide) (by decide)]
    have e8 : (I v0 8).toInt = (I0 v0 8).toInt := by rw [q_I.2.2.1 v0 12 8 kv0_0 (by decide) (by decide)]
    have h80 : 0 ≤ (I0 v0 8).toInt ∧ (I0 v0 8).toInt ≤ 6 := w0.fld 12 8 kv0_0 (by decide)
    have h00 : 0 ≤ (I0 v0 0).toInt ∧ (I0 v0 0).toInt ≤ 24 := w0.fld 12 0 kv0_0 (by decide)
    have okO : ∀ q, 0 ≤ (I uO q).toInt := fun q => (show 0 ≤ (I uO q).toInt ∧ (I uO q).toInt ≤ 23 from w_I.arr 12 55 kv0 huO_1 kuO rfl rfl q).1
    have okGG : ∀ q, 0 ≤ (I uG q).toInt ∧ (I uG q).toInt ≤ 24 := fun q => w_I.arr 12 57 kv0 huG_1 kuG rfl rfl q
    have okMM : ∀ q, 0 ≤ (I uM q).toInt ∧ (I uM q).toInt ≤ 24 := fun q => w_I.arr 12 56 kv0 huM_1 kuM rfl rfl q
    have okG : ∀ q, 0 ≤ (I uG q).toInt := fun q => (okGG q).1
    have t4 : 0 ≤ (I v0 0).toInt ∧ (I v0 0).toInt ≤ 24 := w_I.fld 12 0 kv0 (by decide)
    refine ⟨fun c5 => ?_, fun c5 => ?_⟩
    · skip
      first | (have t6 : ((I v0 0).toInt - (1)) ≤ v4.toInt := (i_le (i_sub rfl (show (1 : Int32).toInt = 1 from rfl) (by omega) (by omega)) rfl).mp c5) | (have t6 : ((I v0 0) - (1 : Int32)).toInt ≤ v4.toInt := (i_le rfl rfl).mp c5) | skip
      intro x7 ex7
      have rx7 := i_rng x7
      first | (have tx7 : x7.toInt = v3.toInt + (1) := by (rw [ex7]; exact (i_add rfl (show (1 : Int32).toInt = 1 from rfl) (by omega) (by omega)))) | skip
      exact hK138 v2 x7 Z I L w_I bd_Z q_I cp_Z   (by first | exact ⟨by omega, li1⟩ | exact ⟨⟨by omega, by omega, SGo_le okGG⟩, BS0_out li1 (by omega) (fun q => (okMM q).1)⟩)  (by omega)
    · skip
      first | (have t8 : ¬ (((I v0 0).toInt - (1)) ≤ v4.toInt) := (not_congr (i_le (i_sub rfl (show (1 : Int32).toInt = 1 from rfl) (by omega) (by omega)) rfl)).mp c5) | (have t8 : ¬ (((I v0 0) - (1 : Int32)).toInt ≤ v4.toInt) := (not_congr (i_le rfl rfl)).mp c5) | skip
      refine s9_X12_onStep w_I v0 v4 kv0 uO huO_1 uM huM_1 uG huG_1  (fun r9 p10 => ?_)
      have rr9 := i_rng r9
      intro I11 eI11
      try (have t12 : (if (I v0 60) < r9 then r9 else (I v0 60)).toInt = (max (I v0 60).toInt r9.toInt) := (i_max rfl rfl))
      have w_I11 : WD Z I11 := by rw [eI11]; exact WD_putF w_I 12 60 kv0 (by decide) (by decide) trivial
      have f_I11 : FR [(12, 60)] Z I Z I11 := by rw [eI11]; exact FR_putF kv0 (by decide) List.mem_cons_self
      have q_I11 : FR Ws_X12_runFeast Z0 I0 Z I11 := q_I.trans w0.1 w0.2.1 (f_I11.mono (by decide))
      have ao_I11_uO : I11 uO = I uO := f_I11.2.2.2 v0 12 55 uO kv0 huO_1 (by rw [kuO.2]; rfl) rfl (by decide)
      have ao_I11_uM : I11 uM = I uM := f_I11.2.2.2 v0 12 56 uM kv0 huM_1 (by rw [kuM.2]; rfl) rfl (by decide)
      have ao_I11_uG : I11 uG = I uG := f_I11.2.2.2 v0 12 57 uG kv0 huG_1 (by rw [kuG.2]; rfl) rfl (by decide)
      have ao_I11_uP : I11 uP = I uP := f_I11.2.2.2 v0 12 61 uP kv0 huP_1 (by rw [kuP.2]; rfl) rfl (by decide)
      have ao_I11_uR : I11 uR = I uR := f_I11.2.2.2 v0 12 44 uR kv0 huR_1 (by rw [kuR.2]; rfl) rfl (by decide)
      have u13 : (I11 v0 0).toInt = (I v0 0).toInt := by rw [f_I11.2.2.1 v0 12 0 kv0 (by decide) (by decide)]
      have u14 : (I11 v0 8).toInt = (I v0 8).toInt := by rw [f_I11.2.2.1 v0 12 8 kv0 (by decide) (by decide)]
      first | (have u15 : (I11 v0 60).toInt = (max (I v0 60).toInt r9.toInt) := by (rw [eI11, show jpI I v0 60 (if (I v0 60) < r9 then r9 else (I v0 60)) v0 60 = (if (I v0 60) < r9 then r9 else (I v0 60)) from jpI_at] <;> exact (i_max rfl rfl))) | skip
      first | (have sg9 : SGo (I11 uG) = SGo (I uG) := congrArg SGo ao_I11_uG) | skip
      intro x16 ex16
      have rx16 := i_rng x16
      first | (have tx16 : x16.toInt = v4.toInt + (1) := by (rw [ex16]; exact (i_add rfl (show (1 : Int32).toInt = 1 from rfl) (by omega) (by omega)))) | skip
      exact ih x16 Z I11 L w_I11 bd_Z q_I11 cp_Z   (by first | (rw [ao_I11_uO, ao_I11_uM, ao_I11_uG]; exact ⟨by omega, li1⟩) | (have me9 := MIn_end li2 li1 (by omega) okO okG (by omega); exact ⟨by omega, li1⟩)) (by omega) (by omega)
set_option maxHeartbeats 4000000 in
set_option maxRecDepth 100000 in
theorem l_X12_runFeast_L212 {B : Nat × Nat} {T : Nat} {Z0 : jZ} {I0 : jI} {Q : Int32 → jZ → jI → jL → Prop} (w0 : WD Z0 I0) (v0 : Nat) (v1 : Int32) (kv0 : jk Z0 v0 12) (uO : Nat) (huO : jr Z0 v0 55 = some uO) (uM : Nat) (huM : jr Z0 v0 56 = some uM) (uG : Nat) (huG : jr Z0 v0 57 = some uG) (uP : Nat) (huP : jr Z0 v0 61 = some uP) (uR : Nat) (huR : jr Z0 v0 44 = some uR) (p0 : 1 ≤ (I0 v0 0).toInt) (p1 : 1 ≤ v1.toInt) (v3 : Int32) (v4 : Int32) (hQ : ∀ (r : Int32) (Z' : jZ) (I' : jI) (L' : jL), WD Z' I' → BUD B Z' T → FR Ws_X12_runFeast Z0 I0 Z' I' → CP Z0 Z' → Q r Z' I' L') {K138 : Nat → Int32 → Int32 → Int32 → jZ → jI → jL → Prop} {N138 : Int} (hK138 : ∀ (v2 : Int32) (v3 : Int32) (Z : jZ) (I : jI) (L : jL), WD Z I → BUD B Z T → FR Ws_X12_runFeast Z0 I0 Z I → CP Z0 Z →   ((0 ≤ v2.toInt ∧ v2.toInt ≤ 6 ∧ SGo (I uG) ≤ 144) ∧ BSt (I0 v0 0).toInt (I0 v0 8).toInt (I uO) (I uM) (I uG) v2.toInt) → 144 - SGo (I uG) < N138 → K138 v0 v1 v2 v3 Z I L) {K203 : Nat → Int32 → Int32 → Int32 → Int32 → jZ → jI → jL → Prop} {N203 : Int} (hK203 : ∀ (v2 : Int32) (v4 : Int32) (Z : jZ) (I : jI) (L : jL), WD Z I → BUD B Z T → FR Ws_X12_runFeast Z0 I0 Z I → CP Z0 Z →   ((-2 ≤ v4.toInt ∧ v4.toInt ≤ 23 ∧ 0 ≤ v2.toInt ∧ v2.toInt ≤ 6 ∧ SGo (I uG) ≤ 144) ∧ BSt (I0 v0 0).toInt (I0 v0 8).toInt (I uO) (I uM) (I uG) v2.toInt ∧ MIn N138 (I0 v0 8).toInt (I uO) (I uM) (I uG) (I uP) v4.toInt 0 v2.toInt) → 144 - SGo (I uG) ≤ N138 → v4.toInt + 2 < N203 → K203 v0 v1 v2 v3 v4 Z I L) : ∀ (n : Nat) (v2 : Int32) (v5 : Int32) (Z : jZ) (I : jI) (L : jL), WD Z I → BUD B Z T → FR Ws_X12_runFeast Z0 I0 Z I → CP Z0 Z →   ((0 ≤ v5.toInt ∧ v5.toInt ≤ 6 ∧ -1 ≤ v4.toInt ∧ v4.toInt ≤ 23 ∧ 0 ≤ v2.toInt ∧ v2.toInt ≤ 6 ∧ SGo (I uG) ≤ 144) ∧ BSt (I0 v0 0).toInt (I0 v0 8).toInt (I uO) (I uM) (I uG) v2.toInt ∧ MIn N138 (I0 v0 8).toInt (I uO) (I uM) (I uG) (I uP) v4.toInt v5.toInt v2.toInt) → 144 - SGo (I uG) ≤ N138 → v4.toInt + 2 ≤ N203 → 6 - v5.toInt < (n : Int) → f_X12_runFeast_L212 B K138 K203 Q n v0 v1 v2 v3 v4 v5 Z I L := by
  intro n
  induction n with
  | zero =>
    intro v2 v5 Z I L w_I bd_Z q_I cp_Z   li hm138 hm203 me
    exfalso
    omega
  | succ n ih =>
    intro v2 v5 Z I L w_I bd_Z q_I cp_Z   li hm138 hm203 me
    unfold f_X12_runFeast_L212
    have rv2 := i_rng v2
    have rv5 := i_rng v5
    have rv3 := i_rng v3
    have rv4 := i_rng v4
    have rv1 := i_rng v1
    obtain ⟨li0, li1, li2⟩ := li
    have kv0_0 := kv0
    have kv0 := (q_I.1 _ _ kv0).1
    have t17 : 0 ≤ (I v0 0).toInt ∧ (I v0 0).toInt ≤ 24 := w_I.fld 12 0 kv0 (by decide)
    have t18 : 0 ≤ (I v0 8).toInt ∧ (I v0 8).toInt ≤ 6 := w_I.fld 12 8 kv0 (by decide)
    have huO_1 : jr Z v0 55 = some uO := (q_I.2.1 v0 12 55 kv0_0 (by decide) (by decide)).trans huO
    have luO : jlen Z uO = 144 := by obtain ⟨b9, e9, -, l9⟩ := sh_f w_I.1 kv0 (j := 55) (k := 14) (m := 144) rfl; cases huO_1.symm.trans e9; exact l9
    have kuO : jk Z uO 14 := by obtain ⟨b9, e9, k9, -⟩ := sh_f w_I.1 kv0 (j := 55) (k := 14) (m := 144) rfl; cases huO_1.symm.trans e9; exact k9
    have huM_1 : jr Z v0 56 = some uM := (q_I.2.1 v0 12 56 kv0_0 (by decide) (by decide)).trans huM
    have luM : jlen Z uM = 6 := by obtain ⟨b9, e9, -, l9⟩ := sh_f w_I.1 kv0 (j := 56) (k := 14) (m := 6) rfl; cases huM_1.symm.trans e9; exact l9
    have kuM : jk Z uM 14 := by obtain ⟨b9, e9, k9, -⟩ := sh_f w_I.1 kv0 (j := 56) (k := 14) (m := 6) rfl; cases huM_1.symm.trans e9; exact k9
    have huG_1 : jr Z v0 57 = some uG := (q_I.2.1 v0 12 57 kv0_0 (by decide) (by decide)).trans huG
    have luG : jlen Z uG = 6 := by obtain ⟨b9, e9, -, l9⟩ := sh_f w_I.1 kv0 (j := 57) (k := 14) (m := 6) rfl; cases huG_1.symm.trans e9; exact l9
    have kuG : jk Z uG 14 := by obtain ⟨b9, e9, k9, -⟩ := sh_f w_I.1 kv0 (j := 57) (k := 14) (m := 6) rfl; cases huG_1.symm.trans e9; exact k9
    have huP_1 : jr Z v0 61 = some uP := (q_I.2.1 v0 12 61 kv0_0 (by decide) (by decide)).trans huP
    have luP : jlen Z uP = 6 := by obtain ⟨b9, e9, -, l9⟩ := sh_f w_I.1 kv0 (j := 61) (k := 14) (m := 6) rfl; cases huP_1.symm.trans e9; exact l9
    have kuP : jk Z uP 14 := by obtain ⟨b9, e9, k9, -⟩ := sh_f w_I.1 kv0 (j := 61) (k := 14) (m := 6) rfl; cases huP_1.symm.trans e9; exact k9
    have huR_1 : jr Z v0 44 = some uR := (q_I.2.1 v0 12 44 kv0_0 (by decide) (by decide)).trans huR
    have luR : jlen Z uR = 24 := by obtain ⟨b9, e9, -, l9⟩ := sh_f w_I.1 kv0 (j := 44) (k := 14) (m := 24) rfl; cases huR_1.symm.trans e9; exact l9
    have kuR : jk Z uR 14 := by obtain ⟨b9, e9, k9, -⟩ := sh_f w_I.1 kv0 (j := 44) (k := 14) (m := 24) rfl; cases huR_1.symm.trans e9; exact k9
    have xq_I := q_I.1
    have e0 : (I v0 0).toInt = (I0 v0 0).toInt := by rw [q_I.2.2.1 v0 12 0 kv0_0 (by decide) (by decide)]
    have e8 : (I v0 8).toInt = (I0 v0 8).toInt := by rw [q_I.2.2.1 v0 12 8 kv0_0 (by decide) (by decide)]
    have h80 : 0 ≤ (I0 v0 8).toInt ∧ (I0 v0 8).toInt ≤ 6 := w0.fld 12 8 kv0_0 (by decide)
    have h00 : 0 ≤ (I0 v0 0).toInt ∧ (I0 v0 0).toInt ≤ 24 := w0.fld 12 0 kv0_0 (by decide)
    have okO : ∀ q, 0 ≤ (I uO q).toInt := fun q => (show 0 ≤ (I uO q).toInt ∧ (I uO q).toInt ≤ 23 from w_I.arr 12 55 kv0 huO_1 kuO rfl rfl q).1
    have okGG : ∀ q, 0 ≤ (I uG q).toInt ∧ (I uG q).toInt ≤ 24 := fun q => w_I.arr 12 57 kv0 huG_1 kuG rfl rfl q
    have okMM : ∀ q, 0 ≤ (I uM q).toInt ∧ (I uM q).toInt ≤ 24 := fun q => w_I.arr 12 56 kv0 huM_1 kuM rfl rfl q
    have okG : ∀ q, 0 ≤ (I uG q).toInt := fun q => (okGG q).1
    have nv5 := i_nat (x := v5) rfl (by omega)
    have t20 : 0 ≤ (I v0 8).toInt ∧ (I v0 8).toInt ≤ 6 := w_I.fld 12 8 kv0 (by decide)
    refine ⟨fun c21 => ?_, fun c21 => ?_⟩
    · skip
      first | (have t22 : (I v0 8).toInt ≤ v5.toInt := (i_le rfl rfl).mp c21) | (have t22 : (I v0 8).toInt ≤ v5.toInt := (i_le rfl rfl).mp c21) | skip
      intro x23 ex23
      have rx23 := i_rng x23
      first | (have tx23 : x23.toInt = v4.toInt + (-1) := by (rw [ex23]; exact (i_add rfl (show (-1 : Int32).toInt = -1 from rfl) (by omega) (by omega)))) | skip
      exact hK203 v2 x23 Z I L w_I bd_Z q_I cp_Z   (by first | exact ⟨by omega, li1, MIn_next li2 (by omega) (by omega)⟩ | (refine ⟨by omega, li1, ?_⟩; rw [show x23.toInt = (I0 v0 0).toInt - 1 by omega]; exact MIn_start li1 (by omega) okO okG (fun p hp => li2 p (by omega)) (by omega))) (by omega) (by omega)
    · skip
      first | (have t24 : ¬ ((I v0 8).toInt ≤ v5.toInt) := (not_congr (i_le rfl rfl)).mp c21) | (have t24 : ¬ ((I v0 8).toInt ≤ v5.toInt) := (not_congr (i_le rfl rfl)).mp c21) | skip
      intro b25 eb25
      obtain rfl : uP = b25 := Option.some.inj (huP_1.symm.trans eb25)
      have o26 : vp_in v5 6 := vi_of rfl (by omega) (by omega)
      refine ⟨o26, ?_⟩
      refine ⟨fun c27 => ?_, fun c27 => ?_⟩
      · skip
        first | (have t28 : (I uP v5.toNatClampNeg).toInt = v4.toInt := (i_eq rfl rfl).mp c27) | (have t28 : (I uP v5.toNatClampNeg).toInt = v4.toInt := (i_eq rfl rfl).mp c27) | skip
        have hgm : (I uG v5.toNatClampNeg).toInt < (I uM v5.toNatClampNeg).toInt := li2.1 v5.toNatClampNeg (by omega) (by omega) (by omega)
        have hmm := okMM v5.toNatClampNeg
        intro b29 eb29
        obtain rfl : uO = b29 := Option.some.inj (huO_1.symm.trans eb29)
        intro b30 eb30
        obtain rfl : uG = b30 := Option.some.inj (huG_1.symm.trans eb30)
        have o31 : vp_in v5 6 := vi_of rfl (by omega) (by omega)
        refine ⟨o31, ?_⟩
        have t32 : 0 ≤ (I uG v5.toNatClampNeg).toInt ∧ (I uG v5.toNatClampNeg).toInt ≤ 24 := w_I.arr 12 57 kv0 huG_1 kuG rfl rfl _
        have o33 : vp_in (((24 : Int32) * v5) + (I uG v5.toNatClampNeg)) 144 := vi_of (i_add (i_mul (show (24 : Int32).toInt = 24 from rfl) rfl (by omega) (by omega)) rfl (by omega) (by omega)) (by omega) (by omega)
        refine ⟨o33, ?_⟩
        have t34 : 0 ≤ (I uO (((24 : Int32) * v5) + (I uG v5.toNatClampNeg)).toNatClampNeg).toInt ∧ (I uO (((24 : Int32) * v5) + (I uG v5.toNatClampNeg)).toNatClampNeg).toInt ≤ 23 := w_I.arr 12 55 kv0 huO_1 kuO rfl rfl _
        intro x35 ex35
        have rx35 := i_rng x35
        first | (have tx35 : x35.toInt = (I uO (((24 : Int32) * v5) + (I uG v5.toNatClampNeg)).toNatClampNeg).toInt := by (rw [ex35]; exact rfl)) | (have tx35 : x35.toInt = (I uO (((24 : Int32) * v5) + (I uG v5.toNatClampNeg)).toNatClampNeg).toInt := by rw [ex35])
        have t37 : 0 ≤ (I v0 0).toInt ∧ (I v0 0).toInt ≤ 24 := w_I.fld 12 0 kv0 (by decide)
        refine ⟨fun c38 => ?_, fun c38 => ?_⟩
        · skip
          first | (have t39 : ((I v0 0).toInt - (1)) ≤ x35.toInt := (i_le (i_sub rfl (show (1 : Int32).toInt = 1 from rfl) (by omega) (by omega)) rfl).mp c38) | (have t39 : ((I v0 0) - (1 : Int32)).toInt ≤ x35.toInt := (i_le rfl rfl).mp c38) | skip
          unfold f_X12_runFeast_b302
          intro b40 eb40
          obtain rfl : uG = b40 := Option.some.inj (huG_1.symm.trans eb40)
          have o41 : vp_in v5 6 := vi_of rfl (by omega) (by omega)
          refine ⟨o41, ?_⟩
          have t42 : 0 ≤ (I uG v5.toNatClampNeg).toInt ∧ (I uG v5.toNatClampNeg).toInt ≤ 24 := w_I.arr 12 57 kv0 huG_1 kuG rfl rfl _
          have o43 : vp_in v5 6 := vi_of rfl (by omega) (by omega)
          refine ⟨o43, ?_⟩
          intro I44 eI44
          try (have t45 : ((I uG v5.toNatClampNeg) + (1 : Int32)).toInt = ((I uG v5.toNatClampNeg).toInt + (1)) := (i_add rfl (show (1 : Int32).toInt = 1 from rfl) (by omega) (by omega)))
          have w_I44 : WD Z I44 := by rw [eI44]; exact WD_putA w_I 12 57 kv0 huG_1 kuG rfl rfl (by decide) (by constructor <;> omega)
          have ao_I44_uG : ∀ q, q ≠ v5.toNatClampNeg → I44 uG q = I uG q := fun q hq => by rw [eI44]; exact jpI_off hq
          first | (have u46 : (I44 uG (v5.toNatClampNeg)).toInt = ((I uG v5.toNatClampNeg).toInt + (1)) := by (rw [eI44, show jpI I uG v5.toNatClampNeg ((I uG v5.toNatClampNeg) + (1 : Int32)) uG v5.toNatClampNeg = ((I uG v5.toNatClampNeg) + (1 : Int32)) from jpI_at] <;> exact (i_add rfl (show (1 : Int32).toInt = 1 from rfl) (by omega) (by omega)))) | skip
          have f_I44 : FR [(12, 57)] Z I Z I44 := by rw [eI44]; exact FR_upA w_I.2.1 kv0 huG_1 kuG rfl rfl List.mem_cons_self
          have q_I44 : FR Ws_X12_runFeast Z0 I0 Z I44 := q_I.trans w0.1 w0.2.1 (f_I44.mono (by decide))
          have ao_I44_uO : I44 uO = I uO := f_I44.2.2.2 v0 12 55 uO kv0 huO_1 (by rw [kuO.2]; rfl) rfl (by decide)
          have ao_I44_uM : I44 uM = I uM := f_I44.2.2.2 v0 12 56 uM kv0 huM_1 (by rw [kuM.2]; rfl) rfl (by decide)
          have ao_I44_uP : I44 uP = I uP := f_I44.2.2.2 v0 12 61 uP kv0 huP_1 (by rw [kuP.2]; rfl) rfl (by decide)
          have ao_I44_uR : I44 uR = I uR := f_I44.2.2.2 v0 12 44 uR kv0 huR_1 (by rw [kuR.2]; rfl) rfl (by decide)
          have u47 : (I44 uM (v5.toNatClampNeg)).toInt = (I uM (v5.toNatClampNeg)).toInt := by rw [f_I44.2.2.2 v0 12 56 uM kv0 huM_1 (by rw [kuM.2]; rfl) rfl (by decide)]
          have u48 : (I44 uP (v5.toNatClampNeg)).toInt = (I uP (v5.toNatClampNeg)).toInt := by rw [f_I44.2.2.2 v0 12 61 uP kv0 huP_1 (by rw [kuP.2]; rfl) rfl (by decide)]
          have u49 : (I44 v0 0).toInt = (I v0 0).toInt := by rw [f_I44.2.2.1 v0 12 0 kv0 (by decide) (by decide)]
          have u50 : (I44 v0 8).toInt = (I v0 8).toInt := by rw [f_I44.2.2.1 v0 12 8 kv0 (by decide) (by decide)]
          have sg9 : SGo (I44 uG) = SGo (I uG) + 1 := SGo_up (p := v5.toNatClampNeg) (by omega) ao_I44_uG (by omega)
          intro b51 eb51
          obtain rfl : uG = b51 := Option.some.inj (huG_1.symm.trans eb51)
          have o52 : vp_in v5 6 := vi_of rfl (by omega) (by omega)
          refine ⟨o52, ?_⟩
          have t53 : 0 ≤ (I44 uG v5.toNatClampNeg).toInt ∧ (I44 uG v5.toNatClampNeg).toInt ≤ 24 := w_I44.arr 12 57 kv0 huG_1 kuG rfl rfl _
          intro b54 eb54
          obtain rfl : uM = b54 := Option.some.inj (huM_1.symm.trans eb54)
          have o55 : vp_in v5 6 := vi_of rfl (by omega) (by omega)
          refine ⟨o55, ?_⟩
          have t56 : 0 ≤ (I44 uM v5.toNatClampNeg).toInt ∧ (I44 uM v5.toNatClampNeg).toInt ≤ 24 := w_I44.arr 12 56 kv0 huM_1 kuM rfl rfl _
          refine ⟨fun c57 => ?_, fun c57 => ?_⟩
          · skip
            first | (have t58 : ¬ ((I44 uG v5.toNatClampNeg).toInt = (I44 uM v5.toNatClampNeg).toInt) := (not_congr (i_eq rfl rfl)).mp c57) | (have t58 : ¬ ((I44 uG v5.toNatClampNeg).toInt = (I44 uM v5.toNatClampNeg).toInt) := (not_congr (i_eq rfl rfl)).mp c57) | skip
            unfold f_X12_runFeast_b336
            intro x59 ex59
            have rx59 := i_rng x59
            first | (have tx59 : x59.toInt = (v2.toInt - (0)) := by (rw [ex59]; exact (i_sub rfl (show (0 : Int32).toInt = 0 from rfl) (by omega) (by omega)))) | (have tx59 : x59.toInt = (v2 - (0 : Int32)).toInt := by rw [ex59])
            unfold f_X12_runFeast_b338
            first | (have sg8 : SGo (I44 uG) = SGo (I uG) := congrArg SGo rfl) | skip
            intro x60 ex60
            have rx60 := i_rng x60
            first | (have tx60 : x60.toInt = v5.toInt + (1) := by (rw [ex60]; exact (i_add rfl (show (1 : Int32).toInt = 1 from rfl) (by omega) (by omega)))) | skip
            exact ih x59 x60 Z I44 L w_I44 bd_Z q_I44 cp_Z   (by first | (rw [ao_I44_uO, ao_I44_uM, ao_I44_uP, rfl]; exact ⟨by omega, li1, MIn_wait li2 (by omega) (by omega)⟩) | (rw [ao_I44_uO, ao_I44_uM, ao_I44_uP]; have hb := BSt_move (p := v5.toNatClampNeg) (G' := I44 uG) (lf' := x59.toInt) li1 (by omega) ao_I44_uG (by omega) (by omega) (by omega); have hb1 := hb.1; have hb2 := CNT_rng (G := I44 uG) (M := I uM) (n := (I0 v0 8).toInt.toNat); have sgl : SGo (I44 uG) ≤ 144 := SGo_le (fun q => w_I44.arr 12 57 kv0 huG_1 kuG rfl rfl q); exact ⟨by omega, hb, MIn_move (p := v5.toNatClampNeg) li2 hm138 nv5 (by omega) (by omega) (by omega) ao_I44_uG (by omega)⟩) | (exact ⟨by omega, li1, MIn_skip (p := v5.toNatClampNeg) li2 nv5 (by omega) (by omega)⟩) | (exact ⟨by omega, li1, li2⟩)) (by omega) (by omega) (by omega)
          · skip
            first | (have t61 : (I44 uG v5.toNatClampNeg).toInt = (I44 uM v5.toNatClampNeg).toInt := (i_eq rfl rfl).mp c57) | (have t61 : (I44 uG v5.toNatClampNeg).toInt = (I44 uM v5.toNatClampNeg).toInt := (i_eq rfl rfl).mp c57) | skip
            unfold f_X12_runFeast_b336
            intro x62 ex62
            have rx62 := i_rng x62
            first | (have tx62 : x62.toInt = (v2.toInt - (1)) := by (rw [ex62]; exact (i_sub rfl (show (1 : Int32).toInt = 1 from rfl) (by omega) (by omega)))) | (have tx62 : x62.toInt = (v2 - (1 : Int32)).toInt := by rw [ex62])
            unfold f_X12_runFeast_b338
            first | (have sg8 : SGo (I44 uG) = SGo (I uG) := congrArg SGo rfl) | skip
            intro x63 ex63
            have rx63 := i_rng x63
            first | (have tx63 : x63.toInt = v5.toInt + (1) := by (rw [ex63]; exact (i_add rfl (show (1 : Int32).toInt = 1 from rfl) (by omega) (by omega)))) | skip
            exact ih x62 x63 Z I44 L w_I44 bd_Z q_I44 cp_Z   (by first | (rw [ao_I44_uO, ao_I44_uM, ao_I44_uP, rfl]; exact ⟨by omega, li1, MIn_wait li2 (by omega) (by omega)⟩) | (rw [ao_I44_uO, ao_I44_uM, ao_I44_uP]; have hb := BSt_move (p := v5.toNatClampNeg) (G' := I44 uG) (lf' := x62.toInt) li1 (by omega) ao_I44_uG (by omega) (by omega) (by omega); have hb1 := hb.1; have hb2 := CNT_rng (G := I44 uG) (M := I uM) (n := (I0 v0 8).toInt.toNat); have sgl : SGo (I44 uG) ≤ 144 := SGo_le (fun q => w_I44.arr 12 57 kv0 huG_1 kuG rfl rfl q); exact ⟨by omega, hb, MIn_move (p := v5.toNatClampNeg) li2 hm138 nv5 (by omega) (by omega) (by omega) ao_I44_uG (by omega)⟩) | (exact ⟨by omega, li1, MIn_skip (p := v5.toNatClampNeg) li2 nv5 (by omega) (by omega)⟩) | (exact ⟨by omega, li1, li2⟩)) (by omega) (by omega) (by omega)
        · skip
          first | (have t64 : ¬ (((I v0 0).toInt - (1)) ≤ x35.toInt) := (not_congr (i_le (i_sub rfl (show (1 : Int32).toInt = 1 from rfl) (by omega) (by omega)) rfl)).mp c38) | (have t64 : ¬ (((I v0 0) - (1 : Int32)).toInt ≤ x35.toInt) := (not_congr (i_le rfl rfl)).mp c38) | skip
          refine s9_X12_onStep w_I v0 x35 kv0 uO huO_1 uM huM_1 uG huG_1  (fun r65 p66 => ?_)
          have rr65 := i_rng r65
          have nx := i_nat (x := (((24 : Int32) * v5) + (I uG v5.toNatClampNeg))) (i_add (i_mul (show (24 : Int32).toInt = 24 from rfl) rfl (by omega) (by omega)) rfl (by omega) (by omega)) (by omega)
          have hon : r65.toInt = 0 ∨ 144 - SGo (I uG) < N138 := by rcases p66 with h | ⟨p9, h1, h2, h3⟩; exact Or.inl h; right; exact MIn_free (p := v5.toNatClampNeg) (to := x35.toInt) li2 li1 okO (by omega) (by omega) (by omega) okG (by rw [ex35, show (((24 : Int32) * v5) + (I uG v5.toNatClampNeg)).toNatClampNeg = 24 * v5.toNatClampNeg + (I uG v5.toNatClampNeg).toInt.toNat by omega]) (by omega) ⟨p9, by omega, h2, h3⟩
          refine ⟨fun c67 => ?_, fun c67 => ?_⟩
          · skip
            first | (have t68 : r65.toInt < v1.toInt := (i_lt rfl rfl).mp c67) | (have t68 : r65.toInt < v1.toInt := (i_lt rfl rfl).mp c67) | skip
            unfold f_X12_runFeast_b302
            intro b69 eb69
            obtain rfl : uG = b69 := Option.some.inj (huG_1.symm.trans eb69)
            have o70 : vp_in v5 6 := vi_of rfl (by omega) (by omega)
            refine ⟨o70, ?_⟩
            have t71 : 0 ≤ (I uG v5.toNatClampNeg).toInt ∧ (I uG v5.toNatClampNeg).toInt ≤ 24 := w_I.arr 12 57 kv0 huG_1 kuG rfl rfl _
            have o72 : vp_in v5 6 := vi_of rfl (by omega) (by omega)
            refine ⟨o72, ?_⟩
            intro I73 eI73
            try (have t74 : ((I uG v5.toNatClampNeg) + (1 : Int32)).toInt = ((I uG v5.toNatClampNeg).toInt + (1)) := (i_add rfl (show (1 : Int32).toInt = 1 from rfl) (by omega) (by omega)))
            have w_I73 : WD Z I73 := by rw [eI73]; exact WD_putA w_I 12 57 kv0 huG_1 kuG rfl rfl (by decide) (by constructor <;> omega)
            have ao_I73_uG : ∀ q, q ≠ v5.toNatClampNeg → I73 uG q = I uG q := fun q hq => by rw [eI73]; exact jpI_off hq
            first | (have u75 : (I73 uG (v5.toNatClampNeg)).toInt = ((I uG v5.toNatClampNeg).toInt + (1)) := by (rw [eI73, show jpI I uG v5.toNatClampNeg ((I uG v5.toNatClampNeg) + (1 : Int32)) uG v5.toNatClampNeg = ((I uG v5.toNatClampNeg) + (1 : Int32)) from jpI_at] <;> exact (i_add rfl (show (1 : Int32).toInt = 1 from rfl) (by omega) (by omega)))) | skip
            have f_I73 : FR [(12, 57)] Z I Z I73 := by rw [eI73]; exact FR_upA w_I.2.1 kv0 huG_1 kuG rfl rfl List.mem_cons_self
            have q_I73 : FR Ws_X12_runFeast Z0 I0 Z I73 := q_I.trans w0.1 w0.2.1 (f_I73.mono (by decide))
            have ao_I73_uO : I73 uO = I uO := f_I73.2.2.2 v0 12 55 uO kv0 huO_1 (by rw [kuO.2]; rfl) rfl (by decide)
            have ao_I73_uM : I73 uM = I uM := f_I73.2.2.2 v0 12 56 uM kv0 huM_1 (by rw [kuM.2]; rfl) rfl (by decide)
            have ao_I73_uP : I73 uP = I uP := f_I73.2.2.2 v0 12 61 uP kv0 huP_1 (by rw [kuP.2]; rfl) rfl (by decide)
            have ao_I73_uR : I73 uR = I uR := f_I73.2.2.2 v0 12 44 uR kv0 huR_1 (by rw [kuR.2]; rfl) rfl (by decide)
            have u76 : (I73 uM (v5.toNatClampNeg)).toInt = (I uM (v5.toNatClampNeg)).toInt := by rw [f_I73.2.2.2 v0 12 56 uM kv0 huM_1 (by rw [kuM.2]; rfl) rfl (by decide)]
            have u77 : (I73 uP (v5.toNatClampNeg)).toInt = (I uP (v5.toNatClampNeg)).toInt := by rw [f_I73.2.2.2 v0 12 61 uP kv0 huP_1 (by rw [kuP.2]; rfl) rfl (by decide)]
            have u78 : (I73 v0 0).toInt = (I v0 0).toInt := by rw [f_I73.2.2.1 v0 12 0 kv0 (by decide) (by decide)]
            have u79 : (I73 v0 8).toInt = (I v0 8).toInt := by rw [f_I73.2.2.1 v0 12 8 kv0 (by decide) (by decide)]
            have sg9 : SGo (I73 uG) = SGo (I uG) + 1 := SGo_up (p := v5.toNatClampNeg) (by omega) ao_I73_uG (by omega)
            intro b80 eb80
            obtain rfl : uG = b80 := Option.some.inj (huG_1.symm.trans eb80)
            have o81 : vp_in v5 6 := vi_of rfl (by omega) (by omega)
            refine ⟨o81, ?_⟩
            have t82 : 0 ≤ (I73 uG v5.toNatClampNeg).toInt ∧ (I73 uG v5.toNatClampNeg).toInt ≤ 24 := w_I73.arr 12 57 kv0 huG_1 kuG rfl rfl _
            intro b83 eb83
            obtain rfl : uM = b83 := Option.some.inj (huM_1.symm.trans eb83)
            have o84 : vp_in v5 6 := vi_of rfl (by omega) (by omega)
            refine ⟨o84, ?_⟩
            have t85 : 0 ≤ (I73 uM v5.toNatClampNeg).toInt ∧ (I73 uM v5.toNatClampNeg).toInt ≤ 24 := w_I73.arr 12 56 kv0 huM_1 kuM rfl rfl _
            refine ⟨fun c86 => ?_, fun c86 => ?_⟩
            · skip
              first | (have t87 : ¬ ((I73 uG v5.toNatClampNeg).toInt = (I73 uM v5.toNatClampNeg).toInt) := (not_congr (i_eq rfl rfl)).mp c86) | (have t87 : ¬ ((I73 uG v5.toNatClampNeg).toInt = (I73 uM v5.toNatClampNeg).toInt) := (not_congr (i_eq rfl rfl)).mp c86) | skip
              unfold f_X12_runFeast_b336
              intro x88 ex88
              have rx88 := i_rng x88
              first | (have tx88 : x88.toInt = (v2.toInt - (0)) := by (rw [ex88]; exact (i_sub rfl (show (0 : Int32).toInt = 0 from rfl) (by omega) (by omega)))) | (have tx88 : x88.toInt = (v2 - (0 : Int32)).toInt := by rw [ex88])
              unfold f_X12_runFeast_b338
              first | (have sg8 : SGo (I73 uG) = SGo (I uG) := congrArg SGo rfl) | skip
              intro x89 ex89
              have rx89 := i_rng x89
              first | (have tx89 : x89.toInt = v5.toInt + (1) := by (rw [ex89]; exact (i_add rfl (show (1 : Int32).toInt = 1 from rfl) (by omega) (by omega)))) | skip
              exact ih x88 x89 Z I73 L w_I73 bd_Z q_I73 cp_Z   (by first | (rw [ao_I73_uO, ao_I73_uM, ao_I73_uP, rfl]; exact ⟨by omega, li1, MIn_wait li2 (by omega) (by omega)⟩) | (rw [ao_I73_uO, ao_I73_uM, ao_I73_uP]; have hb := BSt_move (p := v5.toNatClampNeg) (G' := I73 uG) (lf' := x88.toInt) li1 (by omega) ao_I73_uG (by omega) (by omega) (by omega); have hb1 := hb.1; have hb2 := CNT_rng (G := I73 uG) (M := I uM) (n := (I0 v0 8).toInt.toNat); have sgl : SGo (I73 uG) ≤ 144 := SGo_le (fun q => w_I73.arr 12 57 kv0 huG_1 kuG rfl rfl q); exact ⟨by omega, hb, MIn_move (p := v5.toNatClampNeg) li2 hm138 nv5 (by omega) (by omega) (by omega) ao_I73_uG (by omega)⟩) | (exact ⟨by omega, li1, MIn_skip (p := v5.toNatClampNeg) li2 nv5 (by omega) (by omega)⟩) | (exact ⟨by omega, li1, li2⟩)) (by omega) (by omega) (by omega)
            · skip
              first | (have t90 : (I73 uG v5.toNatClampNeg).toInt = (I73 uM v5.toNatClampNeg).toInt := (i_eq rfl rfl).mp c86) | (have t90 : (I73 uG v5.toNatClampNeg).toInt = (I73 uM v5.toNatClampNeg).toInt := (i_eq rfl rfl).mp c86) | skip
              unfold f_X12_runFeast_b336
              intro x91 ex91
              have rx91 := i_rng x91
              first | (have tx91 : x91.toInt = (v2.toInt - (1)) := by (rw [ex91]; exact (i_sub rfl (show (1 : Int32).toInt = 1 from rfl) (by omega) (by omega)))) | (have tx91 : x91.toInt = (v2 - (1 : Int32)).toInt := by rw [ex91])
              unfold f_X12_runFeast_b338
              first | (have sg8 : SGo (I73 uG) = SGo (I uG) := congrArg SGo rfl) | skip
              intro x92 ex92
              have rx92 := i_rng x92
              first | (have tx92 : x92.toInt = v5.toInt + (1) := by (rw [ex92]; exact (i_add rfl (show (1 : Int32).toInt = 1 from rfl) (by omega) (by omega)))) | skip
              exact ih x91 x92 Z I73 L w_I73 bd_Z q_I73 cp_Z   (by first | (rw [ao_I73_uO, ao_I73_uM, ao_I73_uP, rfl]; exact ⟨by omega, li1, MIn_wait li2 (by omega) (by omega)⟩) | (rw [ao_I73_uO, ao_I73_uM, ao_I73_uP]; have hb := BSt_move (p := v5.toNatClampNeg) (G' := I73 uG) (lf' := x91.toInt) li1 (by omega) ao_I73_uG (by omega) (by omega) (by omega); have hb1 := hb.1; have hb2 := CNT_rng (G := I73 uG) (M := I uM) (n := (I0 v0 8).toInt.toNat); have sgl : SGo (I73 uG) ≤ 144 := SGo_le (fun q => w_I73.arr 12 57 kv0 huG_1 kuG rfl rfl q); exact ⟨by omega, hb, MIn_move (p := v5.toNatClampNeg) li2 hm138 nv5 (by omega) (by omega) (by omega) ao_I73_uG (by omega)⟩) | (exact ⟨by omega, li1, MIn_skip (p := v5.toNatClampNeg) li2 nv5 (by omega) (by omega)⟩) | (exact ⟨by omega, li1, li2⟩)) (by omega) (by omega) (by omega)
          · skip
            first | (have t93 : ¬ (r65.toInt < v1.toInt) := (not_congr (i_lt rfl rfl)).mp c67) | (have t93 : ¬ (r65.toInt < v1.toInt) := (not_congr (i_lt rfl rfl)).mp c67) | skip
            intro b94 eb94
            obtain ⟨x95, ex95, kb94, lb94⟩ := sh_f w_I.1 kv0 (j := 58) (k := 14) (m := 6) rfl
            cases eb94.symm.trans ex95
            have o96 : vp_in v5 6 := vi_of rfl (by omega) (by omega)
            refine ⟨o96, ?_⟩
            have o97 : vp_in v5 6 := vi_of rfl (by omega) (by omega)
            refine ⟨o97, ?_⟩
            intro I98 eI98
            try (have t99 : ((I b94 v5.toNatClampNeg) + (1 : Int32)).toInt = ((I b94 v5.toNatClampNeg).toInt + (1)) := (i_add rfl (show (1 : Int32).toInt = 1 from rfl) (by omega) (by omega)))
            have w_I98 : WD Z I98 := by rw [eI98]; exact WD_putA w_I 12 58 kv0 eb94 kb94 rfl rfl (by decide) trivial
            have f_I98 : FR [(12, 58)] Z I Z I98 := by rw [eI98]; exact FR_upA w_I.2.1 kv0 eb94 kb94 rfl rfl List.mem_cons_self
            have q_I98 : FR Ws_X12_runFeast Z0 I0 Z I98 := q_I.trans w0.1 w0.2.1 (f_I98.mono (by decide))
            have ao_I98_uO : I98 uO = I uO := f_I98.2.2.2 v0 12 55 uO kv0 huO_1 (by rw [kuO.2]; rfl) rfl (by decide)
            have ao_I98_uM : I98 uM = I uM := f_I98.2.2.2 v0 12 56 uM kv0 huM_1 (by rw [kuM.2]; rfl) rfl (by decide)
            have ao_I98_uG : I98 uG = I uG := f_I98.2.2.2 v0 12 57 uG kv0 huG_1 (by rw [kuG.2]; rfl) rfl (by decide)
            have ao_I98_uP : I98 uP = I uP := f_I98.2.2.2 v0 12 61 uP kv0 huP_1 (by rw [kuP.2]; rfl) rfl (by decide)
            have ao_I98_uR : I98 uR = I uR := f_I98.2.2.2 v0 12 44 uR kv0 huR_1 (by rw [kuR.2]; rfl) rfl (by decide)
            have u100 : (I98 uM (v5.toNatClampNeg)).toInt = (I uM (v5.toNatClampNeg)).toInt := by rw [f_I98.2.2.2 v0 12 56 uM kv0 huM_1 (by rw [kuM.2]; rfl) rfl (by decide)]
            have u101 : (I98 uG (v5.toNatClampNeg)).toInt = (I uG (v5.toNatClampNeg)).toInt := by rw [f_I98.2.2.2 v0 12 57 uG kv0 huG_1 (by rw [kuG.2]; rfl) rfl (by decide)]
            have u102 : (I98 uP (v5.toNatClampNeg)).toInt = (I uP (v5.toNatClampNeg)).toInt := by rw [f_I98.2.2.2 v0 12 61 uP kv0 huP_1 (by rw [kuP.2]; rfl) rfl (by decide)]
            have u103 : (I98 v0 0).toInt = (I v0 0).toInt := by rw [f_I98.2.2.1 v0 12 0 kv0 (by decide) (by decide)]
            have u104 : (I98 v0 8).toInt = (I v0 8).toInt := by rw [f_I98.2.2.1 v0 12 8 kv0 (by decide) (by decide)]
            intro b105 eb105
            obtain ⟨x106, ex106, kb105, lb105⟩ := sh_f w_I98.1 kv0 (j := 59) (k := 14) (m := 24) rfl
            cases eb105.symm.trans ex106
            have o107 : vp_in x35 24 := vi_of rfl (by omega) (by omega)
            refine ⟨o107, ?_⟩
            have o108 : vp_in x35 24 := vi_of rfl (by omega) (by omega)
            refine ⟨o108, ?_⟩
            intro I109 eI109
            try (have t110 : ((I98 b105 x35.toNatClampNeg) + (1 : Int32)).toInt = ((I98 b105 x35.toNatClampNeg).toInt + (1)) := (i_add rfl (show (1 : Int32).toInt = 1 from rfl) (by omega) (by omega)))
            have w_I109 : WD Z I109 := by rw [eI109]; exact WD_putA w_I98 12 59 kv0 eb105 kb105 rfl rfl (by decide) trivial
            have f_I109 : FR [(12, 59)] Z I98 Z I109 := by rw [eI109]; exact FR_upA w_I98.2.1 kv0 eb105 kb105 rfl rfl List.mem_cons_self
            have q_I109 : FR Ws_X12_runFeast Z0 I0 Z I109 := q_I98.trans w0.1 w0.2.1 (f_I109.mono (by decide))
            have ao_I109_uO : I109 uO = I uO := (f_I109.2.2.2 v0 12 55 uO kv0 huO_1 (by rw [kuO.2]; rfl) rfl (by decide)).trans ao_I98_uO
            have ao_I109_uM : I109 uM = I uM := (f_I109.2.2.2 v0 12 56 uM kv0 huM_1 (by rw [kuM.2]; rfl) rfl (by decide)).trans ao_I98_uM
            have ao_I109_uG : I109 uG = I uG := (f_I109.2.2.2 v0 12 57 uG kv0 huG_1 (by rw [kuG.2]; rfl) rfl (by decide)).trans ao_I98_uG
            have ao_I109_uP : I109 uP = I uP := (f_I109.2.2.2 v0 12 61 uP kv0 huP_1 (by rw [kuP.2]; rfl) rfl (by decide)).trans ao_I98_uP
            have ao_I109_uR : I109 uR = I uR := (f_I109.2.2.2 v0 12 44 uR kv0 huR_1 (by rw [kuR.2]; rfl) rfl (by decide)).trans ao_I98_uR
            have u111 : (I109 uM (v5.toNatClampNeg)).toInt = (I98 uM (v5.toNatClampNeg)).toInt := by rw [f_I109.2.2.2 v0 12 56 uM kv0 huM_1 (by rw [kuM.2]; rfl) rfl (by decide)]
            have u112 : (I109 uG (v5.toNatClampNeg)).toInt = (I98 uG (v5.toNatClampNeg)).toInt := by rw [f_I109.2.2.2 v0 12 57 uG kv0 huG_1 (by rw [kuG.2]; rfl) rfl (by decide)]
            have u113 : (I109 uP (v5.toNatClampNeg)).toInt = (I98 uP (v5.toNatClampNeg)).toInt := by rw [f_I109.2.2.2 v0 12 61 uP kv0 huP_1 (by rw [kuP.2]; rfl) rfl (by decide)]
            have u114 : (I109 v0 0).toInt = (I98 v0 0).toInt := by rw [f_I109.2.2.1 v0 12 0 kv0 (by decide) (by decide)]
            have u115 : (I109 v0 8).toInt = (I98 v0 8).toInt := by rw [f_I109.2.2.1 v0 12 8 kv0 (by decide) (by decide)]
            unfold f_X12_runFeast_b338
            first | (have sg8 : SGo (I109 uG) = SGo (I uG) := congrArg SGo ao_I109_uG) | skip
            intro x116 ex116
            have rx116 := i_rng x116
            first | (have tx116 : x116.toInt = v5.toInt + (1) := by (rw [ex116]; exact (i_add rfl (show (1 : Int32).toInt = 1 from rfl) (by omega) (by omega)))) | skip
            exact ih v2 x116 Z I109 L w_I109 bd_Z q_I109 cp_Z   (by first | (rw [ao_I109_uO, ao_I109_uM, ao_I109_uP, ao_I109_uG]; exact ⟨by omega, li1, MIn_wait li2 (by omega) (by omega)⟩) | (rw [ao_I109_uO, ao_I109_uM, ao_I109_uP]; have hb := BSt_move (p := v5.toNatClampNeg) (G' := I109 uG) (lf' := v2.toInt) li1 (by omega) (fun q _ => congrFun ao_I109_uG q) (by omega) (by omega) (by omega); have hb1 := hb.1; have hb2 := CNT_rng (G := I109 uG) (M := I uM) (n := (I0 v0 8).toInt.toNat); have sgl : SGo (I109 uG) ≤ 144 := SGo_le (fun q => w_I109.arr 12 57 kv0 huG_1 kuG rfl rfl q); exact ⟨by omega, hb, MIn_move (p := v5.toNatClampNeg) li2 hm138 nv5 (by omega) (by omega) (by omega) (fun q _ => congrFun ao_I109_uG q) (by omega)⟩) | (exact ⟨by omega, li1, MIn_skip (p := v5.toNatClampNeg) li2 nv5 (by omega) (by omega)⟩) | (exact ⟨by omega, li1, li2⟩)) (by omega) (by omega) (by omega)
      · skip
        first | (have t117 : ¬ ((I uP v5.toNatClampNeg).toInt = v4.toInt) := (not_congr (i_eq rfl rfl)).mp c27) | (have t117 : ¬ ((I uP v5.toNatClampNeg).toInt = v4.toInt) := (not_congr (i_eq rfl rfl)).mp c27) | skip
        unfold f_X12_runFeast_b338
        first | (have sg8 : SGo (I uG) = SGo (I uG) := congrArg SGo rfl) | skip
        intro x118 ex118
        have rx118 := i_rng x118
        first | (have tx118 : x118.toInt = v5.toInt + (1) := by (rw [ex118]; exact (i_add rfl (show (1 : Int32).toInt = 1 from rfl) (by omega) (by omega)))) | skip
        exact ih v2 x118 Z I L w_I bd_Z q_I cp_Z   (by first | (rw [rfl, rfl, rfl, rfl]; exact ⟨by omega, li1, MIn_wait li2 (by omega) (by omega)⟩) | (rw [rfl, rfl, rfl]; have hb := BSt_move (p := v5.toNatClampNeg) (G' := I uG) (lf' := v2.toInt) li1 (by omega) (fun _ _ => rfl) (by omega) (by omega) (by omega); have hb1 := hb.1; have hb2 := CNT_rng (G := I uG) (M := I uM) (n := (I0 v0 8).toInt.toNat); have sgl : SGo (I uG) ≤ 144 := SGo_le (fun q => w_I.arr 12 57 kv0 huG_1 kuG rfl rfl q); exact ⟨by omega, hb, MIn_move (p := v5.toNatClampNeg) li2 hm138 nv5 (by omega) (by omega) (by omega) (fun _ _ => rfl) (by omega)⟩) | (exact ⟨by omega, li1, MIn_skip (p := v5.toNatClampNeg) li2 nv5 (by omega) (by omega)⟩) | (exact ⟨by omega, li1, li2⟩)) (by omega) (by omega) (by omega)
set_option maxHeartbeats 4000000 in
set_option maxRecDepth 100000 in
theorem l_X12_runFeast_L203 {B : Nat × Nat} {T : Nat} {Z0 : jZ} {I0 : jI} {Q : Int32 → jZ → jI → jL → Prop} (w0 : WD Z0 I0) (v0 : Nat) (v1 : Int32) (kv0 : jk Z0 v0 12) (uO : Nat) (huO : jr Z0 v0 55 = some uO) (uM : Nat) (huM : jr Z0 v0 56 = some uM) (uG : Nat) (huG : jr Z0 v0 57 = some uG) (uP : Nat) (huP : jr Z0 v0 61 = some uP) (uR : Nat) (huR : jr Z0 v0 44 = some uR) (p0 : 1 ≤ (I0 v0 0).toInt) (p1 : 1 ≤ v1.toInt) (v3 : Int32) (hQ : ∀ (r : Int32) (Z' : jZ) (I' : jI) (L' : jL), WD Z' I' → BUD B Z' T → FR Ws_X12_runFeast Z0 I0 Z' I' → CP Z0 Z' → Q r Z' I' L') {K138 : Nat → Int32 → Int32 → Int32 → jZ → jI → jL → Prop} {N138 : Int} (hK138 : ∀ (v2 : Int32) (v3 : Int32) (Z : jZ) (I : jI) (L : jL), WD Z I → BUD B Z T → FR Ws_X12_runFeast Z0 I0 Z I → CP Z0 Z →   ((0 ≤ v2.toInt ∧ v2.toInt ≤ 6 ∧ SGo (I uG) ≤ 144) ∧ BSt (I0 v0 0).toInt (I0 v0 8).toInt (I uO) (I uM) (I uG) v2.toInt) → 144 - SGo (I uG) < N138 → K138 v0 v1 v2 v3 Z I L) : ∀ (n : Nat) (v2 : Int32) (v4 : Int32) (Z : jZ) (I : jI) (L : jL), WD Z I → BUD B Z T → FR Ws_X12_runFeast Z0 I0 Z I → CP Z0 Z →   ((-2 ≤ v4.toInt ∧ v4.toInt ≤ 23 ∧ 0 ≤ v2.toInt ∧ v2.toInt ≤ 6 ∧ SGo (I uG) ≤ 144) ∧ BSt (I0 v0 0).toInt (I0 v0 8).toInt (I uO) (I uM) (I uG) v2.toInt ∧ MIn N138 (I0 v0 8).toInt (I uO) (I uM) (I uG) (I uP) v4.toInt 0 v2.toInt) → 144 - SGo (I uG) ≤ N138 → v4.toInt + 2 < (n : Int) → f_X12_runFeast_L203 B K138 Q n v0 v1 v2 v3 v4 Z I L := by
  intro n
  induction n with
  | zero =>
    intro v2 v4 Z I L w_I bd_Z q_I cp_Z   li hm138 me
    exfalso
    omega
  | succ n ih =>
    intro v2 v4 Z I L w_I bd_Z q_I cp_Z   li hm138 me
    unfold f_X12_runFeast_L203
    have rv2 := i_rng v2
    have rv4 := i_rng v4
    have rv3 := i_rng v3
    have rv1 := i_rng v1
    obtain ⟨li0, li1, li2⟩ := li
    have kv0_0 := kv0
    have kv0 := (q_I.1 _ _ kv0).1
    have t119 : 0 ≤ (I v0 0).toInt ∧ (I v0 0).toInt ≤ 24 := w_I.fld 12 0 kv0 (by decide)
    have t120 : 0 ≤ (I v0 8).toInt ∧ (I v0 8).toInt ≤ 6 := w_I.fld 12 8 kv0 (by decide)
    have huO_1 : jr Z v0 55 = some uO := (q_I.2.1 v0 12 55 kv0_0 (by decide) (by decide)).trans huO
    have luO : jlen Z uO = 144 := by obtain ⟨b9, e9, -, l9⟩ := sh_f w_I.1 kv0 (j := 55) (k := 14) (m := 144) rfl; cases huO_1.symm.trans e9; exact l9
    have kuO : jk Z uO 14 := by obtain ⟨b9, e9, k9, -⟩ := sh_f w_I.1 kv0 (j := 55) (k := 14) (m := 144) rfl; cases huO_1.symm.trans e9; exact k9
    have huM_1 : jr Z v0 56 = some uM := (q_I.2.1 v0 12 56 kv0_0 (by decide) (by decide)).trans huM
    have luM : jlen Z uM = 6 := by obtain ⟨b9, e9, -, l9⟩ := sh_f w_I.1 kv0 (j := 56) (k := 14) (m := 6) rfl; cases huM_1.symm.trans e9; exact l9
    have kuM : jk Z uM 14 := by obtain ⟨b9, e9, k9, -⟩ := sh_f w_I.1 kv0 (j := 56) (k := 14) (m := 6) rfl; cases huM_1.symm.trans e9; exact k9
    have huG_1 : jr Z v0 57 = some uG := (q_I.2.1 v0 12 57 kv0_0 (by decide) (by decide)).trans huG
    have luG : jlen Z uG = 6 := by obtain ⟨b9, e9, -, l9⟩ := sh_f w_I.1 kv0 (j := 57) (k := 14) (m := 6) rfl; cases huG_1.symm.trans e9; exact l9
    have kuG : jk Z uG 14 := by obtain ⟨b9, e9, k9, -⟩ := sh_f w_I.1 kv0 (j := 57) (k := 14) (m := 6) rfl; cases huG_1.symm.trans e9; exact k9
    have huP_1 : jr Z v0 61 = some uP := (q_I.2.1 v0 12 61 kv0_0 (by decide) (by decide)).trans huP
    have luP : jlen Z uP = 6 := by obtain ⟨b9, e9, -, l9⟩ := sh_f w_I.1 kv0 (j := 61) (k := 14) (m := 6) rfl; cases huP_1.symm.trans e9; exact l9
    have kuP : jk Z uP 14 := by obtain ⟨b9, e9, k9, -⟩ := sh_f w_I.1 kv0 (j := 61) (k := 14) (m := 6) rfl; cases huP_1.symm.trans e9; exact k9
    have huR_1 : jr Z v0 44 = some uR := (q_I.2.1 v0 12 44 kv0_0 (by decide) (by decide)).trans huR
    have luR : jlen Z uR = 24 := by obtain ⟨b9, e9, -, l9⟩ := sh_f w_I.1 kv0 (j := 44) (k := 14) (m := 24) rfl; cases huR_1.symm.trans e9; exact l9
    have kuR : jk Z uR 14 := by obtain ⟨b9, e9, k9, -⟩ := sh_f w_I.1 kv0 (j := 44) (k := 14) (m := 24) rfl; cases huR_1.symm.trans e9; exact k9
    have xq_I := q_I.1
    have e0 : (I v0 0).toInt = (I0 v0 0).toInt := by rw [q_I.2.2.1 v0 12 0 kv0_0 (by decide) (by decide)]
    have e8 : (I v0 8).toInt = (I0 v0 8).toInt := by rw [q_I.2.2.1 v0 12 8 kv0_0 (by decide) (by decide)]
    have h80 : 0 ≤ (I0 v0 8).toInt ∧ (I0 v0 8).toInt ≤ 6 := w0.fld 12 8 kv0_0 (by decide)
    have h00 : 0 ≤ (I0 v0 0).toInt ∧ (I0 v0 0).toInt ≤ 24 := w0.fld 12 0 kv0_0 (by decide)
    have okO : ∀ q, 0 ≤ (I uO q).toInt := fun q => (show 0 ≤ (I uO q).toInt ∧ (I uO q).toInt ≤ 23 from w_I.arr 12 55 kv0 huO_1 kuO rfl rfl q).1
    have okGG : ∀ q, 0 ≤ (I uG q).toInt ∧ (I uG q).toInt ≤ 24 := fun q => w_I.arr 12 57 kv0 huG_1 kuG rfl rfl q
    have okMM : ∀ q, 0 ≤ (I uM q).toInt ∧ (I uM q).toInt ≤ 24 := fun q => w_I.arr 12 56 kv0 huM_1 kuM rfl rfl q
    have okG : ∀ q, 0 ≤ (I uG q).toInt := fun q => (okGG q).1
    refine ⟨fun c121 => ?_, fun c121 => ?_⟩
    · skip
      first | (have t122 : v4.toInt < (-1) := (i_lt rfl (show (-1 : Int32).toInt = -1 from rfl)).mp c121) | (have t122 : v4.toInt < (-1 : Int32).toInt := (i_lt rfl rfl).mp c121) | skip
      have t123 : (0 : Int32).toInt = 0 := rfl
      exact ⟨(24 - (0 : Int32).toInt).toNat + 1, l_X12_runFeast_L353 w0 v0 v1 kv0_0 uO huO uM huM uG huG uP huP uR huR p0 p1 v2 v3  hQ hK138  _ (0 : Int32) Z I L w_I bd_Z q_I cp_Z   (by first | (rw [rfl, rfl, rfl]; exact ⟨by omega, li1⟩) | (have me9 := MIn_end li2 li1 (by omega) okO okG (by omega); exact ⟨by omega, li1⟩)) (by omega) (by omega)⟩
    · skip
      first | (have t124 : ¬ (v4.toInt < (-1)) := (not_congr (i_lt rfl (show (-1 : Int32).toInt = -1 from rfl))).mp c121) | (have t124 : ¬ (v4.toInt < (-1 : Int32).toInt) := (not_congr (i_lt rfl rfl)).mp c121) | skip
      have t125 : (0 : Int32).toInt = 0 := rfl
      exact ⟨(6 - (0 : Int32).toInt).toNat + 1, l_X12_runFeast_L212 w0 v0 v1 kv0_0 uO huO uM huM uG huG uP huP uR huR p0 p1 v3 v4  hQ hK138 ih  _ v2 (0 : Int32) Z I L w_I bd_Z q_I cp_Z   (by first | (rw [rfl, rfl, rfl, rfl]; exact ⟨by omega, li1, MIn_wait li2 (by omega) (by omega)⟩) | (rw [rfl, rfl, rfl]; have hb := BSt_move (p := v5.toNatClampNeg) (G' := I uG) (lf' := v2.toInt) li1 (by omega) (fun _ _ => rfl) (by omega) (by omega) (by omega); have hb1 := hb.1; have hb2 := CNT_rng (G := I uG) (M := I uM) (n := (I0 v0 8).toInt.toNat); have sgl : SGo (I uG) ≤ 144 := SGo_le (fun q => w_I.arr 12 57 kv0 huG_1 kuG rfl rfl q); exact ⟨by omega, hb, MIn_move (p := v5.toNatClampNeg) li2 hm138 nv5 (by omega) (by omega) (by omega) (fun _ _ => rfl) (by omega)⟩) | (exact ⟨by omega, li1, MIn_skip (p := v5.toNatClampNeg) li2 nv5 (by omega) (by omega)⟩) | (exact ⟨by omega, li1, li2⟩)) (by omega) (by omega) (by omega)⟩
set_option maxHeartbeats 4000000 in
set_option maxRecDepth 100000 in
theorem l_X12_runFeast_L145 {B : Nat × Nat} {T : Nat} {Z0 : jZ} {I0 : jI} {Q : Int32 → jZ → jI → jL → Prop} (w0 : WD Z0 I0) (v0 : Nat) (v1 : Int32) (kv0 : jk Z0 v0 12) (uO : Nat) (huO : jr Z0 v0 55 = some uO) (uM : Nat) (huM : jr Z0 v0 56 = some uM) (uG : Nat) (huG : jr Z0 v0 57 = some uG) (uP : Nat) (huP : jr Z0 v0 61 = some uP) (uR : Nat) (huR : jr Z0 v0 44 = some uR) (p0 : 1 ≤ (I0 v0 0).toInt) (p1 : 1 ≤ v1.toInt) (v2 : Int32) (v3 : Int32) (hQ : ∀ (r : Int32) (Z' : jZ) (I' : jI) (L' : jL), WD Z' I' → BUD B Z' T → FR Ws_X12_runFeast Z0 I0 Z' I' → CP Z0 Z' → Q r Z' I' L') {K138 : Nat → Int32 → Int32 → Int32 → jZ → jI → jL → Prop} {N138 : Int} (hK138 : ∀ (v2 : Int32) (v3 : Int32) (Z : jZ) (I : jI) (L : jL), WD Z I → BUD B Z T → FR Ws_X12_runFeast Z0 I0 Z I → CP Z0 Z →   ((0 ≤ v2.toInt ∧ v2.toInt ≤ 6 ∧ SGo (I uG) ≤ 144) ∧ BSt (I0 v0 0).toInt (I0 v0 8).toInt (I uO) (I uM) (I uG) v2.toInt) → 144 - SGo (I uG) < N138 → K138 v0 v1 v2 v3 Z I L) : ∀ (n : Nat) (v4 : Int32) (Z : jZ) (I : jI) (L : jL), WD Z I → BUD B Z T → FR Ws_X12_runFeast Z0 I0 Z I → CP Z0 Z →   ((0 ≤ v4.toInt ∧ v4.toInt ≤ 6 ∧ 0 < v2.toInt ∧ v2.toInt ≤ 6 ∧ SGo (I uG) ≤ 144) ∧ BSt (I0 v0 0).toInt (I0 v0 8).toInt (I uO) (I uM) (I uG) v2.toInt ∧ (∀ i : Nat, (i : Int) < v4.toInt → (I uP i).toInt = if (I uG i).toInt < (I uM i).toInt then PLC (I uO) (I uG) i else -2)) → 144 - SGo (I uG) ≤ N138 → 6 - v4.toInt < (n : Int) → f_X12_runFeast_L145 B K138 Q n v0 v1 v2 v3 v4 Z I L := by
  intro n
  induction n with
  | zero =>
    intro v4 Z I L w_I bd_Z q_I cp_Z   li hm138 me
    exfalso
    omega
  | succ n ih =>
    intro v4 Z I L w_I bd_Z q_I cp_Z   li hm138 me
    unfold f_X12_runFeast_L145
    have rv4 := i_rng v4
    have rv2 := i_rng v2
    have rv3 := i_rng v3
    have rv1 := i_rng v1
    obtain ⟨li0, li1, li2⟩ := li
    have kv0_0 := kv0
    have kv0 := (q_I.1 _ _ kv0).1
    have t126 : 0 ≤ (I v0 0).toInt ∧ (I v0 0).toInt ≤ 24 := w_I.fld 12 0 kv0 (by decide)
    have t127 : 0 ≤ (I v0 8).toInt ∧ (I v0 8).toInt ≤ 6 := w_I.fld 12 8 kv0 (by decide)
    have huO_1 : jr Z v0 55 = some uO := (q_I.2.1 v0 12 55 kv0_0 (by decide) (by decide)).trans huO
    have luO : jlen Z uO = 144 := by obtain ⟨b9, e9, -, l9⟩ := sh_f w_I.1 kv0 (j := 55) (k := 14) (m := 144) rfl; cases huO_1.symm.trans e9; exact l9
    have kuO : jk Z uO 14 := by obtain ⟨b9, e9, k9, -⟩ := sh_f w_I.1 kv0 (j := 55) (k := 14) (m := 144) rfl; cases huO_1.symm.trans e9; exact k9
    have huM_1 : jr Z v0 56 = some uM := (q_I.2.1 v0 12 56 kv0_0 (by decide) (by decide)).trans huM
    have luM : jlen Z uM = 6 := by obtain ⟨b9, e9, -, l9⟩ := sh_f w_I.1 kv0 (j := 56) (k := 14) (m := 6) rfl; cases huM_1.symm.trans e9; exact l9
    have kuM : jk Z uM 14 := by obtain ⟨b9, e9, k9, -⟩ := sh_f w_I.1 kv0 (j := 56) (k := 14) (m := 6) rfl; cases huM_1.symm.trans e9; exact k9
    have huG_1 : jr Z v0 57 = some uG := (q_I.2.1 v0 12 57 kv0_0 (by decide) (by decide)).trans huG
    have luG : jlen Z uG = 6 := by obtain ⟨b9, e9, -, l9⟩ := sh_f w_I.1 kv0 (j := 57) (k := 14) (m := 6) rfl; cases huG_1.symm.trans e9; exact l9
    have kuG : jk Z uG 14 := by obtain ⟨b9, e9, k9, -⟩ := sh_f w_I.1 kv0 (j := 57) (k := 14) (m := 6) rfl; cases huG_1.symm.trans e9; exact k9
    have huP_1 : jr Z v0 61 = some uP := (q_I.2.1 v0 12 61 kv0_0 (by decide) (by decide)).trans huP
    have luP : jlen Z uP = 6 := by obtain ⟨b9, e9, -, l9⟩ := sh_f w_I.1 kv0 (j := 61) (k := 14) (m := 6) rfl; cases huP_1.symm.trans e9; exact l9
    have kuP : jk Z uP 14 := by obtain ⟨b9, e9, k9, -⟩ := sh_f w_I.1 kv0 (j := 61) (k := 14) (m := 6) rfl; cases huP_1.symm.trans e9; exact k9
    have huR_1 : jr Z v0 44 = some uR := (q_I.2.1 v0 12 44 kv0_0 (by decide) (by decide)).trans huR
    have luR : jlen Z uR = 24 := by obtain ⟨b9, e9, -, l9⟩ := sh_f w_I.1 kv0 (j := 44) (k := 14) (m := 24) rfl; cases huR_1.symm.trans e9; exact l9
    have kuR : jk Z uR 14 := by obtain ⟨b9, e9, k9, -⟩ := sh_f w_I.1 kv0 (j := 44) (k := 14) (m := 24) rfl; cases huR_1.symm.trans e9; exact k9
    have xq_I := q_I.1
    have e0 : (I v0 0).toInt = (I0 v0 0).toInt := by rw [q_I.2.2.1 v0 12 0 kv0_0 (by decide) (by decide)]
    have e8 : (I v0 8).toInt = (I0 v0 8).toInt := by rw [q_I.2.2.1 v0 12 8 kv0_0 (by decide) (by decide)]
    have h80 : 0 ≤ (I0 v0 8).toInt ∧ (I0 v0 8).toInt ≤ 6 := w0.fld 12 8 kv0_0 (by decide)
    have h00 : 0 ≤ (I0 v0 0).toInt ∧ (I0 v0 0).toInt ≤ 24 := w0.fld 12 0 kv0_0 (by decide)
    have okO : ∀ q, 0 ≤ (I uO q).toInt := fun q => (show 0 ≤ (I uO q).toInt ∧ (I uO q).toInt ≤ 23 from w_I.arr 12 55 kv0 huO_1 kuO rfl rfl q).1
    have okGG : ∀ q, 0 ≤ (I uG q).toInt ∧ (I uG q).toInt ≤ 24 := fun q => w_I.arr 12 57 kv0 huG_1 kuG rfl rfl q
    have okMM : ∀ q, 0 ≤ (I uM q).toInt ∧ (I uM q).toInt ≤ 24 := fun q => w_I.arr 12 56 kv0 huM_1 kuM rfl rfl q
    have okG : ∀ q, 0 ≤ (I uG q).toInt := fun q => (okGG q).1
    have nv4 := i_nat (x := v4) rfl (by omega)
    have t129 : 0 ≤ (I v0 8).toInt ∧ (I v0 8).toInt ≤ 6 := w_I.fld 12 8 kv0 (by decide)
    refine ⟨fun c130 => ?_, fun c130 => ?_⟩
    · skip
      first | (have t131 : (I v0 8).toInt ≤ v4.toInt := (i_le rfl rfl).mp c130) | (have t131 : (I v0 8).toInt ≤ v4.toInt := (i_le rfl rfl).mp c130) | skip
      have t133 : 0 ≤ (I v0 0).toInt ∧ (I v0 0).toInt ≤ 24 := w_I.fld 12 0 kv0 (by decide)
      intro x134 ex134
      have rx134 := i_rng x134
      first | (have tx134 : x134.toInt = ((I v0 0).toInt - (1)) := by (rw [ex134]; exact (i_sub rfl (show (1 : Int32).toInt = 1 from rfl) (by omega) (by omega)))) | (have tx134 : x134.toInt = ((I v0 0) - (1 : Int32)).toInt := by rw [ex134])
      exact ⟨(x134.toInt + 2).toNat + 1, l_X12_runFeast_L203 w0 v0 v1 kv0_0 uO huO uM huM uG huG uP huP uR huR p0 p1 v3  hQ hK138  _ v2 x134 Z I L w_I bd_Z q_I cp_Z   (by first | exact ⟨by omega, li1, MIn_next li2 (by omega) (by omega)⟩ | (refine ⟨by omega, li1, ?_⟩; rw [show x134.toInt = (I0 v0 0).toInt - 1 by omega]; exact MIn_start li1 (by omega) okO okG (fun p hp => li2 p (by omega)) (by omega))) (by omega) (by omega)⟩
    · skip
      first | (have t135 : ¬ ((I v0 8).toInt ≤ v4.toInt) := (not_congr (i_le rfl rfl)).mp c130) | (have t135 : ¬ ((I v0 8).toInt ≤ v4.toInt) := (not_congr (i_le rfl rfl)).mp c130) | skip
      intro b136 eb136
      obtain rfl : uP = b136 := Option.some.inj (huP_1.symm.trans eb136)
      intro b137 eb137
      obtain rfl : uG = b137 := Option.some.inj (huG_1.symm.trans eb137)
      have o138 : vp_in v4 6 := vi_of rfl (by omega) (by omega)
      refine ⟨o138, ?_⟩
      have t139 : 0 ≤ (I uG v4.toNatClampNeg).toInt ∧ (I uG v4.toNatClampNeg).toInt ≤ 24 := w_I.arr 12 57 kv0 huG_1 kuG rfl rfl _
      intro b140 eb140
      obtain rfl : uM = b140 := Option.some.inj (huM_1.symm.trans eb140)
      have o141 : vp_in v4 6 := vi_of rfl (by omega) (by omega)
      refine ⟨o141, ?_⟩
      have t142 : 0 ≤ (I uM v4.toNatClampNeg).toInt ∧ (I uM v4.toNatClampNeg).toInt ≤ 24 := w_I.arr 12 56 kv0 huM_1 kuM rfl rfl _
      refine ⟨fun c143 => ?_, fun c143 => ?_⟩
      · skip
        first | (have t144 : (I uM v4.toNatClampNeg).toInt ≤ (I uG v4.toNatClampNeg).toInt := (i_le rfl rfl).mp c143) | (have t144 : (I uM v4.toNatClampNeg).toInt ≤ (I uG v4.toNatClampNeg).toInt := (i_le rfl rfl).mp c143) | skip
        unfold f_X12_runFeast_b188
        have o145 : vp_in v4 (jlen Z uP) := vi_of rfl (by omega) (by omega)
        refine ⟨o145, ?_⟩
        intro I146 eI146
        have t147 : (-2 : Int32).toInt = -2 := rfl
        have w_I146 : WD Z I146 := by rw [eI146]; exact WD_putA w_I 12 61 kv0 huP_1 kuP rfl rfl (by decide) trivial
        have ao_I146_uP : ∀ q, q ≠ v4.toNatClampNeg → I146 uP q = I uP q := fun q hq => by rw [eI146]; exact jpI_off hq
        first | (have u148 : (I146 uP (v4.toNatClampNeg)).toInt = (-2) := by (rw [eI146, show jpI I uP v4.toNatClampNeg (-2 : Int32) uP v4.toNatClampNeg = (-2 : Int32) from jpI_at] <;> exact (show (-2 : Int32).toInt = -2 from rfl))) | skip
        have f_I146 : FR [(12, 61)] Z I Z I146 := by rw [eI146]; exact FR_upA w_I.2.1 kv0 huP_1 kuP rfl rfl List.mem_cons_self
        have q_I146 : FR Ws_X12_runFeast Z0 I0 Z I146 := q_I.trans w0.1 w0.2.1 (f_I146.mono (by decide))
        have ao_I146_uO : I146 uO = I uO := f_I146.2.2.2 v0 12 55 uO kv0 huO_1 (by rw [kuO.2]; rfl) rfl (by decide)
        have ao_I146_uM : I146 uM = I uM := f_I146.2.2.2 v0 12 56 uM kv0 huM_1 (by rw [kuM.2]; rfl) rfl (by decide)
        have ao_I146_uG : I146 uG = I uG := f_I146.2.2.2 v0 12 57 uG kv0 huG_1 (by rw [kuG.2]; rfl) rfl (by decide)
        have ao_I146_uR : I146 uR = I uR := f_I146.2.2.2 v0 12 44 uR kv0 huR_1 (by rw [kuR.2]; rfl) rfl (by decide)
        have u149 : (I146 uG (v4.toNatClampNeg)).toInt = (I uG (v4.toNatClampNeg)).toInt := by rw [f_I146.2.2.2 v0 12 57 uG kv0 huG_1 (by rw [kuG.2]; rfl) rfl (by decide)]
        have u150 : (I146 uM (v4.toNatClampNeg)).toInt = (I uM (v4.toNatClampNeg)).toInt := by rw [f_I146.2.2.2 v0 12 56 uM kv0 huM_1 (by rw [kuM.2]; rfl) rfl (by decide)]
        have u151 : (I146 v0 0).toInt = (I v0 0).toInt := by rw [f_I146.2.2.1 v0 12 0 kv0 (by decide) (by decide)]
        have u152 : (I146 v0 8).toInt = (I v0 8).toInt := by rw [f_I146.2.2.1 v0 12 8 kv0 (by decide) (by decide)]
        first | (have sg9 : SGo (I146 uG) = SGo (I uG) := congrArg SGo ao_I146_uG) | skip
        intro x153 ex153
        have rx153 := i_rng x153
        first | (have tx153 : x153.toInt = v4.toInt + (1) := by (rw [ex153]; exact (i_add rfl (show (1 : Int32).toInt = 1 from rfl) (by omega) (by omega)))) | skip
        exact ih x153 Z I146 L w_I146 bd_Z q_I146 cp_Z   (by first | (rw [ao_I146_uO, ao_I146_uM, ao_I146_uG]; exact ⟨by omega, li1, PTn_step li2 nv4 (by omega) ao_I146_uP (by omega)⟩) | exact ⟨by omega, li1, fun i hi => absurd hi (by omega)⟩) (by omega) (by omega)
      · skip
        first | (have t154 : ¬ ((I uM v4.toNatClampNeg).toInt ≤ (I uG v4.toNatClampNeg).toInt) := (not_congr (i_le rfl rfl)).mp c143) | (have t154 : ¬ ((I uM v4.toNatClampNeg).toInt ≤ (I uG v4.toNatClampNeg).toInt) := (not_congr (i_le rfl rfl)).mp c143) | skip
        refine s9_X12_placeOf w_I v0 v4 kv0 uO huO_1 uG huG_1 (by omega) (fun r155 p156 => ?_)
        have rr155 := i_rng r155
        unfold f_X12_runFeast_b188
        have o157 : vp_in v4 (jlen Z uP) := vi_of rfl (by omega) (by omega)
        refine ⟨o157, ?_⟩
        intro I158 eI158
        have w_I158 : WD Z I158 := by rw [eI158]; exact WD_putA w_I 12 61 kv0 huP_1 kuP rfl rfl (by decide) trivial
        have ao_I158_uP : ∀ q, q ≠ v4.toNatClampNeg → I158 uP q = I uP q := fun q hq => by rw [eI158]; exact jpI_off hq
        first | (have u159 : (I158 uP (v4.toNatClampNeg)).toInt = r155.toInt := by (rw [eI158, show jpI I uP v4.toNatClampNeg r155 uP v4.toNatClampNeg = r155 from jpI_at] <;> exact rfl)) | skip
        have f_I158 : FR [(12, 61)] Z I Z I158 := by rw [eI158]; exact FR_upA w_I.2.1 kv0 huP_1 kuP rfl rfl List.mem_cons_self
        have q_I158 : FR Ws_X12_runFeast Z0 I0 Z I158 := q_I.trans w0.1 w0.2.1 (f_I158.mono (by decide))
        have ao_I158_uO : I158 uO = I uO := f_I158.2.2.2 v0 12 55 uO kv0 huO_1 (by rw [kuO.2]; rfl) rfl (by decide)
        have ao_I158_uM : I158 uM = I uM := f_I158.2.2.2 v0 12 56 uM kv0 huM_1 (by rw [kuM.2]; rfl) rfl (by decide)
        have ao_I158_uG : I158 uG = I uG := f_I158.2.2.2 v0 12 57 uG kv0 huG_1 (by rw [kuG.2]; rfl) rfl (by decide)
        have ao_I158_uR : I158 uR = I uR := f_I158.2.2.2 v0 12 44 uR kv0 huR_1 (by rw [kuR.2]; rfl) rfl (by decide)
        have u160 : (I158 uG (v4.toNatClampNeg)).toInt = (I uG (v4.toNatClampNeg)).toInt := by rw [f_I158.2.2.2 v0 12 57 uG kv0 huG_1 (by rw [kuG.2]; rfl) rfl (by decide)]
        have u161 : (I158 uM (v4.toNatClampNeg)).toInt = (I uM (v4.toNatClampNeg)).toInt := by rw [f_I158.2.2.2 v0 12 56 uM kv0 huM_1 (by rw [kuM.2]; rfl) rfl (by decide)]
        have u162 : (I158 v0 0).toInt = (I v0 0).toInt := by rw [f_I158.2.2.1 v0 12 0 kv0 (by decide) (by decide)]
        have u163 : (I158 v0 8).toInt = (I v0 8).toInt := by rw [f_I158.2.2.1 v0 12 8 kv0 (by decide) (by decide)]
        first | (have sg9 : SGo (I158 uG) = SGo (I uG) := congrArg SGo ao_I158_uG) | skip
        intro x164 ex164
        have rx164 := i_rng x164
        first | (have tx164 : x164.toInt = v4.toInt + (1) := by (rw [ex164]; exact (i_add rfl (show (1 : Int32).toInt = 1 from rfl) (by omega) (by omega)))) | skip
        exact ih x164 Z I158 L w_I158 bd_Z q_I158 cp_Z   (by first | (rw [ao_I158_uO, ao_I158_uM, ao_I158_uG]; exact ⟨by omega, li1, PTn_step li2 nv4 (by omega) ao_I158_uP (by omega)⟩) | exact ⟨by omega, li1, fun i hi => absurd hi (by omega)⟩) (by omega) (by omega)
set_option maxHeartbeats 4000000 in
set_option maxRecDepth 100000 in
theorem l_X12_runFeast_L138 {B : Nat × Nat} {T : Nat} {Z0 : jZ} {I0 : jI} {Q : Int32 → jZ → jI → jL → Prop} (w0 : WD Z0 I0) (v0 : Nat) (v1 : Int32) (kv0 : jk Z0 v0 12) (uO : Nat) (huO : jr Z0 v0 55 = some uO) (uM : Nat) (huM : jr Z0 v0 56 = some uM) (uG : Nat) (huG : jr Z0 v0 57 = some uG) (uP : Nat) (huP : jr Z0 v0 61 = some uP) (uR : Nat) (huR : jr Z0 v0 44 = some uR) (p0 : 1 ≤ (I0 v0 0).toInt) (p1 : 1 ≤ v1.toInt) (hQ : ∀ (r : Int32) (Z' : jZ) (I' : jI) (L' : jL), WD Z' I' → BUD B Z' T → FR Ws_X12_runFeast Z0 I0 Z' I' → CP Z0 Z' → Q r Z' I' L') : ∀ (n : Nat) (v2 : Int32) (v3 : Int32) (Z : jZ) (I : jI) (L : jL), WD Z I → BUD B Z T → FR Ws_X12_runFeast Z0 I0 Z I → CP Z0 Z →   ((0 ≤ v2.toInt ∧ v2.toInt ≤ 6 ∧ SGo (I uG) ≤ 144) ∧ BSt (I0 v0 0).toInt (I0 v0 8).toInt (I uO) (I uM) (I uG) v2.toInt) → 144 - SGo (I uG) < (n : Int) → f_X12_runFeast_L138 B  Q n v0 v1 v2 v3 Z I L := by
  intro n
  induction n with
  | zero =>
    intro v2 v3 Z I L w_I bd_Z q_I cp_Z   li  me
    exfalso
    omega
  | succ n ih =>
    intro v2 v3 Z I L w_I bd_Z q_I cp_Z   li  me
    unfold f_X12_runFeast_L138
    have rv2 := i_rng v2
    have rv3 := i_rng v3
    have rv1 := i_rng v1
    obtain ⟨li0, li1⟩ := li
    have kv0_0 := kv0
    have kv0 := (q_I.1 _ _ kv0).1
    have t165 : 0 ≤ (I v0 0).toInt ∧ (I v0 0).toInt ≤ 24 := w_I.fld 12 0 kv0 (by decide)
    have t166 : 0 ≤ (I v0 8).toInt ∧ (I v0 8).toInt ≤ 6 := w_I.fld 12 8 kv0 (by decide)
    have huO_1 : jr Z v0 55 = some uO := (q_I.2.1 v0 12 55 kv0_0 (by decide) (by decide)).trans huO
    have luO : jlen Z uO = 144 := by obtain ⟨b9, e9, -, l9⟩ := sh_f w_I.1 kv0 (j := 55) (k := 14) (m := 144) rfl; cases huO_1.symm.trans e9; exact l9
    have kuO : jk Z uO 14 := by obtain ⟨b9, e9, k9, -⟩ := sh_f w_I.1 kv0 (j := 55) (k := 14) (m := 144) rfl; cases huO_1.symm.trans e9; exact k9
    have huM_1 : jr Z v0 56 = some uM := (q_I.2.1 v0 12 56 kv0_0 (by decide) (by decide)).trans huM
    have luM : jlen Z uM = 6 := by obtain ⟨b9, e9, -, l9⟩ := sh_f w_I.1 kv0 (j := 56) (k := 14) (m := 6) rfl; cases huM_1.symm.trans e9; exact l9
    have kuM : jk Z uM 14 := by obtain ⟨b9, e9, k9, -⟩ := sh_f w_I.1 kv0 (j := 56) (k := 14) (m := 6) rfl; cases huM_1.symm.trans e9; exact k9
    have huG_1 : jr Z v0 57 = some uG := (q_I.2.1 v0 12 57 kv0_0 (by decide) (by decide)).trans huG
    have luG : jlen Z uG = 6 := by obtain ⟨b9, e9, -, l9⟩ := sh_f w_I.1 kv0 (j := 57) (k := 14) (m := 6) rfl; cases huG_1.symm.trans e9; exact l9
    have kuG : jk Z uG 14 := by obtain ⟨b9, e9, k9, -⟩ := sh_f w_I.1 kv0 (j := 57) (k := 14) (m := 6) rfl; cases huG_1.symm.trans e9; exact k9
    have huP_1 : jr Z v0 61 = some uP := (q_I.2.1 v0 12 61 kv0_0 (by decide) (by decide)).trans huP
    have luP : jlen Z uP = 6 := by obtain ⟨b9, e9, -, l9⟩ := sh_f w_I.1 kv0 (j := 61) (k := 14) (m := 6) rfl; cases huP_1.symm.trans e9; exact l9
    have kuP : jk Z uP 14 := by obtain ⟨b9, e9, k9, -⟩ := sh_f w_I.1 kv0 (j := 61) (k := 14) (m := 6) rfl; cases huP_1.symm.trans e9; exact k9
    have huR_1 : jr Z v0 44 = some uR := (q_I.2.1 v0 12 44 kv0_0 (by decide) (by decide)).trans huR
    have luR : jlen Z uR = 24 := by obtain ⟨b9, e9, -, l9⟩ := sh_f w_I.1 kv0 (j := 44) (k := 14) (m := 24) rfl; cases huR_1.symm.trans e9; exact l9
    have kuR : jk Z uR 14 := by obtain ⟨b9, e9, k9, -⟩ := sh_f w_I.1 kv0 (j := 44) (k := 14) (m := 24) rfl; cases huR_1.symm.trans e9; exact k9
    have xq_I := q_I.1
    have e0 : (I v0 0).toInt = (I0 v0 0).toInt := by rw [q_I.2.2.1 v0 12 0 kv0_0 (by decide) (by decide)]
    have e8 : (I v0 8).toInt = (I0 v0 8).toInt := by rw [q_I.2.2.1 v0 12 8 kv0_0 (by decide) (by decide)]
    have h80 : 0 ≤ (I0 v0 8).toInt ∧ (I0 v0 8).toInt ≤ 6 := w0.fld 12 8 kv0_0 (by decide)
    have h00 : 0 ≤ (I0 v0 0).toInt ∧ (I0 v0 0).toInt ≤ 24 := w0.fld 12 0 kv0_0 (by decide)
    have okO : ∀ q, 0 ≤ (I uO q).toInt := fun q => (show 0 ≤ (I uO q).toInt ∧ (I uO q).toInt ≤ 23 from w_I.arr 12 55 kv0 huO_1 kuO rfl rfl q).1
    have okGG : ∀ q, 0 ≤ (I uG q).toInt ∧ (I uG q).toInt ≤ 24 := fun q => w_I.arr 12 57 kv0 huG_1 kuG rfl rfl q
    have okMM : ∀ q, 0 ≤ (I uM q).toInt ∧ (I uM q).toInt ≤ 24 := fun q => w_I.arr 12 56 kv0 huM_1 kuM rfl rfl q
    have okG : ∀ q, 0 ≤ (I uG q).toInt := fun q => (okGG q).1
    refine ⟨fun c167 => ?_, fun c167 => ?_⟩
    · skip
      first | (have t168 : v2.toInt ≤ (0) := (i_le rfl (show (0 : Int32).toInt = 0 from rfl)).mp c167) | (have t168 : v2.toInt ≤ (0 : Int32).toInt := (i_le rfl rfl).mp c167) | skip
      exact hQ v3 Z I L w_I bd_Z q_I cp_Z 
    · skip
      first | (have t169 : ¬ (v2.toInt ≤ (0)) := (not_congr (i_le rfl (show (0 : Int32).toInt = 0 from rfl))).mp c167) | (have t169 : ¬ (v2.toInt ≤ (0 : Int32).toInt) := (not_congr (i_le rfl rfl)).mp c167) | skip
      have t170 : (0 : Int32).toInt = 0 := rfl
      exact ⟨(6 - (0 : Int32).toInt).toNat + 1, l_X12_runFeast_L145 w0 v0 v1 kv0_0 uO huO uM huM uG huG uP huP uR huR p0 p1 v2 v3  hQ ih  _ (0 : Int32) Z I L w_I bd_Z q_I cp_Z   (by first | (rw [rfl, rfl, rfl]; exact ⟨by omega, li1, PTn_step li2 nv4 (by omega) (fun _ _ => rfl) (by omega)⟩) | exact ⟨by omega, li1, fun i hi => absurd hi (by omega)⟩) (by omega) (by omega)⟩
set_option maxHeartbeats 4000000 in
set_option maxRecDepth 100000 in
theorem l_X12_runFeast_L77 {B : Nat × Nat} {T : Nat} {Z0 : jZ} {I0 : jI} {Q : Int32 → jZ → jI → jL → Prop} (w0 : WD Z0 I0) (v0 : Nat) (v1 : Int32) (kv0 : jk Z0 v0 12) (uO : Nat) (huO : jr Z0 v0 55 = some uO) (uM : Nat) (huM : jr Z0 v0 56 = some uM) (uG : Nat) (huG : jr Z0 v0 57 = some uG) (uP : Nat) (huP : jr Z0 v0 61 = some uP) (uR : Nat) (huR : jr Z0 v0 44 = some uR) (p0 : 1 ≤ (I0 v0 0).toInt) (p1 : 1 ≤ v1.toInt) (v2 : Int32) (v3 : Int32) (hQ : ∀ (r : Int32) (Z' : jZ) (I' : jI) (L' : jL), WD Z' I' → BUD B Z' T → FR Ws_X12_runFeast Z0 I0 Z' I' → CP Z0 Z' → Q r Z' I' L') {K30 : Nat → Int32 → Int32 → Int32 → jZ → jI → jL → Prop} {N30 : Int} (hK30 : ∀ (v2 : Int32) (v3 : Int32) (Z : jZ) (I : jI) (L : jL), WD Z I → BUD B Z T → FR Ws_X12_runFeast Z0 I0 Z I → CP Z0 Z →   ((0 ≤ v3.toInt ∧ v3.toInt ≤ 6 ∧ v3.toInt ≤ (I0 v0 8).toInt ∧ 0 ≤ v2.toInt ∧ v2.toInt ≤ v3.toInt) ∧ BS0 (I0 v0 0).toInt (I uO) (I uM) (I uG) v3.toInt v2.toInt) → 6 - v3.toInt < N30 → K30 v0 v1 v2 v3 Z I L) : ∀ (n : Nat) (v4 : Int32) (Z : jZ) (I : jI) (L : jL), WD Z I → BUD B Z T → FR Ws_X12_runFeast Z0 I0 Z I → CP Z0 Z →   ((0 ≤ v3.toInt ∧ v3.toInt ≤ 5 ∧ v3.toInt < (I0 v0 8).toInt ∧ 0 ≤ v2.toInt ∧ v2.toInt ≤ v3.toInt ∧ 0 ≤ v4.toInt ∧ v4.toInt ≤ 24 ∧ (I uG v3.toNatClampNeg).toInt = 0) ∧ BS0 (I0 v0 0).toInt (I uO) (I uM) (I uG) v3.toInt v2.toInt ∧ ((I uM v3.toNatClampNeg).toInt = 0 ∨ CRP (I uR) (I uM v3.toNatClampNeg).toInt ((I0 v0 0).toInt - 1)) ∧ (∀ k : Nat, (k : Int) < v4.toInt → I uO (24 * v3.toNatClampNeg + k) = I uR k)) → 6 - v3.toInt ≤ N30 → 24 - v4.toInt < (n : Int) → f_X12_runFeast_L77 B K30 Q n v0 v1 v2 v3 v4 Z I L := by
  intro n
  induction n with
  | zero =>
    intro v4 Z I L w_I bd_Z q_I cp_Z   li hm30 me
    exfalso
    omega
  | succ n ih =>
    intro v4 Z I L w_I bd_Z q_I cp_Z   li hm30 me
    unfold f_X12_runFeast_L77
    have rv4 := i_rng v4
    have rv2 := i_rng v2
    have rv3 := i_rng v3
    have rv1 := i_rng v1
    obtain ⟨li0, li1, li2, li3⟩ := li
    have kv0_0 := kv0
    have kv0 := (q_I.1 _ _ kv0).1
    have t171 : 0 ≤ (I v0 0).toInt ∧ (I v0 0).toInt ≤ 24 := w_I.fld 12 0 kv0 (by decide)
    have t172 : 0 ≤ (I v0 8).toInt ∧ (I v0 8).toInt ≤ 6 := w_I.fld 12 8 kv0 (by decide)
    have huO_1 : jr Z v0 55 = some uO := (q_I.2.1 v0 12 55 kv0_0 (by decide) (by decide)).trans huO
    have luO : jlen Z uO = 144 := by obtain ⟨b9, e9, -, l9⟩ := sh_f w_I.1 kv0 (j := 55) (k := 14) (m := 144) rfl; cases huO_1.symm.trans e9; exact l9
    have kuO : jk Z uO 14 := by obtain ⟨b9, e9, k9, -⟩ := sh_f w_I.1 kv0 (j := 55) (k := 14) (m := 144) rfl; cases huO_1.symm.trans e9; exact k9
    have huM_1 : jr Z v0 56 = some uM := (q_I.2.1 v0 12 56 kv0_0 (by decide) (by decide)).trans huM
    have luM : jlen Z uM = 6 := by obtain ⟨b9, e9, -, l9⟩ := sh_f w_I.1 kv0 (j := 56) (k := 14) (m := 6) rfl; cases huM_1.symm.trans e9; exact l9
    have kuM : jk Z uM 14 := by obtain ⟨b9, e9, k9, -⟩ := sh_f w_I.1 kv0 (j := 56) (k := 14) (m := 6) rfl; cases huM_1.symm.trans e9; exact k9
    have huG_1 : jr Z v0 57 = some uG := (q_I.2.1 v0 12 57 kv0_0 (by decide) (by decide)).trans huG
    have luG : jlen Z uG = 6 := by obtain ⟨b9, e9, -, l9⟩ := sh_f w_I.1 kv0 (j := 57) (k := 14) (m := 6) rfl; cases huG_1.symm.trans e9; exact l9
    have kuG : jk Z uG 14 := by obtain ⟨b9, e9, k9, -⟩ := sh_f w_I.1 kv0 (j := 57) (k := 14) (m := 6) rfl; cases huG_1.symm.trans e9; exact k9
    have huP_1 : jr Z v0 61 = some uP := (q_I.2.1 v0 12 61 kv0_0 (by decide) (by decide)).trans huP
    have luP : jlen Z uP = 6 := by obtain ⟨b9, e9, -, l9⟩ := sh_f w_I.1 kv0 (j := 61) (k := 14) (m := 6) rfl; cases huP_1.symm.trans e9; exact l9
    have kuP : jk Z uP 14 := by obtain ⟨b9, e9, k9, -⟩ := sh_f w_I.1 kv0 (j := 61) (k := 14) (m := 6) rfl; cases huP_1.symm.trans e9; exact k9
    have huR_1 : jr Z v0 44 = some uR := (q_I.2.1 v0 12 44 kv0_0 (by decide) (by decide)).trans huR
    have luR : jlen Z uR = 24 := by obtain ⟨b9, e9, -, l9⟩ := sh_f w_I.1 kv0 (j := 44) (k := 14) (m := 24) rfl; cases huR_1.symm.trans e9; exact l9
    have kuR : jk Z uR 14 := by obtain ⟨b9, e9, k9, -⟩ := sh_f w_I.1 kv0 (j := 44) (k := 14) (m := 24) rfl; cases huR_1.symm.trans e9; exact k9
    have xq_I := q_I.1
    have e0 : (I v0 0).toInt = (I0 v0 0).toInt := by rw [q_I.2.2.1 v0 12 0 kv0_0 (by decide) (by decide)]
    have e8 : (I v0 8).toInt = (I0 v0 8).toInt := by rw [q_I.2.2.1 v0 12 8 kv0_0 (by decide) (by decide)]
    have h80 : 0 ≤ (I0 v0 8).toInt ∧ (I0 v0 8).toInt ≤ 6 := w0.fld 12 8 kv0_0 (by decide)
    have h00 : 0 ≤ (I0 v0 0).toInt ∧ (I0 v0 0).toInt ≤ 24 := w0.fld 12 0 kv0_0 (by decide)
    have okO : ∀ q, 0 ≤ (I uO q).toInt := fun q => (show 0 ≤ (I uO q).toInt ∧ (I uO q).toInt ≤ 23 from w_I.arr 12 55 kv0 huO_1 kuO rfl rfl q).1
    have okGG : ∀ q, 0 ≤ (I uG q).toInt ∧ (I uG q).toInt ≤ 24 := fun q => w_I.arr 12 57 kv0 huG_1 kuG rfl rfl q
    have okMM : ∀ q, 0 ≤ (I uM q).toInt ∧ (I uM q).toInt ≤ 24 := fun q => w_I.arr 12 56 kv0 huM_1 kuM rfl rfl q
    have okG : ∀ q, 0 ≤ (I uG q).toInt := fun q => (okGG q).1
    have nv3 := i_nat (x := v3) rfl (by omega)
    have nv4 := i_nat (x := v4) rfl (by omega)
    intro b173 eb173
    obtain rfl : uM = b173 := Option.some.inj (huM_1.symm.trans eb173)
    have o174 : vp_in v3 6 := vi_of rfl (by omega) (by omega)
    refine ⟨o174, ?_⟩
    have t175 : 0 ≤ (I uM v3.toNatClampNeg).toInt ∧ (I uM v3.toNatClampNeg).toInt ≤ 24 := w_I.arr 12 56 kv0 huM_1 kuM rfl rfl _
    refine ⟨fun c176 => ?_, fun c176 => ?_⟩
    · skip
      first | (have t177 : (I uM v3.toNatClampNeg).toInt ≤ v4.toInt := (i_le rfl rfl).mp c176) | (have t177 : (I uM v3.toNatClampNeg).toInt ≤ v4.toInt := (i_le rfl rfl).mp c176) | skip
      intro b178 eb178
      obtain rfl : uM = b178 := Option.some.inj (huM_1.symm.trans eb178)
      have o179 : vp_in v3 6 := vi_of rfl (by omega) (by omega)
      refine ⟨o179, ?_⟩
      have t180 : 0 ≤ (I uM v3.toNatClampNeg).toInt ∧ (I uM v3.toNatClampNeg).toInt ≤ 24 := w_I.arr 12 56 kv0 huM_1 kuM rfl rfl _
      refine ⟨fun c181 => ?_, fun c181 => ?_⟩
      · skip
        first | (have t182 : (I uM v3.toNatClampNeg).toInt ≤ (0) := (i_le rfl (show (0 : Int32).toInt = 0 from rfl)).mp c181) | (have t182 : (I uM v3.toNatClampNeg).toInt ≤ (0 : Int32).toInt := (i_le rfl rfl).mp c181) | skip
        unfold f_X12_runFeast_b128
        intro x183 ex183
        have rx183 := i_rng x183
        first | (have tx183 : x183.toInt = (v2.toInt + (0)) := by (rw [ex183]; exact (i_add rfl (show (0 : Int32).toInt = 0 from rfl) (by omega) (by omega)))) | (have tx183 : x183.toInt = (v2 + (0 : Int32)).toInt := by rw [ex183])
        intro x184 ex184
        have rx184 := i_rng x184
        first | (have tx184 : x184.toInt = v3.toInt + (1) := by (rw [ex184]; exact (i_add rfl (show (1 : Int32).toInt = 1 from rfl) (by omega) (by omega)))) | skip
        exact hK30 x183 x184 Z I L w_I bd_Z q_I cp_Z   (by first | (exact ⟨by omega, ⟨by rw [show (0 : Int32).toInt = 0 from rfl]; rfl, fun p hp => absurd hp (by omega), fun p hp => absurd hp (by omega)⟩⟩) | (exact ⟨by omega, BS0_next (p := v3.toNatClampNeg) (R := I uR) li1 nv3 (by omega) (by omega) (okMM _) li2 (fun k hk => li3 k (by omega)) (by omega)⟩))  (by omega)
      · skip
        first | (have t185 : ¬ ((I uM v3.toNatClampNeg).toInt ≤ (0)) := (not_congr (i_le rfl (show (0 : Int32).toInt = 0 from rfl))).mp c181) | (have t185 : ¬ ((I uM v3.toNatClampNeg).toInt ≤ (0 : Int32).toInt) := (not_congr (i_le rfl rfl)).mp c181) | skip
        unfold f_X12_runFeast_b128
        intro x186 ex186
        have rx186 := i_rng x186
        first | (have tx186 : x186.toInt = (v2.toInt + (1)) := by (rw [ex186]; exact (i_add rfl (show (1 : Int32).toInt = 1 from rfl) (by omega) (by omega)))) | (have tx186 : x186.toInt = (v2 + (1 : Int32)).toInt := by rw [ex186])
        intro x187 ex187
        have rx187 := i_rng x187
        first | (have tx187 : x187.toInt = v3.toInt + (1) := by (rw [ex187]; exact (i_add rfl (show (1 : Int32).toInt = 1 from rfl) (by omega) (by omega)))) | skip
        exact hK30 x186 x187 Z I L w_I bd_Z q_I cp_Z   (by first | (exact ⟨by omega, ⟨by rw [show (0 : Int32).toInt = 0 from rfl]; rfl, fun p hp => absurd hp (by omega), fun p hp => absurd hp (by omega)⟩⟩) | (exact ⟨by omega, BS0_next (p := v3.toNatClampNeg) (R := I uR) li1 nv3 (by omega) (by omega) (okMM _) li2 (fun k hk => li3 k (by omega)) (by omega)⟩))  (by omega)
    · skip
      first | (have t188 : ¬ ((I uM v3.toNatClampNeg).toInt ≤ v4.toInt) := (not_congr (i_le rfl rfl)).mp c176) | (have t188 : ¬ ((I uM v3.toNatClampNeg).toInt ≤ v4.toInt) := (not_congr (i_le rfl rfl)).mp c176) | skip
      intro b189 eb189
      obtain rfl : uO = b189 := Option.some.inj (huO_1.symm.trans eb189)
      intro b190 eb190
      obtain rfl : uR = b190 := Option.some.inj (huR_1.symm.trans eb190)
      have o191 : vp_in v4 24 := vi_of rfl (by omega) (by omega)
      refine ⟨o191, ?_⟩
      have t192 : 0 ≤ (I uR v4.toNatClampNeg).toInt ∧ (I uR v4.toNatClampNeg).toInt ≤ 23 := w_I.arr 12 44 kv0 huR_1 kuR rfl rfl _
      have o193 : vp_in (((24 : Int32) * v3) + v4) 144 := vi_of (i_add (i_mul (show (24 : Int32).toInt = 24 from rfl) rfl (by omega) (by omega)) rfl (by omega) (by omega)) (by omega) (by omega)
      refine ⟨o193, ?_⟩
      intro I194 eI194
      have w_I194 : WD Z I194 := by rw [eI194]; exact WD_putA w_I 12 55 kv0 huO_1 kuO rfl rfl (by decide) (by constructor <;> omega)
      have ao_I194_uO : ∀ q, q ≠ (((24 : Int32) * v3) + v4).toNatClampNeg → I194 uO q = I uO q := fun q hq => by rw [eI194]; exact jpI_off hq
      have f_I194 : FR [(12, 55)] Z I Z I194 := by rw [eI194]; exact FR_upA w_I.2.1 kv0 huO_1 kuO rfl rfl List.mem_cons_self
      have q_I194 : FR Ws_X12_runFeast Z0 I0 Z I194 := q_I.trans w0.1 w0.2.1 (f_I194.mono (by decide))
      have ao_I194_uM : I194 uM = I uM := f_I194.2.2.2 v0 12 56 uM kv0 huM_1 (by rw [kuM.2]; rfl) rfl (by decide)
      have ao_I194_uG : I194 uG = I uG := f_I194.2.2.2 v0 12 57 uG kv0 huG_1 (by rw [kuG.2]; rfl) rfl (by decide)
      have ao_I194_uP : I194 uP = I uP := f_I194.2.2.2 v0 12 61 uP kv0 huP_1 (by rw [kuP.2]; rfl) rfl (by decide)
      have ao_I194_uR : I194 uR = I uR := f_I194.2.2.2 v0 12 44 uR kv0 huR_1 (by rw [kuR.2]; rfl) rfl (by decide)
      have u195 : (I194 uG (v3.toNatClampNeg)).toInt = (I uG (v3.toNatClampNeg)).toInt := by rw [f_I194.2.2.2 v0 12 57 uG kv0 huG_1 (by rw [kuG.2]; rfl) rfl (by decide)]
      have u196 : (I194 uM (v3.toNatClampNeg)).toInt = (I uM (v3.toNatClampNeg)).toInt := by rw [f_I194.2.2.2 v0 12 56 uM kv0 huM_1 (by rw [kuM.2]; rfl) rfl (by decide)]
      have u197 : (I194 v0 0).toInt = (I v0 0).toInt := by rw [f_I194.2.2.1 v0 12 0 kv0 (by decide) (by decide)]
      have u198 : (I194 v0 8).toInt = (I v0 8).toInt := by rw [f_I194.2.2.1 v0 12 8 kv0 (by decide) (by decide)]
      intro x199 ex199
      have rx199 := i_rng x199
      first | (have tx199 : x199.toInt = v4.toInt + (1) := by (rw [ex199]; exact (i_add rfl (show (1 : Int32).toInt = 1 from rfl) (by omega) (by omega)))) | skip
      exact ih x199 Z I194 L w_I194 bd_Z q_I194 cp_Z   (by first | (refine ⟨by omega, BS0_keep li1 (by omega) ao_I194_uO (fun q hq => (fun q _ => congrFun ao_I194_uM q) q (by omega)) (fun q hq => (fun q _ => congrFun ao_I194_uG q) q (by omega)) okMM, hcl9, fun k hk => absurd hk (by omega)⟩) | (have nx := i_nat (x := (((24 : Int32) * v3) + v4)) (i_add (i_mul (show (24 : Int32).toInt = 24 from rfl) rfl (by omega) (by omega)) rfl (by omega) (by omega)) (by omega); refine ⟨by omega, BS0_keep li1 (by omega) (fun q hq => ao_I194_uO q (by omega)) (fun q _ => congrFun ao_I194_uM q) (fun q _ => congrFun ao_I194_uG q) okMM, by rw [ao_I194_uM, ao_I194_uR]; exact li2, fun k hk => ?_⟩; rw [ao_I194_uR]; by_cases h : k = v4.toNatClampNeg; (rw [show 24 * v3.toNatClampNeg + k = (((24 : Int32) * v3) + v4).toNatClampNeg by omega, eI194, h]; exact jpI_at); (rw [ao_I194_uO _ (by omega)]; exact li3 k (by omega)))) (by omega) (by omega)
set_option maxHeartbeats 4000000 in
set_option maxRecDepth 100000 in
theorem l_X12_runFeast_L30 {B : Nat × Nat} {T : Nat} {Z0 : jZ} {I0 : jI} {Q : Int32 → jZ → jI → jL → Prop} (w0 : WD Z0 I0) (v0 : Nat) (v1 : Int32) (kv0 : jk Z0 v0 12) (uO : Nat) (huO : jr Z0 v0 55 = some uO) (uM : Nat) (huM : jr Z0 v0 56 = some uM) (uG : Nat) (huG : jr Z0 v0 57 = some uG) (uP : Nat) (huP : jr Z0 v0 61 = some uP) (uR : Nat) (huR : jr Z0 v0 44 = some uR) (p0 : 1 ≤ (I0 v0 0).toInt) (p1 : 1 ≤ v1.toInt) (hQ : ∀ (r : Int32) (Z' : jZ) (I' : jI) (L' : jL), WD Z' I' → BUD B Z' T → FR Ws_X12_runFeast Z0 I0 Z' I' → CP Z0 Z' → Q r Z' I' L') : ∀ (n : Nat) (v2 : Int32) (v3 : Int32) (Z : jZ) (I : jI) (L : jL), WD Z I → BUD B Z T → FR Ws_X12_runFeast Z0 I0 Z I → CP Z0 Z →   ((0 ≤ v3.toInt ∧ v3.toInt ≤ 6 ∧ v3.toInt ≤ (I0 v0 8).toInt ∧ 0 ≤ v2.toInt ∧ v2.toInt ≤ v3.toInt) ∧ BS0 (I0 v0 0).toInt (I uO) (I uM) (I uG) v3.toInt v2.toInt) → 6 - v3.toInt < (n : Int) → f_X12_runFeast_L30 B  Q n v0 v1 v2 v3 Z I L := by
  intro n
  induction n with
  | zero =>
    intro v2 v3 Z I L w_I bd_Z q_I cp_Z   li  me
    exfalso
    omega
  | succ n ih =>
    intro v2 v3 Z I L w_I bd_Z q_I cp_Z   li  me
    unfold f_X12_runFeast_L30
    have rv2 := i_rng v2
    have rv3 := i_rng v3
    have rv1 := i_rng v1
    obtain ⟨li0, li1⟩ := li
    have kv0_0 := kv0
    have kv0 := (q_I.1 _ _ kv0).1
    have t200 : 0 ≤ (I v0 0).toInt ∧ (I v0 0).toInt ≤ 24 := w_I.fld 12 0 kv0 (by decide)
    have t201 : 0 ≤ (I v0 8).toInt ∧ (I v0 8).toInt ≤ 6 := w_I.fld 12 8 kv0 (by decide)
    have huO_1 : jr Z v0 55 = some uO := (q_I.2.1 v0 12 55 kv0_0 (by decide) (by decide)).trans huO
    have luO : jlen Z uO = 144 := by obtain ⟨b9, e9, -, l9⟩ := sh_f w_I.1 kv0 (j := 55) (k := 14) (m := 144) rfl; cases huO_1.symm.trans e9; exact l9
    have kuO : jk Z uO 14 := by obtain ⟨b9, e9, k9, -⟩ := sh_f w_I.1 kv0 (j := 55) (k := 14) (m := 144) rfl; cases huO_1.symm.trans e9; exact k9
    have huM_1 : jr Z v0 56 = some uM := (q_I.2.1 v0 12 56 kv0_0 (by decide) (by decide)).trans huM
    have luM : jlen Z uM = 6 := by obtain ⟨b9, e9, -, l9⟩ := sh_f w_I.1 kv0 (j := 56) (k := 14) (m := 6) rfl; cases huM_1.symm.trans e9; exact l9
    have kuM : jk Z uM 14 := by obtain ⟨b9, e9, k9, -⟩ := sh_f w_I.1 kv0 (j := 56) (k := 14) (m := 6) rfl; cases huM_1.symm.trans e9; exact k9
    have huG_1 : jr Z v0 57 = some uG := (q_I.2.1 v0 12 57 kv0_0 (by decide) (by decide)).trans huG
    have luG : jlen Z uG = 6 := by obtain ⟨b9, e9, -, l9⟩ := sh_f w_I.1 kv0 (j := 57) (k := 14) (m := 6) rfl; cases huG_1.symm.trans e9; exact l9
    have kuG : jk Z uG 14 := by obtain ⟨b9, e9, k9, -⟩ := sh_f w_I.1 kv0 (j := 57) (k := 14) (m := 6) rfl; cases huG_1.symm.trans e9; exact k9
    have huP_1 : jr Z v0 61 = some uP := (q_I.2.1 v0 12 61 kv0_0 (by decide) (by decide)).trans huP
    have luP : jlen Z uP = 6 := by obtain ⟨b9, e9, -, l9⟩ := sh_f w_I.1 kv0 (j := 61) (k := 14) (m := 6) rfl; cases huP_1.symm.trans e9; exact l9
    have kuP : jk Z uP 14 := by obtain ⟨b9, e9, k9, -⟩ := sh_f w_I.1 kv0 (j := 61) (k := 14) (m := 6) rfl; cases huP_1.symm.trans e9; exact k9
    have huR_1 : jr Z v0 44 = some uR := (q_I.2.1 v0 12 44 kv0_0 (by decide) (by decide)).trans huR
    have luR : jlen Z uR = 24 := by obtain ⟨b9, e9, -, l9⟩ := sh_f w_I.1 kv0 (j := 44) (k := 14) (m := 24) rfl; cases huR_1.symm.trans e9; exact l9
    have kuR : jk Z uR 14 := by obtain ⟨b9, e9, k9, -⟩ := sh_f w_I.1 kv0 (j := 44) (k := 14) (m := 24) rfl; cases huR_1.symm.trans e9; exact k9
    have xq_I := q_I.1
    have e0 : (I v0 0).toInt = (I0 v0 0).toInt := by rw [q_I.2.2.1 v0 12 0 kv0_0 (by decide) (by decide)]
    have e8 : (I v0 8).toInt = (I0 v0 8).toInt := by rw [q_I.2.2.1 v0 12 8 kv0_0 (by decide) (by decide)]
    have h80 : 0 ≤ (I0 v0 8).toInt ∧ (I0 v0 8).toInt ≤ 6 := w0.fld 12 8 kv0_0 (by decide)
    have h00 : 0 ≤ (I0 v0 0).toInt ∧ (I0 v0 0).toInt ≤ 24 := w0.fld 12 0 kv0_0 (by decide)
    have okO : ∀ q, 0 ≤ (I uO q).toInt := fun q => (show 0 ≤ (I uO q).toInt ∧ (I uO q).toInt ≤ 23 from w_I.arr 12 55 kv0 huO_1 kuO rfl rfl q).1
    have okGG : ∀ q, 0 ≤ (I uG q).toInt ∧ (I uG q).toInt ≤ 24 := fun q => w_I.arr 12 57 kv0 huG_1 kuG rfl rfl q
    have okMM : ∀ q, 0 ≤ (I uM q).toInt ∧ (I uM q).toInt ≤ 24 := fun q => w_I.arr 12 56 kv0 huM_1 kuM rfl rfl q
    have okG : ∀ q, 0 ≤ (I uG q).toInt := fun q => (okGG q).1
    have nv3 := i_nat (x := v3) rfl (by omega)
    have t203 : 0 ≤ (I v0 8).toInt ∧ (I v0 8).toInt ≤ 6 := w_I.fld 12 8 kv0 (by decide)
    refine ⟨fun c204 => ?_, fun c204 => ?_⟩
    · skip
      first | (have t205 : (I v0 8).toInt ≤ v3.toInt := (i_le rfl rfl).mp c204) | (have t205 : (I v0 8).toInt ≤ v3.toInt := (i_le rfl rfl).mp c204) | skip
      have t206 : (0 : Int32).toInt = 0 := rfl
      exact ⟨(144 - SGo (I uG)).toNat + 1, l_X12_runFeast_L138 w0 v0 v1 kv0_0 uO huO uM huM uG huG uP huP uR huR p0 p1   hQ   _ v2 (0 : Int32) Z I L w_I bd_Z q_I cp_Z   (by first | exact ⟨by omega, li1⟩ | exact ⟨⟨by omega, by omega, SGo_le okGG⟩, BS0_out li1 (by omega) (fun q => (okMM q).1)⟩)  (by omega)⟩
    · skip
      first | (have t207 : ¬ ((I v0 8).toInt ≤ v3.toInt) := (not_congr (i_le rfl rfl)).mp c204) | (have t207 : ¬ ((I v0 8).toInt ≤ v3.toInt) := (not_congr (i_le rfl rfl)).mp c204) | skip
      intro b208 eb208
      obtain rfl : uG = b208 := Option.some.inj (huG_1.symm.trans eb208)
      have o209 : vp_in v3 6 := vi_of rfl (by omega) (by omega)
      refine ⟨o209, ?_⟩
      intro I210 eI210
      have t211 : (0 : Int32).toInt = 0 := rfl
      have w_I210 : WD Z I210 := by rw [eI210]; exact WD_putA w_I 12 57 kv0 huG_1 kuG rfl rfl (by decide) (by constructor <;> omega)
      have ao_I210_uG : ∀ q, q ≠ v3.toNatClampNeg → I210 uG q = I uG q := fun q hq => by rw [eI210]; exact jpI_off hq
      first | (have u212 : (I210 uG (v3.toNatClampNeg)).toInt = (0) := by (rw [eI210, show jpI I uG v3.toNatClampNeg (0 : Int32) uG v3.toNatClampNeg = (0 : Int32) from jpI_at] <;> exact (show (0 : Int32).toInt = 0 from rfl))) | skip
      have f_I210 : FR [(12, 57)] Z I Z I210 := by rw [eI210]; exact FR_upA w_I.2.1 kv0 huG_1 kuG rfl rfl List.mem_cons_self
      have q_I210 : FR Ws_X12_runFeast Z0 I0 Z I210 := q_I.trans w0.1 w0.2.1 (f_I210.mono (by decide))
      have ao_I210_uO : I210 uO = I uO := f_I210.2.2.2 v0 12 55 uO kv0 huO_1 (by rw [kuO.2]; rfl) rfl (by decide)
      have ao_I210_uM : I210 uM = I uM := f_I210.2.2.2 v0 12 56 uM kv0 huM_1 (by rw [kuM.2]; rfl) rfl (by decide)
      have ao_I210_uP : I210 uP = I uP := f_I210.2.2.2 v0 12 61 uP kv0 huP_1 (by rw [kuP.2]; rfl) rfl (by decide)
      have ao_I210_uR : I210 uR = I uR := f_I210.2.2.2 v0 12 44 uR kv0 huR_1 (by rw [kuR.2]; rfl) rfl (by decide)
      have u213 : (I210 v0 0).toInt = (I v0 0).toInt := by rw [f_I210.2.2.1 v0 12 0 kv0 (by decide) (by decide)]
      have u214 : (I210 v0 8).toInt = (I v0 8).toInt := by rw [f_I210.2.2.1 v0 12 8 kv0 (by decide) (by decide)]
      intro b215 eb215
      obtain ⟨x216, ex216, kb215, lb215⟩ := sh_f w_I210.1 kv0 (j := 58) (k := 14) (m := 6) rfl
      cases eb215.symm.trans ex216
      have o217 : vp_in v3 6 := vi_of rfl (by omega) (by omega)
      refine ⟨o217, ?_⟩
      intro I218 eI218
      have t219 : (0 : Int32).toInt = 0 := rfl
      have w_I218 : WD Z I218 := by rw [eI218]; exact WD_putA w_I210 12 58 kv0 eb215 kb215 rfl rfl (by decide) trivial
      have f_I218 : FR [(12, 58)] Z I210 Z I218 := by rw [eI218]; exact FR_upA w_I210.2.1 kv0 eb215 kb215 rfl rfl List.mem_cons_self
      have q_I218 : FR Ws_X12_runFeast Z0 I0 Z I218 := q_I210.trans w0.1 w0.2.1 (f_I218.mono (by decide))
      have ao_I218_uO : I218 uO = I uO := (f_I218.2.2.2 v0 12 55 uO kv0 huO_1 (by rw [kuO.2]; rfl) rfl (by decide)).trans ao_I210_uO
      have ao_I218_uM : I218 uM = I uM := (f_I218.2.2.2 v0 12 56 uM kv0 huM_1 (by rw [kuM.2]; rfl) rfl (by decide)).trans ao_I210_uM
      have ao_I218_uG : ∀ q, q ≠ v3.toNatClampNeg → I218 uG q = I uG q := fun q hq => by rw [f_I218.2.2.2 v0 12 57 uG kv0 huG_1 (by rw [kuG.2]; rfl) rfl (by decide)]; exact ao_I210_uG q hq
      have ao_I218_uP : I218 uP = I uP := (f_I218.2.2.2 v0 12 61 uP kv0 huP_1 (by rw [kuP.2]; rfl) rfl (by decide)).trans ao_I210_uP
      have ao_I218_uR : I218 uR = I uR := (f_I218.2.2.2 v0 12 44 uR kv0 huR_1 (by rw [kuR.2]; rfl) rfl (by decide)).trans ao_I210_uR
      have u220 : (I218 uG (v3.toNatClampNeg)).toInt = (I210 uG (v3.toNatClampNeg)).toInt := by rw [f_I218.2.2.2 v0 12 57 uG kv0 huG_1 (by rw [kuG.2]; rfl) rfl (by decide)]
      have u221 : (I218 v0 0).toInt = (I210 v0 0).toInt := by rw [f_I218.2.2.1 v0 12 0 kv0 (by decide) (by decide)]
      have u222 : (I218 v0 8).toInt = (I210 v0 8).toInt := by rw [f_I218.2.2.1 v0 12 8 kv0 (by decide) (by decide)]
      intro b223 eb223
      obtain rfl : uM = b223 := Option.some.inj (huM_1.symm.trans eb223)
      obtain ⟨b224, eb224, kb224, lb224⟩ := sh_f w_I218.1 kv0 (j := 37) (k := 14) (m := 75) rfl
      obtain ⟨b225, eb225, kb225, lb225⟩ := sh_f w_I218.1 kv0 (j := 38) (k := 14) (m := 75) rfl
      obtain ⟨b226, eb226, kb226, lb226⟩ := sh_f w_I218.1 kv0 (j := 40) (k := 14) (m := 25000) rfl
      obtain ⟨b227, eb227, kb227, lb227⟩ := sh_f w_I218.1 kv0 (j := 9) (k := 14) (m := 6) rfl
      refine s_X12_findClimb w_I218 bd_Z v0 v3 kv0 b224 eb224 b225 eb225 b226 eb226 b227 eb227 uR huR_1 (by omega) (by omega) (fun r228 Z232 I230 L231 w_I230 bd_Z232 f_I230 c_Z232 p229 => ?_)
      have q_I230 : FR Ws_X12_runFeast Z0 I0 Z232 I230 := q_I218.trans w0.1 w0.2.1 (f_I230.mono (by decide))
      have cp_Z232 : CP Z0 Z232 := cp_Z.trans q_I218.1 c_Z232
      have x_Z232 := f_I230.1
      have k233 := (f_I230.1 _ _ kv0).1
      have k234 := (f_I230.1 _ _ kuM).1
      have l235 := (f_I230.1 _ _ kuM).2.trans luM
      have k236 := (f_I230.1 _ _ kv0).1
      have e237 := (f_I230.2.1 v0 12 56 kv0 (by decide) (by decide)).trans huM_1
      have k238 := (f_I230.1 _ _ kuO).1
      have l239 := (f_I230.1 _ _ kuO).2.trans luO
      have k240 := (f_I230.1 _ _ kv0).1
      have e241 := (f_I230.2.1 v0 12 55 kv0 (by decide) (by decide)).trans huO_1
      have k242 := (f_I230.1 _ _ kuG).1
      have l243 := (f_I230.1 _ _ kuG).2.trans luG
      have k244 := (f_I230.1 _ _ kv0).1
      have e245 := (f_I230.2.1 v0 12 57 kv0 (by decide) (by decide)).trans huG_1
      have k246 := (f_I230.1 _ _ kuP).1
      have l247 := (f_I230.1 _ _ kuP).2.trans luP
      have k248 := (f_I230.1 _ _ kv0).1
      have e249 := (f_I230.2.1 v0 12 61 kv0 (by decide) (by decide)).trans huP_1
      have k250 := (f_I230.1 _ _ kuR).1
      have l251 := (f_I230.1 _ _ kuR).2.trans luR
      have k252 := (f_I230.1 _ _ kv0).1
      have e253 := (f_I230.2.1 v0 12 44 kv0 (by decide) (by decide)).trans huR_1
      have k254 := (f_I230.1 _ _ kb215).1
      have l255 := (f_I230.1 _ _ kb215).2.trans lb215
      have k256 := (f_I230.1 _ _ kv0).1
      have e257 := (f_I230.2.1 v0 12 58 kv0 (by decide) (by decide)).trans eb215
      have k258 := (f_I230.1 _ _ kb224).1
      have l259 := (f_I230.1 _ _ kb224).2.trans lb224
      have k260 := (f_I230.1 _ _ kv0).1
      have e261 := (f_I230.2.1 v0 12 37 kv0 (by decide) (by decide)).trans eb224
      have k262 := (f_I230.1 _ _ kb225).1
      have l263 := (f_I230.1 _ _ kb225).2.trans lb225
      have k264 := (f_I230.1 _ _ kv0).1
      have e265 := (f_I230.2.1 v0 12 38 kv0 (by decide) (by decide)).trans eb225
      have k266 := (f_I230.1 _ _ kb226).1
      have l267 := (f_I230.1 _ _ kb226).2.trans lb226
      have k268 := (f_I230.1 _ _ kv0).1
      have e269 := (f_I230.2.1 v0 12 40 kv0 (by decide) (by decide)).trans eb226
      have k270 := (f_I230.1 _ _ kb227).1
      have l271 := (f_I230.1 _ _ kb227).2.trans lb227
      have k272 := (f_I230.1 _ _ kv0).1
      have e273 := (f_I230.2.1 v0 12 9 kv0 (by decide) (by decide)).trans eb227
      have ao_I230_uO : I230 uO = I uO := (f_I230.2.2.2 v0 12 55 uO kv0 huO_1 (by rw [kuO.2]; rfl) rfl (by decide)).trans ao_I218_uO
      have ao_I230_uM : I230 uM = I uM := (f_I230.2.2.2 v0 12 56 uM kv0 huM_1 (by rw [kuM.2]; rfl) rfl (by decide)).trans ao_I218_uM
      have ao_I230_uG : ∀ q, q ≠ v3.toNatClampNeg → I230 uG q = I uG q := fun q hq => by rw [f_I230.2.2.2 v0 12 57 uG kv0 huG_1 (by rw [kuG.2]; rfl) rfl (by decide)]; exact ao_I218_uG q hq
      have ao_I230_uP : I230 uP = I uP := (f_I230.2.2.2 v0 12 61 uP kv0 huP_1 (by rw [kuP.2]; rfl) rfl (by decide)).trans ao_I218_uP
      have u274 : (I230 uG (v3.toNatClampNeg)).toInt = (I218 uG (v3.toNatClampNeg)).toInt := by rw [f_I230.2.2.2 v0 12 57 uG kv0 huG_1 (by rw [kuG.2]; rfl) rfl (by decide)]
      have u275 : (I230 v0 0).toInt = (I218 v0 0).toInt := by rw [f_I230.2.2.1 v0 12 0 kv0 (by decide) (by decide)]
      have u276 : (I230 v0 8).toInt = (I218 v0 8).toInt := by rw [f_I230.2.2.1 v0 12 8 kv0 (by decide) (by decide)]
      have rr228 := i_rng r228
      obtain ⟨cm, hcm, hcl⟩ : ∃ cm : Int, cm = (I230 v0 43).toInt ∧ (r228.toInt = 0 ∨ CRP (I230 uR) cm ((I0 v0 0).toInt - 1)) := by refine ⟨_, rfl, ?_⟩; rcases p229 with h | h; exact Or.inl h; right; rw [show (I0 v0 0).toInt = (I230 v0 0).toInt by omega]; exact h.2
      refine ⟨fun c277 => ?_, fun c277 => ?_⟩
      · skip
        first | (have t278 : r228.toInt = (0) := (i_eq rfl (show (0 : Int32).toInt = 0 from rfl)).mp c277) | (have t278 : r228.toInt = (0 : Int32).toInt := (i_eq rfl rfl).mp c277) | skip
        unfold f_X12_runFeast_b73
        have o279 : vp_in v3 (jlen Z232 uM) := vi_of rfl (by omega) (by omega)
        refine ⟨o279, ?_⟩
        intro I280 eI280
        have t281 : (0 : Int32).toInt = 0 := rfl
        have w_I280 : WD Z232 I280 := by rw [eI280]; exact WD_putA w_I230 12 56 k236 e237 k234 rfl rfl (by decide) (by constructor <;> omega)
        have ao_I280_uM : ∀ q, q ≠ v3.toNatClampNeg → I280 uM q = I uM q := fun q hq => by rw [eI280, jpI_off hq, ao_I230_uM]
        first | (have u282 : (I280 uM (v3.toNatClampNeg)).toInt = (0) := by (rw [eI280, show jpI I230 uM v3.toNatClampNeg (0 : Int32) uM v3.toNatClampNeg = (0 : Int32) from jpI_at] <;> exact (show (0 : Int32).toInt = 0 from rfl))) | skip
        have f_I280 : FR [(12, 56)] Z232 I230 Z232 I280 := by rw [eI280]; exact FR_upA w_I230.2.1 k236 e237 k234 rfl rfl List.mem_cons_self
        have q_I280 : FR Ws_X12_runFeast Z0 I0 Z232 I280 := q_I230.trans w0.1 w0.2.1 (f_I280.mono (by decide))
        have ao_I280_uO : I280 uO = I uO := (f_I280.2.2.2 v0 12 55 uO k240 e241 (by rw [k238.2]; rfl) rfl (by decide)).trans ao_I230_uO
        have ao_I280_uG : ∀ q, q ≠ v3.toNatClampNeg → I280 uG q = I uG q := fun q hq => by rw [f_I280.2.2.2 v0 12 57 uG k244 e245 (by rw [k242.2]; rfl) rfl (by decide)]; exact ao_I230_uG q hq
        have ao_I280_uP : I280 uP = I uP := (f_I280.2.2.2 v0 12 61 uP k248 e249 (by rw [k246.2]; rfl) rfl (by decide)).trans ao_I230_uP
        have u283 : (I280 uG (v3.toNatClampNeg)).toInt = (I230 uG (v3.toNatClampNeg)).toInt := by rw [f_I280.2.2.2 v0 12 57 uG k244 e245 (by rw [k242.2]; rfl) rfl (by decide)]
        have u284 : (I280 v0 0).toInt = (I230 v0 0).toInt := by rw [f_I280.2.2.1 v0 12 0 k233 (by decide) (by decide)]
        have u285 : (I280 v0 8).toInt = (I230 v0 8).toInt := by rw [f_I280.2.2.1 v0 12 8 k233 (by decide) (by decide)]
        have hcl9 : (I280 uM v3.toNatClampNeg).toInt = 0 ∨ CRP (I280 uR) (I280 uM v3.toNatClampNeg).toInt ((I0 v0 0).toInt - 1) := by first | exact Or.inl (by omega) | (rcases hcl with h | h; (exfalso; omega); right; rw [f_I280.2.2.2 v0 12 44 uR k252 e253 (by rw [k250.2]; rfl) rfl (by decide), show (I280 uM v3.toNatClampNeg).toInt = cm by omega]; exact h)
        have t286 : (0 : Int32).toInt = 0 := rfl
        exact ⟨(24 - (0 : Int32).toInt).toNat + 1, l_X12_runFeast_L77 w0 v0 v1 kv0_0 uO huO uM huM uG huG uP huP uR huR p0 p1 v2 v3  hQ ih  _ (0 : Int32) Z232 I280 L231 w_I280 bd_Z232 q_I280 cp_Z232   (by first | (refine ⟨by omega, BS0_keep li1 (by omega) (fun q _ => congrFun ao_I280_uO q) (fun q hq => ao_I280_uM q (by omega)) (fun q hq => ao_I280_uG q (by omega)) okMM, hcl9, fun k hk => absurd hk (by omega)⟩) | (have nx := i_nat (x := 0) rfl (by omega); refine ⟨by omega, BS0_keep li1 (by omega) (fun q hq => (fun q _ => congrFun ao_I280_uO q) q (by omega)) (fun q _ => congrFun rfl q) (fun q _ => congrFun rfl q) okMM, by rw [rfl, rfl]; exact li2, fun k hk => ?_⟩; rw [rfl]; by_cases h : k = v4.toNatClampNeg; (rw [show 24 * v3.toNatClampNeg + k = 0 by omega, eI280, h]; exact jpI_at); (rw [(fun q _ => congrFun ao_I280_uO q) _ (by omega)]; exact li3 k (by omega)))) (by omega) (by omega)⟩
      · skip
        first | (have t287 : ¬ (r228.toInt = (0)) := (not_congr (i_eq rfl (show (0 : Int32).toInt = 0 from rfl))).mp c277) | (have t287 : ¬ (r228.toInt = (0 : Int32).toInt) := (not_congr (i_eq rfl rfl)).mp c277) | skip
        have t289 : 0 ≤ (I230 v0 43).toInt ∧ (I230 v0 43).toInt ≤ 24 := w_I230.fld 12 43 k233 (by decide)
        unfold f_X12_runFeast_b73
        have o290 : vp_in v3 (jlen Z232 uM) := vi_of rfl (by omega) (by omega)
        refine ⟨o290, ?_⟩
        intro I291 eI291
        have w_I291 : WD Z232 I291 := by rw [eI291]; exact WD_putA w_I230 12 56 k236 e237 k234 rfl rfl (by decide) (by constructor <;> omega)
        have ao_I291_uM : ∀ q, q ≠ v3.toNatClampNeg → I291 uM q = I uM q := fun q hq => by rw [eI291, jpI_off hq, ao_I230_uM]
        first | (have u292 : (I291 uM (v3.toNatClampNeg)).toInt = (I230 v0 43).toInt := by (rw [eI291, show jpI I230 uM v3.toNatClampNeg (I230 v0 43) uM v3.toNatClampNeg = (I230 v0 43) from jpI_at] <;> exact rfl)) | skip
        have f_I291 : FR [(12, 56)] Z232 I230 Z232 I291 := by rw [eI291]; exact FR_upA w_I230.2.1 k236 e237 k234 rfl rfl List.mem_cons_self
        have q_I291 : FR Ws_X12_runFeast Z0 I0 Z232 I291 := q_I230.trans w0.1 w0.2.1 (f_I291.mono (by decide))
        have ao_I291_uO : I291 uO = I uO := (f_I291.2.2.2 v0 12 55 uO k240 e241 (by rw [k238.2]; rfl) rfl (by decide)).trans ao_I230_uO
        have ao_I291_uG : ∀ q, q ≠ v3.toNatClampNeg → I291 uG q = I uG q := fun q hq => by rw [f_I291.2.2.2 v0 12 57 uG k244 e245 (by rw [k242.2]; rfl) rfl (by decide)]; exact ao_I230_uG q hq
        have ao_I291_uP : I291 uP = I uP := (f_I291.2.2.2 v0 12 61 uP k248 e249 (by rw [k246.2]; rfl) rfl (by decide)).trans ao_I230_uP
        have u293 : (I291 uG (v3.toNatClampNeg)).toInt = (I230 uG (v3.toNatClampNeg)).toInt := by rw [f_I291.2.2.2 v0 12 57 uG k244 e245 (by rw [k242.2]; rfl) rfl (by decide)]
        have u294 : (I291 v0 0).toInt = (I230 v0 0).toInt := by rw [f_I291.2.2.1 v0 12 0 k233 (by decide) (by decide)]
        have u295 : (I291 v0 8).toInt = (I230 v0 8).toInt := by rw [f_I291.2.2.1 v0 12 8 k233 (by decide) (by decide)]
        have u296 : (I291 v0 43).toInt = (I230 v0 43).toInt := by rw [f_I291.2.2.1 v0 12 43 k233 (by decide) (by decide)]
        have hcl9 : (I291 uM v3.toNatClampNeg).toInt = 0 ∨ CRP (I291 uR) (I291 uM v3.toNatClampNeg).toInt ((I0 v0 0).toInt - 1) := by first | exact Or.inl (by omega) | (rcases hcl with h | h; (exfalso; omega); right; rw [f_I291.2.2.2 v0 12 44 uR k252 e253 (by rw [k250.2]; rfl) rfl (by decide), show (I291 uM v3.toNatClampNeg).toInt = cm by omega]; exact h)
        have t297 : (0 : Int32).toInt = 0 := rfl
        exact ⟨(24 - (0 : Int32).toInt).toNat + 1, l_X12_runFeast_L77 w0 v0 v1 kv0_0 uO huO uM huM uG huG uP huP uR huR p0 p1 v2 v3  hQ ih  _ (0 : Int32) Z232 I291 L231 w_I291 bd_Z232 q_I291 cp_Z232   (by first | (refine ⟨by omega, BS0_keep li1 (by omega) (fun q _ => congrFun ao_I291_uO q) (fun q hq => ao_I291_uM q (by omega)) (fun q hq => ao_I291_uG q (by omega)) okMM, hcl9, fun k hk => absurd hk (by omega)⟩) | (have nx := i_nat (x := 0) rfl (by omega); refine ⟨by omega, BS0_keep li1 (by omega) (fun q hq => (fun q _ => congrFun ao_I291_uO q) q (by omega)) (fun q _ => congrFun rfl q) (fun q _ => congrFun rfl q) okMM, by rw [rfl, rfl]; exact li2, fun k hk => ?_⟩; rw [rfl]; by_cases h : k = v4.toNatClampNeg; (rw [show 24 * v3.toNatClampNeg + k = 0 by omega, eI291, h]; exact jpI_at); (rw [(fun q _ => congrFun ao_I291_uO q) _ (by omega)]; exact li3 k (by omega)))) (by omega) (by omega)⟩
set_option maxHeartbeats 4000000 in
set_option maxRecDepth 100000 in
theorem l_X12_runFeast_L2 {B : Nat × Nat} {T : Nat} {Z0 : jZ} {I0 : jI} {Q : Int32 → jZ → jI → jL → Prop} (w0 : WD Z0 I0) (v0 : Nat) (v1 : Int32) (kv0 : jk Z0 v0 12) (uO : Nat) (huO : jr Z0 v0 55 = some uO) (uM : Nat) (huM : jr Z0 v0 56 = some uM) (uG : Nat) (huG : jr Z0 v0 57 = some uG) (uP : Nat) (huP : jr Z0 v0 61 = some uP) (uR : Nat) (huR : jr Z0 v0 44 = some uR) (p0 : 1 ≤ (I0 v0 0).toInt) (p1 : 1 ≤ v1.toInt) (hQ : ∀ (r : Int32) (Z' : jZ) (I' : jI) (L' : jL), WD Z' I' → BUD B Z' T → FR Ws_X12_runFeast Z0 I0 Z' I' → CP Z0 Z' → Q r Z' I' L') : ∀ (n : Nat) (v2 : Int32) (Z : jZ) (I : jI) (L : jL), WD Z I → BUD B Z T → FR Ws_X12_runFeast Z0 I0 Z I → CP Z0 Z →   (0 ≤ v2.toInt ∧ v2.toInt ≤ 24) → 24 - v2.toInt < (n : Int) → f_X12_runFeast_L2 B  Q n v0 v1 v2 Z I L := by
  intro n
  induction n with
  | zero =>
    intro v2 Z I L w_I bd_Z q_I cp_Z   li  me
    exfalso
    omega
  | succ n ih =>
    intro v2 Z I L w_I bd_Z q_I cp_Z   li  me
    unfold f_X12_runFeast_L2
    have rv2 := i_rng v2
    have rv1 := i_rng v1
    have kv0_0 := kv0
    have kv0 := (q_I.1 _ _ kv0).1
    have t298 : 0 ≤ (I v0 0).toInt ∧ (I v0 0).toInt ≤ 24 := w_I.fld 12 0 kv0 (by decide)
    have t299 : 0 ≤ (I v0 8).toInt ∧ (I v0 8).toInt ≤ 6 := w_I.fld 12 8 kv0 (by decide)
    have huO_1 : jr Z v0 55 = some uO := (q_I.2.1 v0 12 55 kv0_0 (by decide) (by decide)).trans huO
    have luO : jlen Z uO = 144 := by obtain ⟨b9, e9, -, l9⟩ := sh_f w_I.1 kv0 (j := 55) (k := 14) (m := 144) rfl; cases huO_1.symm.trans e9; exact l9
    have kuO : jk Z uO 14 := by obtain ⟨b9, e9, k9, -⟩ := sh_f w_I.1 kv0 (j := 55) (k := 14) (m := 144) rfl; cases huO_1.symm.trans e9; exact k9
    have huM_1 : jr Z v0 56 = some uM := (q_I.2.1 v0 12 56 kv0_0 (by decide) (by decide)).trans huM
    have luM : jlen Z uM = 6 := by obtain ⟨b9, e9, -, l9⟩ := sh_f w_I.1 kv0 (j := 56) (k := 14) (m := 6) rfl; cases huM_1.symm.trans e9; exact l9
    have kuM : jk Z uM 14 := by obtain ⟨b9, e9, k9, -⟩ := sh_f w_I.1 kv0 (j := 56) (k := 14) (m := 6) rfl; cases huM_1.symm.trans e9; exact k9
    have huG_1 : jr Z v0 57 = some uG := (q_I.2.1 v0 12 57 kv0_0 (by decide) (by decide)).trans huG
    have luG : jlen Z uG = 6 := by obtain ⟨b9, e9, -, l9⟩ := sh_f w_I.1 kv0 (j := 57) (k := 14) (m := 6) rfl; cases huG_1.symm.trans e9; exact l9
    have kuG : jk Z uG 14 := by obtain ⟨b9, e9, k9, -⟩ := sh_f w_I.1 kv0 (j := 57) (k := 14) (m := 6) rfl; cases huG_1.symm.trans e9; exact k9
    have huP_1 : jr Z v0 61 = some uP := (q_I.2.1 v0 12 61 kv0_0 (by decide) (by decide)).trans huP
    have luP : jlen Z uP = 6 := by obtain ⟨b9, e9, -, l9⟩ := sh_f w_I.1 kv0 (j := 61) (k := 14) (m := 6) rfl; cases huP_1.symm.trans e9; exact l9
    have kuP : jk Z uP 14 := by obtain ⟨b9, e9, k9, -⟩ := sh_f w_I.1 kv0 (j := 61) (k := 14) (m := 6) rfl; cases huP_1.symm.trans e9; exact k9
    have huR_1 : jr Z v0 44 = some uR := (q_I.2.1 v0 12 44 kv0_0 (by decide) (by decide)).trans huR
    have luR : jlen Z uR = 24 := by obtain ⟨b9, e9, -, l9⟩ := sh_f w_I.1 kv0 (j := 44) (k := 14) (m := 24) rfl; cases huR_1.symm.trans e9; exact l9
    have kuR : jk Z uR 14 := by obtain ⟨b9, e9, k9, -⟩ := sh_f w_I.1 kv0 (j := 44) (k := 14) (m := 24) rfl; cases huR_1.symm.trans e9; exact k9
    have xq_I := q_I.1
    have e0 : (I v0 0).toInt = (I0 v0 0).toInt := by rw [q_I.2.2.1 v0 12 0 kv0_0 (by decide) (by decide)]
    have e8 : (I v0 8).toInt = (I0 v0 8).toInt := by rw [q_I.2.2.1 v0 12 8 kv0_0 (by decide) (by decide)]
    have h80 : 0 ≤ (I0 v0 8).toInt ∧ (I0 v0 8).toInt ≤ 6 := w0.fld 12 8 kv0_0 (by decide)
    have h00 : 0 ≤ (I0 v0 0).toInt ∧ (I0 v0 0).toInt ≤ 24 := w0.fld 12 0 kv0_0 (by decide)
    refine ⟨fun c300 => ?_, fun c300 => ?_⟩
    · skip
      first | (have t301 : (24) ≤ v2.toInt := (i_le (show (24 : Int32).toInt = 24 from rfl) rfl).mp c300) | (have t301 : (24 : Int32).toInt ≤ v2.toInt := (i_le rfl rfl).mp c300) | skip
      intro I302 eI302
      have t303 : (0 : Int32).toInt = 0 := rfl
      have w_I302 : WD Z I302 := by rw [eI302]; exact WD_putF w_I 12 60 kv0 (by decide) (by decide) trivial
      have f_I302 : FR [(12, 60)] Z I Z I302 := by rw [eI302]; exact FR_putF kv0 (by decide) List.mem_cons_self
      have q_I302 : FR Ws_X12_runFeast Z0 I0 Z I302 := q_I.trans w0.1 w0.2.1 (f_I302.mono (by decide))
      have ao_I302_uO : I302 uO = I uO := f_I302.2.2.2 v0 12 55 uO kv0 huO_1 (by rw [kuO.2]; rfl) rfl (by decide)
      have ao_I302_uM : I302 uM = I uM := f_I302.2.2.2 v0 12 56 uM kv0 huM_1 (by rw [kuM.2]; rfl) rfl (by decide)
      have ao_I302_uG : I302 uG = I uG := f_I302.2.2.2 v0 12 57 uG kv0 huG_1 (by rw [kuG.2]; rfl) rfl (by decide)
      have ao_I302_uP : I302 uP = I uP := f_I302.2.2.2 v0 12 61 uP kv0 huP_1 (by rw [kuP.2]; rfl) rfl (by decide)
      have ao_I302_uR : I302 uR = I uR := f_I302.2.2.2 v0 12 44 uR kv0 huR_1 (by rw [kuR.2]; rfl) rfl (by decide)
      have u304 : (I302 v0 0).toInt = (I v0 0).toInt := by rw [f_I302.2.2.1 v0 12 0 kv0 (by decide) (by decide)]
      have u305 : (I302 v0 8).toInt = (I v0 8).toInt := by rw [f_I302.2.2.1 v0 12 8 kv0 (by decide) (by decide)]
      first | (have u306 : (I302 v0 60).toInt = (0) := by (rw [eI302, show jpI I v0 60 (0 : Int32) v0 60 = (0 : Int32) from jpI_at] <;> exact (show (0 : Int32).toInt = 0 from rfl))) | skip
      have t307 : (0 : Int32).toInt = 0 := rfl
      have t308 : (0 : Int32).toInt = 0 := rfl
      exact ⟨(6 - (0 : Int32).toInt).toNat + 1, l_X12_runFeast_L30 w0 v0 v1 kv0_0 uO huO uM huM uG huG uP huP uR huR p0 p1   hQ   _ (0 : Int32) (0 : Int32) Z I302 L w_I302 bd_Z q_I302 cp_Z   (by first | (exact ⟨by omega, ⟨by rw [show (0 : Int32).toInt = 0 from rfl]; rfl, fun p hp => absurd hp (by omega), fun p hp => absurd hp (by omega)⟩⟩) | (exact ⟨by omega, BS0_next (p := v3.toNatClampNeg) (R := I uR) li1 nv3 (by omega) (by omega) (okMM _) li2 (fun k hk => li3 k (by omega)) (by omega)⟩))  (by omega)⟩
    · skip
      first | (have t309 : ¬ ((24) ≤ v2.toInt) := (not_congr (i_le (show (24 : Int32).toInt = 24 from rfl) rfl)).mp c300) | (have t309 : ¬ ((24 : Int32).toInt ≤ v2.toInt) := (not_congr (i_le rfl rfl)).mp c300) | skip
      intro b310 eb310
      obtain ⟨x311, ex311, kb310, lb310⟩ := sh_f w_I.1 kv0 (j := 59) (k := 14) (m := 24) rfl
      cases eb310.symm.trans ex311
      have o312 : vp_in v2 24 := vi_of rfl (by omega) (by omega)
      refine ⟨o312, ?_⟩
      intro I313 eI313
      have t314 : (0 : Int32).toInt = 0 := rfl
      have w_I313 : WD Z I313 := by rw [eI313]; exact WD_putA w_I 12 59 kv0 eb310 kb310 rfl rfl (by decide) trivial
      have f_I313 : FR [(12, 59)] Z I Z I313 := by rw [eI313]; exact FR_upA w_I.2.1 kv0 eb310 kb310 rfl rfl List.mem_cons_self
      have q_I313 : FR Ws_X12_runFeast Z0 I0 Z I313 := q_I.trans w0.1 w0.2.1 (f_I313.mono (by decide))
      have ao_I313_uO : I313 uO = I uO := f_I313.2.2.2 v0 12 55 uO kv0 huO_1 (by rw [kuO.2]; rfl) rfl (by decide)
      have ao_I313_uM : I313 uM = I uM := f_I313.2.2.2 v0 12 56 uM kv0 huM_1 (by rw [kuM.2]; rfl) rfl (by decide)
      have ao_I313_uG : I313 uG = I uG := f_I313.2.2.2 v0 12 57 uG kv0 huG_1 (by rw [kuG.2]; rfl) rfl (by decide)
      have ao_I313_uP : I313 uP = I uP := f_I313.2.2.2 v0 12 61 uP kv0 huP_1 (by rw [kuP.2]; rfl) rfl (by decide)
      have ao_I313_uR : I313 uR = I uR := f_I313.2.2.2 v0 12 44 uR kv0 huR_1 (by rw [kuR.2]; rfl) rfl (by decide)
      have u315 : (I313 v0 0).toInt = (I v0 0).toInt := by rw [f_I313.2.2.1 v0 12 0 kv0 (by decide) (by decide)]
      have u316 : (I313 v0 8).toInt = (I v0 8).toInt := by rw [f_I313.2.2.1 v0 12 8 kv0 (by decide) (by decide)]
      intro x317 ex317
      have rx317 := i_rng x317
      first | (have tx317 : x317.toInt = v2.toInt + (1) := by (rw [ex317]; exact (i_add rfl (show (1 : Int32).toInt = 1 from rfl) (by omega) (by omega)))) | skip
      exact ih x317 Z I313 L w_I313 bd_Z q_I313 cp_Z   (by omega)  (by omega)
set_option maxHeartbeats 4000000 in
set_option maxRecDepth 100000 in
theorem s_X12_runFeast {B : Nat × Nat} {T : Nat} {Z : jZ} {I : jI} {L : jL} (w_I : WD Z I) (bd_Z : BUD B Z T) (v0 : Nat) (v1 : Int32) (kv0 : jk Z v0 12) (uO : Nat) (huO : jr Z v0 55 = some uO) (uM : Nat) (huM : jr Z v0 56 = some uM) (uG : Nat) (huG : jr Z v0 57 = some uG) (uP : Nat) (huP : jr Z v0 61 = some uP) (uR : Nat) (huR : jr Z v0 44 = some uR) (p0 : 1 ≤ (I v0 0).toInt) (p1 : 1 ≤ v1.toInt) {Q : Int32 → jZ → jI → jL → Prop} (hQ : ∀ (r : Int32) (Z' : jZ) (I' : jI) (L' : jL), WD Z' I' → BUD B Z' T → FR Ws_X12_runFeast Z I Z' I' → CP Z Z' → Q r Z' I' L') : f_X12_runFeast B v0 v1 Z I L Q := by
  unfold f_X12_runFeast
  have q_I : FR Ws_X12_runFeast Z I Z I := FR.rf
  have cp_Z : CP Z Z := CP.rf
  have rv1 := i_rng v1
  have t318 : 0 ≤ (I v0 0).toInt ∧ (I v0 0).toInt ≤ 24 := w_I.fld 12 0 kv0 (by decide)
  have t319 : 0 ≤ (I v0 8).toInt ∧ (I v0 8).toInt ≤ 6 := w_I.fld 12 8 kv0 (by decide)
  have luO : jlen Z uO = 144 := by obtain ⟨b9, e9, -, l9⟩ := sh_f w_I.1 kv0 (j := 55) (k := 14) (m := 144) rfl; cases huO.symm.trans e9; exact l9
  have kuO : jk Z uO 14 := by obtain ⟨b9, e9, k9, -⟩ := sh_f w_I.1 kv0 (j := 55) (k := 14) (m := 144) rfl; cases huO.symm.trans e9; exact k9
  have luM : jlen Z uM = 6 := by obtain ⟨b9, e9, -, l9⟩ := sh_f w_I.1 kv0 (j := 56) (k := 14) (m := 6) rfl; cases huM.symm.trans e9; exact l9
  have kuM : jk Z uM 14 := by obtain ⟨b9, e9, k9, -⟩ := sh_f w_I.1 kv0 (j := 56) (k := 14) (m := 6) rfl; cases huM.symm.trans e9; exact k9
  have luG : jlen Z uG = 6 := by obtain ⟨b9, e9, -, l9⟩ := sh_f w_I.1 kv0 (j := 57) (k := 14) (m := 6) rfl; cases huG.symm.trans e9; exact l9
  have kuG : jk Z uG 14 := by obtain ⟨b9, e9, k9, -⟩ := sh_f w_I.1 kv0 (j := 57) (k := 14) (m := 6) rfl; cases huG.symm.trans e9; exact k9
  have luP : jlen Z uP = 6 := by obtain ⟨b9, e9, -, l9⟩ := sh_f w_I.1 kv0 (j := 61) (k := 14) (m := 6) rfl; cases huP.symm.trans e9; exact l9
  have kuP : jk Z uP 14 := by obtain ⟨b9, e9, k9, -⟩ := sh_f w_I.1 kv0 (j := 61) (k := 14) (m := 6) rfl; cases huP.symm.trans e9; exact k9
  have luR : jlen Z uR = 24 := by obtain ⟨b9, e9, -, l9⟩ := sh_f w_I.1 kv0 (j := 44) (k := 14) (m := 24) rfl; cases huR.symm.trans e9; exact l9
  have kuR : jk Z uR 14 := by obtain ⟨b9, e9, k9, -⟩ := sh_f w_I.1 kv0 (j := 44) (k := 14) (m := 24) rfl; cases huR.symm.trans e9; exact k9
  have t320 : (0 : Int32).toInt = 0 := rfl
  exact ⟨(24 - (0 : Int32).toInt).toNat + 1, l_X12_runFeast_L2 w_I v0 v1 kv0 uO huO uM huM uG huG uP huP uR huR p0 p1   hQ   _ (0 : Int32) Z I L w_I bd_Z q_I cp_Z   (by omega)  (by omega)⟩
end
section
def Ws_X12_feast : List (Nat × Nat) := [(12, 21), (12, 22), (12, 24), (12, 25), (12, 26), (12, 27), (12, 31), (12, 32), (12, 33), (12, 34), (12, 37), (12, 38), (12, 40), (12, 41), (12, 42), (12, 43), (12, 44), (12, 55), (12, 56), (12, 57), (12, 58), (12, 59), (12, 60), (12, 61)]
set_option maxHeartbeats 4000000 in
set_option maxRecDepth 100000 in
theorem l_X12_feast_L38 {B : Nat × Nat} {T : Nat} {Z0 : jZ} {I0 : jI} {Q : Int32 → jZ → jI → jL → Prop} (w0 : WD Z0 I0) (v0 : Nat) (v1 : Int32) (kv0 : jk Z0 v0 12) (v2 : Int32) (hQ : ∀ (r : Int32) (Z' : jZ) (I' : jI) (L' : jL), WD Z' I' → BUD B Z' T → FR Ws_X12_feast Z0 I0 Z' I' → CP Z0 Z' → Q r Z' I' L') : ∀ (n : Nat) (v3 : Int32) (v4 : Int32) (v5 : Int32) (Z : jZ) (I : jI) (L : jL), WD Z I → BUD B Z T → FR Ws_X12_feast Z0 I0 Z I → CP Z0 Z →   (0 ≤ v5.toInt ∧ v5.toInt ≤ 6) → 6 - v5.toInt < (n : Int) → f_X12_feast_L38 B  Q n v0 v2 v3 v4 v5 Z I L := by
  intro n
  induction n with
  | zero =>
    intro v3 v4 v5 Z I L w_I bd_Z q_I cp_Z   li  me
    exfalso
    omega
  | succ n ih =>
    intro v3 v4 v5 Z I L w_I bd_Z q_I cp_Z   li  me
    unfold f_X12_feast_L38
    have rv3 := i_rng v3
    have rv4 := i_rng v4
    have rv5 := i_rng v5
    have rv2 := i_rng v2
    have rv1 := i_rng v1
    have kv0_0 := kv0
    have kv0 := (q_I.1 _ _ kv0).1
    have t1 : 0 ≤ (I v0 0).toInt ∧ (I v0 0).toInt ≤ 24 := w_I.fld 12 0 kv0 (by decide)
    have xq_I := q_I.1
    have t3 : 0 ≤ (I v0 8).toInt ∧ (I v0 8).toInt ≤ 6 := w_I.fld 12 8 kv0 (by decide)
    refine ⟨fun c4 => ?_, fun c4 => ?_⟩
    · skip
      first | (have t5 : (I v0 8).toInt ≤ v5.toInt := (i_le rfl rfl).mp c4) | (have t5 : (I v0 8).toInt ≤ v5.toInt := (i_le rfl rfl).mp c4) | skip
      intro I6 eI6
      have t7 : (0 : Int32).toInt = 0 := rfl
      have w_I6 : WD Z I6 := by rw [eI6]; exact WD_putF w_I 12 21 kv0 (by decide) (by decide) (by constructor <;> omega)
      have f_I6 : FR [(12, 21)] Z I Z I6 := by rw [eI6]; exact FR_putF kv0 (by decide) List.mem_cons_self
      have q_I6 : FR Ws_X12_feast Z0 I0 Z I6 := q_I.trans w0.1 w0.2.1 (f_I6.mono (by decide))
      have u8 : (I6 v0 0).toInt = (I v0 0).toInt := by rw [f_I6.2.2.1 v0 12 0 kv0 (by decide) (by decide)]
      have u9 : (I6 v0 8).toInt = (I v0 8).toInt := by rw [f_I6.2.2.1 v0 12 8 kv0 (by decide) (by decide)]
      first | (have u10 : (I6 v0 21).toInt = (0) := by (rw [eI6, show jpI I v0 21 (0 : Int32) v0 21 = (0 : Int32) from jpI_at] <;> exact (show (0 : Int32).toInt = 0 from rfl))) | skip
      refine s_X12_tell w_I6 v0 (v3.toInt64) kv0  (by omega) (fun  I12 L13 w_I12 f_I12 p11 => ?_)
      have q_I12 : FR Ws_X12_feast Z0 I0 Z I12 := q_I6.trans w0.1 w0.2.1 (f_I12.mono (by decide))
      have u14 : (I12 v0 0).toInt = (I6 v0 0).toInt := by rw [f_I12.2.2.1 v0 12 0 kv0 (by decide) (by decide)]
      have u15 : (I12 v0 8).toInt = (I6 v0 8).toInt := by rw [f_I12.2.2.1 v0 12 8 kv0 (by decide) (by decide)]
      refine s_X12_tell w_I12 v0 (v4.toInt64) kv0  (by omega) (fun  I17 L18 w_I17 f_I17 p16 => ?_)
      have q_I17 : FR Ws_X12_feast Z0 I0 Z I17 := q_I12.trans w0.1 w0.2.1 (f_I17.mono (by decide))
      have u19 : (I17 v0 0).toInt = (I12 v0 0).toInt := by rw [f_I17.2.2.1 v0 12 0 kv0 (by decide) (by decide)]
      have u20 : (I17 v0 8).toInt = (I12 v0 8).toInt := by rw [f_I17.2.2.1 v0 12 8 kv0 (by decide) (by decide)]
      refine s_X12_tell w_I17 v0 ((I17 v0 60).toInt64) kv0  (by omega) (fun  I22 L23 w_I22 f_I22 p21 => ?_)
      have q_I22 : FR Ws_X12_feast Z0 I0 Z I22 := q_I17.trans w0.1 w0.2.1 (f_I22.mono (by decide))
      have u24 : (I22 v0 0).toInt = (I17 v0 0).toInt := by rw [f_I22.2.2.1 v0 12 0 kv0 (by decide) (by decide)]
      have u25 : (I22 v0 8).toInt = (I17 v0 8).toInt := by rw [f_I22.2.2.1 v0 12 8 kv0 (by decide) (by decide)]
      have u26 : (I22 v0 60).toInt = (I17 v0 60).toInt := by rw [f_I22.2.2.1 v0 12 60 kv0 (by decide) (by decide)]
      exact hQ v2 Z I22 L23 w_I22 bd_Z q_I22 cp_Z 
    · skip
      first | (have t27 : ¬ ((I v0 8).toInt ≤ v5.toInt) := (not_congr (i_le rfl rfl)).mp c4) | (have t27 : ¬ ((I v0 8).toInt ≤ v5.toInt) := (not_congr (i_le rfl rfl)).mp c4) | skip
      intro b28 eb28
      obtain ⟨x29, ex29, kb28, lb28⟩ := sh_f w_I.1 kv0 (j := 58) (k := 14) (m := 6) rfl
      cases eb28.symm.trans ex29
      have o30 : vp_in v5 6 := vi_of rfl (by omega) (by omega)
      refine ⟨o30, ?_⟩
      refine ⟨fun c31 => ?_, fun c31 => ?_⟩
      · skip
        first | (have t32 : v3.toInt < (I b28 v5.toNatClampNeg).toInt := (i_lt rfl rfl).mp c31) | (have t32 : v3.toInt < (I b28 v5.toNatClampNeg).toInt := (i_lt rfl rfl).mp c31) | skip
        intro b33 eb33
        obtain rfl : b28 = b33 := Option.some.inj (eb28.symm.trans eb33)
        have o34 : vp_in v5 6 := vi_of rfl (by omega) (by omega)
        refine ⟨o34, ?_⟩
        intro x35 ex35
        have rx35 := i_rng x35
        first | (have tx35 : x35.toInt = (I b28 v5.toNatClampNeg).toInt := by (rw [ex35]; exact rfl)) | (have tx35 : x35.toInt = (I b28 v5.toNatClampNeg).toInt := by rw [ex35])
        unfold f_X12_feast_b73
        intro x36 ex36
        have rx36 := i_rng x36
        first | (have tx36 : x36.toInt = v5.toInt + (1) := by (rw [ex36]; exact (i_add rfl (show (1 : Int32).toInt = 1 from rfl) (by omega) (by omega)))) | skip
        exact ih x35 v5 x36 Z I L w_I bd_Z q_I cp_Z   (by omega)  (by omega)
      · skip
        first | (have t37 : ¬ (v3.toInt < (I b28 v5.toNatClampNeg).toInt) := (not_congr (i_lt rfl rfl)).mp c31) | (have t37 : ¬ (v3.toInt < (I b28 v5.toNatClampNeg).toInt) := (not_congr (i_lt rfl rfl)).mp c31) | skip
        unfold f_X12_feast_b73
        intro x38 ex38
        have rx38 := i_rng x38
        first | (have tx38 : x38.toInt = v5.toInt + (1) := by (rw [ex38]; exact (i_add rfl (show (1 : Int32).toInt = 1 from rfl) (by omega) (by omega)))) | skip
        exact ih v3 v4 x38 Z I L w_I bd_Z q_I cp_Z   (by omega)  (by omega)
set_option maxHeartbeats 4000000 in
set_option maxRecDepth 100000 in
theorem s_X12_feast {B : Nat × Nat} {T : Nat} {Z : jZ} {I : jI} {L : jL} (w_I : WD Z I) (bd_Z : BUD B Z T) (v0 : Nat) (v1 : Int32) (kv0 : jk Z v0 12) {Q : Int32 → jZ → jI → jL → Prop} (hQ : ∀ (r : Int32) (Z' : jZ) (I' : jI) (L' : jL), WD Z' I' → BUD B Z' T → FR Ws_X12_feast Z I Z' I' → CP Z Z' → Q r Z' I' L') : f_X12_feast B v0 v1 Z I L Q := by
  unfold f_X12_feast
  have q_I : FR Ws_X12_feast Z I Z I := FR.rf
  have cp_Z : CP Z Z := CP.rf
  have rv1 := i_rng v1
  have t39 : 0 ≤ (I v0 0).toInt ∧ (I v0 0).toInt ≤ 24 := w_I.fld 12 0 kv0 (by decide)
  intro I40 eI40
  have t41 : (0 : Int32).toInt = 0 := rfl
  have w_I40 : WD Z I40 := by rw [eI40]; exact WD_putF w_I 12 22 kv0 (by decide) (by decide) trivial
  have f_I40 : FR [(12, 22)] Z I Z I40 := by rw [eI40]; exact FR_putF kv0 (by decide) List.mem_cons_self
  have q_I40 : FR Ws_X12_feast Z I Z I40 := q_I.trans w_I.1 w_I.2.1 (f_I40.mono (by decide))
  have u42 : (I40 v0 0).toInt = (I v0 0).toInt := by rw [f_I40.2.2.1 v0 12 0 kv0 (by decide) (by decide)]
  first | (have u43 : (I40 v0 22).toInt = (0) := by (rw [eI40, show jpI I v0 22 (0 : Int32) v0 22 = (0 : Int32) from jpI_at] <;> exact (show (0 : Int32).toInt = 0 from rfl))) | skip
  have t45 : 0 ≤ (I40 v0 0).toInt ∧ (I40 v0 0).toInt ≤ 24 := w_I40.fld 12 0 kv0 (by decide)
  refine ⟨fun c46 => ?_, fun c46 => ?_⟩
  · skip
    first | (have t47 : (I40 v0 0).toInt = (0) := (i_eq rfl (show (0 : Int32).toInt = 0 from rfl)).mp c46) | (have t47 : (I40 v0 0).toInt = (0 : Int32).toInt := (i_eq rfl rfl).mp c46) | skip
    have t48 : (-1 : Int32).toInt = -1 := rfl
    exact hQ (-1 : Int32) Z I40 L w_I40 bd_Z q_I40 cp_Z 
  · skip
    first | (have t49 : ¬ ((I40 v0 0).toInt = (0)) := (not_congr (i_eq rfl (show (0 : Int32).toInt = 0 from rfl))).mp c46) | (have t49 : ¬ ((I40 v0 0).toInt = (0 : Int32).toInt) := (not_congr (i_eq rfl rfl)).mp c46) | skip
    have t50 : (1 : Int32).toInt = 1 := rfl
    have t51 : (6 : Int32).toInt = 6 := rfl
    refine s_X12_in w_I40 v1 (1 : Int32) (6 : Int32)    (fun r52 p53 => ?_)
    have rr52 := i_rng r52
    refine ⟨fun c54 => ?_, fun c54 => ?_⟩
    · skip
      first | (have t55 : ¬ (r52.toInt = (0)) := (not_congr (i_eq rfl (show (0 : Int32).toInt = 0 from rfl))).mp c54) | (have t55 : ¬ (r52.toInt = (0 : Int32).toInt) := (not_congr (i_eq rfl rfl)).mp c54) | skip
      obtain ⟨b56, eb56, kb56, lb56⟩ := sh_f w_I40.1 kv0 (j := 55) (k := 14) (m := 144) rfl
      obtain ⟨b57, eb57, kb57, lb57⟩ := sh_f w_I40.1 kv0 (j := 56) (k := 14) (m := 6) rfl
      obtain ⟨b58, eb58, kb58, lb58⟩ := sh_f w_I40.1 kv0 (j := 57) (k := 14) (m := 6) rfl
      obtain ⟨b59, eb59, kb59, lb59⟩ := sh_f w_I40.1 kv0 (j := 61) (k := 14) (m := 6) rfl
      obtain ⟨b60, eb60, kb60, lb60⟩ := sh_f w_I40.1 kv0 (j := 44) (k := 14) (m := 24) rfl
      refine s_X12_runFeast w_I40 bd_Z v0 v1 kv0 b56 eb56 b57 eb57 b58 eb58 b59 eb59 b60 eb60 (by omega) (by omega) (fun r61 Z64 I62 L63 w_I62 bd_Z64 f_I62 c_Z64  => ?_)
      have q_I62 : FR Ws_X12_feast Z I Z64 I62 := q_I40.trans w_I.1 w_I.2.1 (f_I62.mono (by decide))
      have cp_Z64 : CP Z Z64 := cp_Z.trans q_I40.1 c_Z64
      have x_Z64 := f_I62.1
      have k65 := (f_I62.1 _ _ kv0).1
      have k66 := (f_I62.1 _ _ kb56).1
      have l67 := (f_I62.1 _ _ kb56).2.trans lb56
      have k68 := (f_I62.1 _ _ kv0).1
      have e69 := (f_I62.2.1 v0 12 55 kv0 (by decide) (by decide)).trans eb56
      have k70 := (f_I62.1 _ _ kb57).1
      have l71 := (f_I62.1 _ _ kb57).2.trans lb57
      have k72 := (f_I62.1 _ _ kv0).1
      have e73 := (f_I62.2.1 v0 12 56 kv0 (by decide) (by decide)).trans eb57
      have k74 := (f_I62.1 _ _ kb58).1
      have l75 := (f_I62.1 _ _ kb58).2.trans lb58
      have k76 := (f_I62.1 _ _ kv0).1
      have e77 := (f_I62.2.1 v0 12 57 kv0 (by decide) (by decide)).trans eb58
      have k78 := (f_I62.1 _ _ kb59).1
      have l79 := (f_I62.1 _ _ kb59).2.trans lb59
      have k80 := (f_I62.1 _ _ kv0).1
      have e81 := (f_I62.2.1 v0 12 61 kv0 (by decide) (by decide)).trans eb59
      have k82 := (f_I62.1 _ _ kb60).1
      have l83 := (f_I62.1 _ _ kb60).2.trans lb60
      have k84 := (f_I62.1 _ _ kv0).1
      have e85 := (f_I62.2.1 v0 12 44 kv0 (by decide) (by decide)).trans eb60
      have u86 : (I62 v0 0).toInt = (I40 v0 0).toInt := by rw [f_I62.2.2.1 v0 12 0 kv0 (by decide) (by decide)]
      have u87 : (I62 v0 22).toInt = (I40 v0 22).toInt := by rw [f_I62.2.2.1 v0 12 22 kv0 (by decide) (by decide)]
      have rr61 := i_rng r61
      have t88 : (0 : Int32).toInt = 0 := rfl
      have t89 : (-1 : Int32).toInt = -1 := rfl
      have t90 : (0 : Int32).toInt = 0 := rfl
      exact ⟨(6 - (0 : Int32).toInt).toNat + 1, l_X12_feast_L38 w_I v0 v1 kv0 r61  hQ   _ (0 : Int32) (-1 : Int32) (0 : Int32) Z64 I62 L63 w_I62 bd_Z64 q_I62 cp_Z64   (by omega)  (by omega)⟩
    · skip
      first | (have t91 : r52.toInt = (0) := (i_eq rfl (show (0 : Int32).toInt = 0 from rfl)).mp c54) | (have t91 : r52.toInt = (0 : Int32).toInt := (i_eq rfl rfl).mp c54) | skip
      have t92 : (-1 : Int32).toInt = -1 := rfl
      exact hQ (-1 : Int32) Z I40 L w_I40 bd_Z q_I40 cp_Z 
def Ws_X12_jam : List (Nat × Nat) := [(12, 21), (12, 22), (12, 24), (12, 25), (12, 26), (12, 27), (12, 31), (12, 32), (12, 33), (12, 34), (12, 37), (12, 38), (12, 40), (12, 41), (12, 42), (12, 43), (12, 44), (12, 55), (12, 56), (12, 57), (12, 58), (12, 59), (12, 60), (12, 61)]
set_option maxHeartbeats 4000000 in
set_option maxRecDepth 100000 in
theorem l_X12_jam_L26 {B : Nat × Nat} {T : Nat} {Z0 : jZ} {I0 : jI} {Q : Int32 → jZ → jI → jL → Prop} (w0 : WD Z0 I0) (v0 : Nat) (kv0 : jk Z0 v0 12) (hQ : ∀ (r : Int32) (Z' : jZ) (I' : jI) (L' : jL), WD Z' I' → BUD B Z' T → FR Ws_X12_jam Z0 I0 Z' I' → CP Z0 Z' → Q r Z' I' L') : ∀ (n : Nat) (v1 : Int32) (v2 : Int32) (Z : jZ) (I : jI) (L : jL), WD Z I → BUD B Z T → FR Ws_X12_jam Z0 I0 Z I → CP Z0 Z →   (-2 ≤ v1.toInt ∧ v1.toInt ≤ 23 ∧ 0 ≤ v2.toInt ∧ v2.toInt ≤ 24) → 24 - v2.toInt < (n : Int) → f_X12_jam_L26 B  Q n v0 v1 v2 Z I L := by
  intro n
  induction n with
  | zero =>
    intro v1 v2 Z I L w_I bd_Z q_I cp_Z   li  me
    exfalso
    omega
  | succ n ih =>
    intro v1 v2 Z I L w_I bd_Z q_I cp_Z   li  me
    unfold f_X12_jam_L26
    have rv1 := i_rng v1
    have rv2 := i_rng v2
    have kv0_0 := kv0
    have kv0 := (q_I.1 _ _ kv0).1
    have t1 : 0 ≤ (I v0 0).toInt ∧ (I v0 0).toInt ≤ 24 := w_I.fld 12 0 kv0 (by decide)
    have xq_I := q_I.1
    have t3 : 0 ≤ (I v0 0).toInt ∧ (I v0 0).toInt ≤ 24 := w_I.fld 12 0 kv0 (by decide)
    refine ⟨fun c4 => ?_, fun c4 => ?_⟩
    · skip
      first | (have t5 : (I v0 0).toInt ≤ v2.toInt := (i_le rfl rfl).mp c4) | (have t5 : (I v0 0).toInt ≤ v2.toInt := (i_le rfl rfl).mp c4) | skip
      refine ⟨fun c6 => ?_, fun c6 => ?_⟩
      · skip
        first | (have t7 : (0) ≤ v1.toInt := (i_le (show (0 : Int32).toInt = 0 from rfl) rfl).mp c6) | (have t7 : (0 : Int32).toInt ≤ v1.toInt := (i_le rfl rfl).mp c6) | skip
        intro I8 eI8
        have t9 : (0 : Int32).toInt = 0 := rfl
        have w_I8 : WD Z I8 := by rw [eI8]; exact WD_putF w_I 12 21 kv0 (by decide) (by decide) (by constructor <;> omega)
        have f_I8 : FR [(12, 21)] Z I Z I8 := by rw [eI8]; exact FR_putF kv0 (by decide) List.mem_cons_self
        have q_I8 : FR Ws_X12_jam Z0 I0 Z I8 := q_I.trans w0.1 w0.2.1 (f_I8.mono (by decide))
        have u10 : (I8 v0 0).toInt = (I v0 0).toInt := by rw [f_I8.2.2.1 v0 12 0 kv0 (by decide) (by decide)]
        first | (have u11 : (I8 v0 21).toInt = (0) := by (rw [eI8, show jpI I v0 21 (0 : Int32) v0 21 = (0 : Int32) from jpI_at] <;> exact (show (0 : Int32).toInt = 0 from rfl))) | skip
        intro b12 eb12
        obtain ⟨x13, ex13, kb12, lb12⟩ := sh_f w_I8.1 kv0 (j := 59) (k := 14) (m := 24) rfl
        cases eb12.symm.trans ex13
        have o14 : vp_in v1 24 := vi_of rfl (by omega) (by omega)
        refine ⟨o14, ?_⟩
        refine s_X12_tell w_I8 v0 ((I8 b12 v1.toNatClampNeg).toInt64) kv0  (by omega) (fun  I16 L17 w_I16 f_I16 p15 => ?_)
        have q_I16 : FR Ws_X12_jam Z0 I0 Z I16 := q_I8.trans w0.1 w0.2.1 (f_I16.mono (by decide))
        have u18 : (I16 v0 0).toInt = (I8 v0 0).toInt := by rw [f_I16.2.2.1 v0 12 0 kv0 (by decide) (by decide)]
        exact hQ v1 Z I16 L17 w_I16 bd_Z q_I16 cp_Z 
      · skip
        first | (have t19 : ¬ ((0) ≤ v1.toInt) := (not_congr (i_le (show (0 : Int32).toInt = 0 from rfl) rfl)).mp c6) | (have t19 : ¬ ((0 : Int32).toInt ≤ v1.toInt) := (not_congr (i_le rfl rfl)).mp c6) | skip
        have t20 : (-2 : Int32).toInt = -2 := rfl
        exact hQ (-2 : Int32) Z I L w_I bd_Z q_I cp_Z 
    · skip
      first | (have t21 : ¬ ((I v0 0).toInt ≤ v2.toInt) := (not_congr (i_le rfl rfl)).mp c4) | (have t21 : ¬ ((I v0 0).toInt ≤ v2.toInt) := (not_congr (i_le rfl rfl)).mp c4) | skip
      intro b22 eb22
      obtain ⟨x23, ex23, kb22, lb22⟩ := sh_f w_I.1 kv0 (j := 59) (k := 14) (m := 24) rfl
      cases eb22.symm.trans ex23
      have o24 : vp_in v2 24 := vi_of rfl (by omega) (by omega)
      refine ⟨o24, ?_⟩
      refine ⟨fun c25 => ?_, fun c25 => ?_⟩
      · skip
        first | (have t26 : (0) ≤ v1.toInt := (i_le (show (0 : Int32).toInt = 0 from rfl) rfl).mp c25) | (have t26 : (0 : Int32).toInt ≤ v1.toInt := (i_le rfl rfl).mp c25) | skip
        intro b27 eb27
        obtain rfl : b22 = b27 := Option.some.inj (eb22.symm.trans eb27)
        have o28 : vp_in v1 24 := vi_of rfl (by omega) (by omega)
        refine ⟨o28, ?_⟩
        unfold f_X12_jam_b54
        refine ⟨fun c29 => ?_, fun c29 => ?_⟩
        · skip
          first | (have t30 : (I b22 v2.toNatClampNeg).toInt ≤ (I b22 v1.toNatClampNeg).toInt := (i_le rfl rfl).mp c29) | (have t30 : (I b22 v2.toNatClampNeg).toInt ≤ (I b22 v1.toNatClampNeg).toInt := (i_le rfl rfl).mp c29) | skip
          unfold f_X12_jam_b59
          intro x31 ex31
          have rx31 := i_rng x31
          first | (have tx31 : x31.toInt = v2.toInt + (1) := by (rw [ex31]; exact (i_add rfl (show (1 : Int32).toInt = 1 from rfl) (by omega) (by omega)))) | skip
          exact ih v1 x31 Z I L w_I bd_Z q_I cp_Z   (by omega)  (by omega)
        · skip
          first | (have t32 : ¬ ((I b22 v2.toNatClampNeg).toInt ≤ (I b22 v1.toNatClampNeg).toInt) := (not_congr (i_le rfl rfl)).mp c29) | (have t32 : ¬ ((I b22 v2.toNatClampNeg).toInt ≤ (I b22 v1.toNatClampNeg).toInt) := (not_congr (i_le rfl rfl)).mp c29) | skip
          unfold f_X12_jam_b59
          intro x33 ex33
          have rx33 := i_rng x33
          first | (have tx33 : x33.toInt = v2.toInt + (1) := by (rw [ex33]; exact (i_add rfl (show (1 : Int32).toInt = 1 from rfl) (by omega) (by omega)))) | skip
          exact ih v2 x33 Z I L w_I bd_Z q_I cp_Z   (by omega)  (by omega)
      · skip
        first | (have t34 : ¬ ((0) ≤ v1.toInt) := (not_congr (i_le (show (0 : Int32).toInt = 0 from rfl) rfl)).mp c25) | (have t34 : ¬ ((0 : Int32).toInt ≤ v1.toInt) := (not_congr (i_le rfl rfl)).mp c25) | skip
        unfold f_X12_jam_b54
        refine ⟨fun c35 => ?_, fun c35 => ?_⟩
        · skip
          first | (have t36 : (I b22 v2.toNatClampNeg).toInt ≤ (0) := (i_le rfl (show (0 : Int32).toInt = 0 from rfl)).mp c35) | (have t36 : (I b22 v2.toNatClampNeg).toInt ≤ (0 : Int32).toInt := (i_le rfl rfl).mp c35) | skip
          unfold f_X12_jam_b59
          intro x37 ex37
          have rx37 := i_rng x37
          first | (have tx37 : x37.toInt = v2.toInt + (1) := by (rw [ex37]; exact (i_add rfl (show (1 : Int32).toInt = 1 from rfl) (by omega) (by omega)))) | skip
          exact ih v1 x37 Z I L w_I bd_Z q_I cp_Z   (by omega)  (by omega)
        · skip
          first | (have t38 : ¬ ((I b22 v2.toNatClampNeg).toInt ≤ (0)) := (not_congr (i_le rfl (show (0 : Int32).toInt = 0 from rfl))).mp c35) | (have t38 : ¬ ((I b22 v2.toNatClampNeg).toInt ≤ (0 : Int32).toInt) := (not_congr (i_le rfl rfl)).mp c35) | skip
          unfold f_X12_jam_b59
          intro x39 ex39
          have rx39 := i_rng x39
          first | (have tx39 : x39.toInt = v2.toInt + (1) := by (rw [ex39]; exact (i_add rfl (show (1 : Int32).toInt = 1 from rfl) (by omega) (by omega)))) | skip
          exact ih v2 x39 Z I L w_I bd_Z q_I cp_Z   (by omega)  (by omega)
set_option maxHeartbeats 4000000 in
set_option maxRecDepth 100000 in
theorem s_X12_jam {B : Nat × Nat} {T : Nat} {Z : jZ} {I : jI} {L : jL} (w_I : WD Z I) (bd_Z : BUD B Z T) (v0 : Nat) (kv0 : jk Z v0 12) {Q : Int32 → jZ → jI → jL → Prop} (hQ : ∀ (r : Int32) (Z' : jZ) (I' : jI) (L' : jL), WD Z' I' → BUD B Z' T → FR Ws_X12_jam Z I Z' I' → CP Z Z' → Q r Z' I' L') : f_X12_jam B v0 Z I L Q := by
  unfold f_X12_jam
  have q_I : FR Ws_X12_jam Z I Z I := FR.rf
  have cp_Z : CP Z Z := CP.rf
  have t40 : 0 ≤ (I v0 0).toInt ∧ (I v0 0).toInt ≤ 24 := w_I.fld 12 0 kv0 (by decide)
  intro I41 eI41
  have t42 : (0 : Int32).toInt = 0 := rfl
  have w_I41 : WD Z I41 := by rw [eI41]; exact WD_putF w_I 12 22 kv0 (by decide) (by decide) trivial
  have f_I41 : FR [(12, 22)] Z I Z I41 := by rw [eI41]; exact FR_putF kv0 (by decide) List.mem_cons_self
  have q_I41 : FR Ws_X12_jam Z I Z I41 := q_I.trans w_I.1 w_I.2.1 (f_I41.mono (by decide))
  have u43 : (I41 v0 0).toInt = (I v0 0).toInt := by rw [f_I41.2.2.1 v0 12 0 kv0 (by decide) (by decide)]
  first | (have u44 : (I41 v0 22).toInt = (0) := by (rw [eI41, show jpI I v0 22 (0 : Int32) v0 22 = (0 : Int32) from jpI_at] <;> exact (show (0 : Int32).toInt = 0 from rfl))) | skip
  have t46 : 0 ≤ (I41 v0 0).toInt ∧ (I41 v0 0).toInt ≤ 24 := w_I41.fld 12 0 kv0 (by decide)
  refine ⟨fun c47 => ?_, fun c47 => ?_⟩
  · skip
    first | (have t48 : ¬ ((I41 v0 0).toInt = (0)) := (not_congr (i_eq rfl (show (0 : Int32).toInt = 0 from rfl))).mp c47) | (have t48 : ¬ ((I41 v0 0).toInt = (0 : Int32).toInt) := (not_congr (i_eq rfl rfl)).mp c47) | skip
    have t49 : (1 : Int32).toInt = 1 := rfl
    obtain ⟨b50, eb50, kb50, lb50⟩ := sh_f w_I41.1 kv0 (j := 55) (k := 14) (m := 144) rfl
    obtain ⟨b51, eb51, kb51, lb51⟩ := sh_f w_I41.1 kv0 (j := 56) (k := 14) (m := 6) rfl
    obtain ⟨b52, eb52, kb52, lb52⟩ := sh_f w_I41.1 kv0 (j := 57) (k := 14) (m := 6) rfl
    obtain ⟨b53, eb53, kb53, lb53⟩ := sh_f w_I41.1 kv0 (j := 61) (k := 14) (m := 6) rfl
    obtain ⟨b54, eb54, kb54, lb54⟩ := sh_f w_I41.1 kv0 (j := 44) (k := 14) (m := 24) rfl
    refine s_X12_runFeast w_I41 bd_Z v0 (1 : Int32) kv0 b50 eb50 b51 eb51 b52 eb52 b53 eb53 b54 eb54 (by omega) (by omega) (fun r55 Z58 I56 L57 w_I56 bd_Z58 f_I56 c_Z58  => ?_)
    have q_I56 : FR Ws_X12_jam Z I Z58 I56 := q_I41.trans w_I.1 w_I.2.1 (f_I56.mono (by decide))
    have cp_Z58 : CP Z Z58 := cp_Z.trans q_I41.1 c_Z58
    have x_Z58 := f_I56.1
    have k59 := (f_I56.1 _ _ kv0).1
    have k60 := (f_I56.1 _ _ kb50).1
    have l61 := (f_I56.1 _ _ kb50).2.trans lb50
    have k62 := (f_I56.1 _ _ kv0).1
    have e63 := (f_I56.2.1 v0 12 55 kv0 (by decide) (by decide)).trans eb50
    have k64 := (f_I56.1 _ _ kb51).1
    have l65 := (f_I56.1 _ _ kb51).2.trans lb51
    have k66 := (f_I56.1 _ _ kv0).1
    have e67 := (f_I56.2.1 v0 12 56 kv0 (by decide) (by decide)).trans eb51
    have k68 := (f_I56.1 _ _ kb52).1
    have l69 := (f_I56.1 _ _ kb52).2.trans lb52
    have k70 := (f_I56.1 _ _ kv0).1
    have e71 := (f_I56.2.1 v0 12 57 kv0 (by decide) (by decide)).trans eb52
    have k72 := (f_I56.1 _ _ kb53).1
    have l73 := (f_I56.1 _ _ kb53).2.trans lb53
    have k74 := (f_I56.1 _ _ kv0).1
    have e75 := (f_I56.2.1 v0 12 61 kv0 (by decide) (by decide)).trans eb53
    have k76 := (f_I56.1 _ _ kb54).1
    have l77 := (f_I56.1 _ _ kb54).2.trans lb54
    have k78 := (f_I56.1 _ _ kv0).1
    have e79 := (f_I56.2.1 v0 12 44 kv0 (by decide) (by decide)).trans eb54
    have u80 : (I56 v0 0).toInt = (I41 v0 0).toInt := by rw [f_I56.2.2.1 v0 12 0 kv0 (by decide) (by decide)]
    have u81 : (I56 v0 22).toInt = (I41 v0 22).toInt := by rw [f_I56.2.2.1 v0 12 22 kv0 (by decide) (by decide)]
    have rr55 := i_rng r55
    have t82 : (-2 : Int32).toInt = -2 := rfl
    have t83 : (0 : Int32).toInt = 0 := rfl
    exact ⟨(24 - (0 : Int32).toInt).toNat + 1, l_X12_jam_L26 w_I v0 kv0   hQ   _ (-2 : Int32) (0 : Int32) Z58 I56 L57 w_I56 bd_Z58 q_I56 cp_Z58   (by omega)  (by omega)⟩
  · skip
    first | (have t84 : (I41 v0 0).toInt = (0) := (i_eq rfl (show (0 : Int32).toInt = 0 from rfl)).mp c47) | (have t84 : (I41 v0 0).toInt = (0 : Int32).toInt := (i_eq rfl rfl).mp c47) | skip
    have t85 : (-2 : Int32).toInt = -2 := rfl
    exact hQ (-2 : Int32) Z I41 L w_I41 bd_Z q_I41 cp_Z 
end
section
/-! ===== J: methods that stand on the String constant of LETTERS ===== -/
/-- the String of LETTERS at sa, its bytes at sb -/
def jlet : List Int32 := [97, 114, 115, 119, 120, 108, 106]
def jU (sa sb : Nat) (A : Nat → Prop) (U : State) (H : Heap) : Prop :=
  vk_R RX3 91 "arswxlj" sa U ∧ va_O "java/lang/String" sa A U H ∧ va_OF "java/lang/String" "coder" "B" (.int 0) sa A U H ∧ va_OF "java/lang/String" "value" "[B" (.ref sb) sa A U H ∧ va_T .byte sb 7 (fun j => .int (jlet.getD j 0)) A U H ∧ va_Z "java/lang/String" "COMPACT_STRINGS" "Z" (.int 1) A U H
theorem jU.warm {sa sb : Nat} {A : Nat → Prop} {s U : State} {H : Heap} (hW : s.WarmedH U.vm) (h : jU sa sb A s H) : jU sa sb A U H :=
  ⟨vk_R.warm hW h.1, va_O.moved hW.alike h.2.1, va_OF.moved hW.alike h.2.2.1, va_OF.moved hW.alike h.2.2.2.1, va_T.moved hW.alike h.2.2.2.2.1, va_Z.moved hW.alike h.2.2.2.2.2⟩
theorem jU.kept {sa sb : Nat} {A : Nat → Prop} {U : State} {H H1 : Heap} (h : jU sa sb A U H) (hq : ∀ a : Nat, a < H.size → ¬ A a → H1[a]? = H[a]?) : jU sa sb A U H1 :=
  ⟨h.1, h.2.1.kept hq, h.2.2.1.kept hq, h.2.2.2.1.kept hq, h.2.2.2.2.1.kept hq, h.2.2.2.2.2.kept hq⟩
theorem jU.narrow {sa sb : Nat} {A B : Nat → Prop} {U : State} {H : Heap} (h : jU sa sb A U H) (hAB : ∀ q, B q → A q) : jU sa sb B U H :=
  ⟨h.1, h.2.1.narrow hAB, h.2.2.1.narrow hAB, h.2.2.2.1.narrow hAB, h.2.2.2.2.1.narrow hAB, h.2.2.2.2.2.narrow hAB⟩
/-- the start of a contract whose body stands on jU -/
def jPS (sa sb : Nat) (D : va_G) (cy : jC) (as : List Value) (Z : jZ) (I : jI) (L : jL) (sz : Nat) : Array Value → State → Prop := va_Pc as (fun U => U.heap.size = sz ∧ va_P D vwCl (jw cy Z I L) U.heap ∧ va_K D vwCl (jtys cy) U ∧ va_D (fun _ => True) (jw cy Z I L) ∧ jN U ∧ jU sa sb (va_A (jw cy Z I L) sz) U U.heap)
theorem jPS_blind {sa sb : Nat} {as : List Value} {D : va_G} {cy : jC} {Z : jZ} {I : jI} {L : jL} {sz : Nat} : FrameBlind (jPS sa sb D cy as Z I L sz) := by
  intro a U g mk q
  obtain ⟨q0, q1, qP, qK, qD, qN, qV⟩ := q
  exact ⟨q0, q1, qP, va_K.moved (u := U) (U := U.calling g mk a) (Vm.Alike.refl U.vm) qK, qD, jN_same (s := U) rfl qN, jU.warm (s := U) (U := U.calling g mk a) (State.WarmedH.refl U) qV⟩
def jCtS (sa sb : Nat) (l : Launch) (y : MethodName) (ws : List Cond) (rm : Room) (D : va_G) (cy : jC) (as : List Value) (Z : jZ) (I : jI) (L : jL) (Rt : jRt) : Prop :=
  ∀ sz : Nat, Met l y ws rm (jPS sa sb D cy as Z I L sz) (jQ D cy Rt (va_A (jw cy Z I L) sz)) rm.cells rm.slots (va_A (jw cy Z I L) sz)
/-- an int comes back, nothing else has changed -/
def rS (Z : jZ) (I : jI) (L : jL) (P : Int32 → Prop) : jRt := fun v Z' I' L' => Z = Z' ∧ I = I' ∧ L = L' ∧ ∃ r : Int32, v = some (.int r) ∧ P r
section JSTR
variable {G : jG} {cc : ByteArray} {own : String} {Ts : List Cond} {nL : Nat} {ret : Option FieldType} {rm : Room} {Rt : jRt} {pc : Nat} {lv : List (Nat × Value)} {st : List Value} {Z : jZ} {I : jI} {L : jL} {k n sa sb : Nat}
theorem jCtS_of {l : Launch} {y : MethodName} {ws ws' : List Cond} {rm : Room} {D : va_G} {cy : jC} {as : List Value} {Rt : jRt} {cc : ByteArray} {maxL : Nat} {ret : Option FieldType} (hy : plainName y.cls = true) (hw : ws = Cond.code y cc maxL ret :: ws') (hlen : (lg_sl as).length ≤ maxL)
    (h : ∀ G : jG, gD G = D → gY G = cy → gL G = l → jE G cc y.cls ws maxL ret rm Rt → jU sa sb (gA G) (gS G) (gS G).heap → jJ G maxL 0 (lv_args 0 as) [] Z I L 0 0) : jCtS sa sb l y ws rm D cy as Z I L Rt := by
  intro sz
  refine Met.ofW (cc := cc) (maxL := maxL) (ret := ret) hy hw ?_
  intro p e s m args below meth c s₁ B hml hv
  obtain ⟨rfl, hsz, hP, hK, hD0, hN, hU⟩ := hv
  subst hsz
  have hD := hD0.self (sz := s.heap.size)
  have hown : s.vm.findClass y.cls = some m.cls := findClass_of_methodNamed B.named
  have hl := lv_entry as (n := maxL) hlen
  rw [lg_entry_eq]
  generalize (lg_sl as ++ List.replicate (maxL - (lg_sl as).length) Slot.unset).toArray = ls at hl ⊢
  have key := h ((p, l, e, (headSpec ws rm).room, s, m, as.toArray, below, meth, c), D, cy, [], va_A (jw cy Z I L) s.heap.size, MQ below (jQ D cy Rt (va_A (jw cy Z I L) s.heap.size)) as.toArray s rm.cells rm.slots (va_A (jw cy Z I L) s.heap.size)) rfl rfl rfl
    ⟨⟨B.exec, B.bytes, hml, hown, atoms_spec (ws := ws) B.pre⟩, hK, fun q h => Or.inr h, hN, B.returns, B.notSynchronized, rfl, fun _ h => h⟩ hU
  exact key s.heap [] ls hl hP hD va_S.rf
theorem j_frS (E : jE G cc own Ts nL ret rm Rt) {H : Heap} {locs : List Loc} (hD : va_D (gA G) (gX G ++ jw (gY G) Z I L)) (hS : va_S (gA G) (gS G).heap H locs) : ∀ q, va_A (jw (gY G) Z I L) H.size q → gA G q := by
  intro q hq
  rcases hq with ⟨k9, e9, h9⟩ | h9
  · exact (j_cutD hD).2 k9 _ h9
  · exact E.2.2.1 q (Nat.le_trans hS.1 h9)
/-- a call on a cell of the pool -/
theorem j_callVS (E : jE G cc own Ts nL ret rm Rt) (hU : jU sa sb (gA G) (gS G) (gS G).heap) {y : MethodName} {ws ws' : List Cond} {rm' : Room} {bytes : ByteArray} {maxL : Nat} {ret' : Option FieldType} {C : String} {T : u_T} {N i b c na : Nat} {Rt' : jRt} (As rest : List Value)
    (hM : jCtS sa sb (gL G) y ws rm' (gD G) (gY G) (.ref b :: As) Z I L Rt') (hg : GoodIn Ts (wsV own i C y ws)) (hw : ws = Cond.code y bytes maxL ret' :: ws')
    (hd : y.cls = C ∧ y.cls ≠ "java/lang/invoke/MethodHandle" ∧ y.cls ≠ "java/lang/invoke/VarHandle" ∧ (parseMethodDescriptor y.desc).map (fun d => d.parameters.length) = some na)
    (hR : rm'.frames + 1 ≤ rm.frames ∧ 8 + (maxL + 11) + rm'.locals ≤ rm.locals) (hcl : vwCl[c]? = some (C, T, N)) (hc : c < 13) (hk : jk Z b c) (hn : As.length = na) (hst : st = As.reverse ++ .ref b :: rest) (hcat : (rest.map fun v => v.category).sum ≤ 8)
    (hf : k + rm'.cells ≤ rm.cells ∧ n + rm'.slots ≤ rm.slots) (d : decode cc pc = .ok (.invokevirtual i, 3))
    (kk : ∀ v Z' I' L', Rt' v Z' I' L' → jJ G nL (pc + 3) lv (v.toList ++ rest) Z' I' L' (k + rm'.cells) (n + rm'.slots)) : jJ G nL pc lv st Z I L k n := by
  intro H locs ls hl hP hD hS
  have eR := E.2.2.2.2.2.2.1
  obtain ⟨q, hq⟩ := jw_get (X := gX G) (cy := gY G) (I := I) (L := L) hk.1
  rw [jf_obj hk.2 hc] at hq
  have hrun := va_runV (p := gP G) (l := gL G) (e := gE G) (R := gR G) (s := gS G) (m := gM G) (args := gV G) (below := gB G) (meth := gH G) (c := gC G) (H := H) (locs := locs) (cells := k) (slots := n) (g := F0 (gM G) pc ls st) (As := As) (rest := rest) E.1 (hM H.size) (cwV na E.1.2.2.2.2 hg hw rfl rfl hd (by rw [eR]; exact hR))
    ⟨jPS_blind, va_recv E.2.1 hP hcl hq, fun U hU' hW => ⟨rfl, by rw [hU'], by rw [hU']; exact j_cutP hP, va_K.moved hW.alike E.2.1, (j_cutD hD).weaken (fun _ _ _ _ => trivial), jN_warm hW E.2.2.2.1, by rw [hU']; exact ((hU.kept hS.2.1).narrow (j_frS E hD hS)).warm hW⟩⟩ rfl hn hl.1 hst (lv_room hcat) d (by rw [eR]; exact hf)
  exact j_back E hrun hl hP hD hS kk
/-- a call on the String -/
theorem j_callVT (E : jE G cc own Ts nL ret rm Rt) (hU : jU sa sb (gA G) (gS G) (gS G).heap) {y : MethodName} {ws ws' : List Cond} {rm' : Room} {bytes : ByteArray} {maxL : Nat} {ret' : Option FieldType} {i na : Nat} {Rt' : jRt} (As rest : List Value)
    (hM : jCtS sa sb (gL G) y ws rm' (gD G) (gY G) (.ref sa :: As) Z I L Rt') (hg : GoodIn Ts (wsV own i RJ0 y ws)) (hw : ws = Cond.code y bytes maxL ret' :: ws')
    (hd : y.cls = RJ0 ∧ y.cls ≠ "java/lang/invoke/MethodHandle" ∧ y.cls ≠ "java/lang/invoke/VarHandle" ∧ (parseMethodDescriptor y.desc).map (fun d => d.parameters.length) = some na)
    (hR : rm'.frames + 1 ≤ rm.frames ∧ 8 + (maxL + 11) + rm'.locals ≤ rm.locals) (hn : As.length = na) (hst : st = As.reverse ++ .ref sa :: rest) (hcat : (rest.map fun v => v.category).sum ≤ 8)
    (hf : k + rm'.cells ≤ rm.cells ∧ n + rm'.slots ≤ rm.slots) (d : decode cc pc = .ok (.invokevirtual i, 3))
    (kk : ∀ v Z' I' L', Rt' v Z' I' L' → jJ G nL (pc + 3) lv (v.toList ++ rest) Z' I' L' (k + rm'.cells) (n + rm'.slots)) : jJ G nL pc lv st Z I L k n := by
  intro H locs ls hl hP hD hS
  have eR := E.2.2.2.2.2.2.1
  have hrec : ∃ cell : Cell, H[sa]? = some cell ∧ cell.vm.isStatics = false ∧ (gS G).vm.findClass RJ0 = some cell.cls := by
    obtain ⟨cell, h1, h2, h3, -⟩ := hU.2.1.kept hS.2.1
    exact ⟨cell, h1, h2, h3⟩
  have hrun := va_runV (p := gP G) (l := gL G) (e := gE G) (R := gR G) (s := gS G) (m := gM G) (args := gV G) (below := gB G) (meth := gH G) (c := gC G) (H := H) (locs := locs) (cells := k) (slots := n) (g := F0 (gM G) pc ls st) (As := As) (rest := rest) E.1 (hM H.size) (cwV na E.1.2.2.2.2 hg hw rfl rfl hd (by rw [eR]; exact hR))
    ⟨jPS_blind, hrec, fun U hU' hW => ⟨rfl, by rw [hU'], by rw [hU']; exact j_cutP hP, va_K.moved hW.alike E.2.1, (j_cutD hD).weaken (fun _ _ _ _ => trivial), jN_warm hW E.2.2.2.1, by rw [hU']; exact ((hU.kept hS.2.1).narrow (j_frS E hD hS)).warm hW⟩⟩ rfl hn hl.1 hst (lv_room hcat) d (by rw [eR]; exact hf)
  exact j_back E hrun hl hP hD hS kk
/-- a static call -/
theorem j_callST (E : jE G cc own Ts nL ret rm Rt) (hU : jU sa sb (gA G) (gS G) (gS G).heap) {y : MethodName} {ws ws' : List Cond} {rm' : Room} {bytes : ByteArray} {maxL : Nat} {ret' : Option FieldType} {i na : Nat} {Rt' : jRt} (As rest : List Value)
    (hM : jCtS sa sb (gL G) y ws rm' (gD G) (gY G) As Z I L Rt') (hg : GoodIn Ts (va_wsS own i y ws)) (hw : ws = Cond.code y bytes maxL ret' :: ws')
    (hd : y.cls ≠ "java/lang/invoke/MethodHandle" ∧ y.cls ≠ "java/lang/invoke/VarHandle" ∧ (parseMethodDescriptor y.desc).map (fun d => d.parameters.length) = some na)
    (hR : rm'.frames + 1 ≤ rm.frames ∧ 8 + (maxL + 11) + rm'.locals ≤ rm.locals) (hn : As.length = na) (hst : st = As.reverse ++ rest) (hcat : (rest.map fun v => v.category).sum ≤ 8)
    (hf : k + rm'.cells ≤ rm.cells ∧ n + rm'.slots ≤ rm.slots) (d : decode cc pc = .ok (.invokestatic i, 3))
    (kk : ∀ v Z' I' L', Rt' v Z' I' L' → jJ G nL (pc + 3) lv (v.toList ++ rest) Z' I' L' (k + rm'.cells) (n + rm'.slots)) : jJ G nL pc lv st Z I L k n := by
  intro H locs ls hl hP hD hS
  have eR := E.2.2.2.2.2.2.1
  have hrun := va_runS (p := gP G) (l := gL G) (e := gE G) (R := gR G) (s := gS G) (m := gM G) (args := gV G) (below := gB G) (meth := gH G) (c := gC G) (H := H) (locs := locs) (cells := k) (slots := n) (g := F0 (gM G) pc ls st) (As := As) (rest := rest) E.1 (hM H.size) (va_cwS na E.1.2.2.2.2 hg hw rfl rfl hd (by rw [eR]; exact hR))
    ⟨jPS_blind, fun U hU' hW => ⟨rfl, by rw [hU'], by rw [hU']; exact j_cutP hP, va_K.moved hW.alike E.2.1, (j_cutD hD).weaken (fun _ _ _ _ => trivial), jN_warm hW E.2.2.2.1, by rw [hU']; exact ((hU.kept hS.2.1).narrow (j_frS E hD hS)).warm hW⟩⟩ rfl hn hl.1 hst (lv_room hcat) d (by rw [eR]; exact hf)
  exact j_back E hrun hl hP hD hS kk
theorem j_ldcS (E : jE G cc RX3 Ts nL ret rm Rt) (hU : jU sa sb (gA G) (gS G) (gS G).heap) (d : decode cc pc = .ok (.ldc 91, 2)) (kk : jJ G nL (pc + 2) lv (.ref sa :: st) Z I L k n) : jJ G nL pc lv st Z I L k n :=
  fun H locs ls hl hP hD hS => va_ldcS E.1.1 E.1.2.1 E.1.2.2.2.1 hU.1 d (kk H locs ls hl hP hD hS)
theorem j_gsS (E : jE G cc own Ts nL ret rm Rt) (hU : jU sa sb (gA G) (gS G) (gS G).heap) {i : Nat} (w : Cond.fieldLink own i "java/lang/String" "COMPACT_STRINGS" "Z" ∈ Ts) (d : decode cc pc = .ok (.getstatic i, 3)) (kk : jJ G nL (pc + 3) lv (.int 1 :: st) Z I L k n) : jJ G nL pc lv st Z I L k n :=
  fun H locs ls hl hP hD hS => va_gets E.1.1 E.1.2.1 hU.2.2.2.2.2 hS E.1.2.2.2.1 (E.1.2.2.2.2 _ w) (fun _ h => h) d (kk H locs ls hl hP hD hS)
theorem j_cdS (E : jE G cc own Ts nL ret rm Rt) (hU : jU sa sb (gA G) (gS G) (gS G).heap) {i : Nat} (w : Cond.fieldLink own i "java/lang/String" "coder" "B" ∈ Ts) (d : decode cc pc = .ok (.getfield i, 3)) (kk : jJ G nL (pc + 3) lv (.int 0 :: st) Z I L k n) : jJ G nL pc lv (.ref sa :: st) Z I L k n :=
  fun H locs ls hl hP hD hS => vk_getf E.1.1 E.1.2.1 hU.2.2.1 hS E.1.2.2.2.1 (E.1.2.2.2.2 _ w) (fun _ h => h) d (kk H locs ls hl hP hD hS)
theorem j_vlS (E : jE G cc own Ts nL ret rm Rt) (hU : jU sa sb (gA G) (gS G) (gS G).heap) {i : Nat} (w : Cond.fieldLink own i "java/lang/String" "value" "[B" ∈ Ts) (d : decode cc pc = .ok (.getfield i, 3)) (kk : jJ G nL (pc + 3) lv (.ref sb :: st) Z I L k n) : jJ G nL pc lv (.ref sa :: st) Z I L k n :=
  fun H locs ls hl hP hD hS => vk_getf E.1.1 E.1.2.1 hU.2.2.2.1 hS E.1.2.2.2.1 (E.1.2.2.2.2 _ w) (fun _ h => h) d (kk H locs ls hl hP hD hS)
theorem j_lnS (E : jE G cc own Ts nL ret rm Rt) (hU : jU sa sb (gA G) (gS G) (gS G).heap) (d : decode cc pc = .ok (.arraylength, 1)) (kk : jJ G nL (pc + 1) lv (.int 7 :: st) Z I L k n) : jJ G nL pc lv (.ref sb :: st) Z I L k n :=
  fun H locs ls hl hP hD hS => va_tlen E.1.1 E.1.2.1 hU.2.2.2.2.1 hS rfl d (kk H locs ls hl hP hD hS)
theorem j_blS (E : jE G cc own Ts nL ret rm Rt) (hU : jU sa sb (gA G) (gS G) (gS G).heap) {i : Int32} (hin : vp_in i 7) (d : decode cc pc = .ok (.baload, 1)) (kk : jJ G nL (pc + 1) lv (.int (jlet.getD i.toNatClampNeg 0) :: st) Z I L k n) : jJ G nL pc lv (.int i :: .ref sb :: st) Z I L k n :=
  fun H locs ls hl hP hD hS => va_tb E.1.1 E.1.2.1 hU.2.2.2.2.1 hS hin rfl d (kk H locs ls hl hP hD hS)
theorem j_xreturn {ty : FieldType} (E : jE G cc own Ts nL (some ty) rm Rt) {v : Int32} (hv : narrow ty (.int v) = .int v) (h : Rt (some (.int v)) Z I L) (h1 : k ≤ rm.cells) (h2 : n ≤ rm.slots) (d : decode cc pc = .ok (.ireturn, 1)) : jJ G nL pc lv [.int v] Z I L k n := by
  intro H locs ls hl hP hD hS
  refine W.mono E.2.2.2.2.2.2.2 ?_
  refine W.widen h1 h2 ?_
  exact W.zret E.1.1 E.1.2.1 E.2.2.2.2.1 hv (fun t ht hW => ⟨⟨_, Z, I, L, rfl, h, by rw [ht]; exact j_cutP hP, va_K.moved hW.alike E.2.1, j_cutD hD⟩, hS.F ht⟩) hS.2.2 d E.2.2.2.2.2.1
end JSTR
/-- where a sign stands in LETTERS -/
def lix (c : Int) : Int := if c = 97 then 0 else if c = 114 then 1 else if c = 115 then 2 else if c = 119 then 3 else if c = 120 then 4 else if c = 108 then 5 else if c = 106 then 6 else -1
def LXP (c r : Int32) : Prop := 0 ≤ c.toInt → c.toInt ≤ 255 → r.toInt = lix c.toInt
theorem lix_none {x : Int32} (h : ∀ j : Nat, j < 7 → ¬ jlet.getD j 0 = x) : lix x.toInt = (-1 : Int32).toInt := by
  have k : ∀ (j : Nat) (c : Int32) (v : Int), j < 7 → jlet.getD j 0 = c → c.toInt = v → ¬ x.toInt = v := fun j c v hj hc hv e => h j hj (hc.trans ((i_eq hv rfl).mpr e.symm))
  unfold lix
  rw [if_neg (k 0 97 97 (by decide) rfl rfl), if_neg (k 1 114 114 (by decide) rfl rfl), if_neg (k 2 115 115 (by decide) rfl rfl), if_neg (k 3 119 119 (by decide) rfl rfl), if_neg (k 4 120 120 (by decide) rfl rfl), if_neg (k 5 108 108 (by decide) rfl rfl), if_neg (k 6 106 106 (by decide) rfl rfl)]
  rfl
theorem lix_hit {i x : Int32} (h0 : 0 ≤ i.toInt) (h1 : i.toInt < 7) (h : jlet.getD i.toNatClampNeg 0 = x) : i.toInt = lix x.toInt := by
  have ni := i_nat (x := i) rfl h0
  subst h
  have hc : i.toNatClampNeg = 0 ∨ i.toNatClampNeg = 1 ∨ i.toNatClampNeg = 2 ∨ i.toNatClampNeg = 3 ∨ i.toNatClampNeg = 4 ∨ i.toNatClampNeg = 5 ∨ i.toNatClampNeg = 6 := by omega
  rcases hc with e | e | e | e | e | e | e
  · rw [e, show lix (jlet.getD 0 0).toInt = 0 by decide]; omega
  · rw [e, show lix (jlet.getD 1 0).toInt = 1 by decide]; omega
  · rw [e, show lix (jlet.getD 2 0).toInt = 2 by decide]; omega
  · rw [e, show lix (jlet.getD 3 0).toInt = 3 by decide]; omega
  · rw [e, show lix (jlet.getD 4 0).toInt = 4 by decide]; omega
  · rw [e, show lix (jlet.getD 5 0).toInt = 5 by decide]; omega
  · rw [e, show lix (jlet.getD 6 0).toInt = 6 by decide]; omega
theorem lix_off {a : Int} (h : a < 97 ∨ 122 < a) : lix a = -1 := by
  unfold lix
  rw [if_neg (by omega), if_neg (by omega), if_neg (by omega), if_neg (by omega), if_neg (by omega), if_neg (by omega), if_neg (by omega)]
theorem lix_byte {c x : Int32} (e : x = c.toInt8.toInt32) (h0 : 0 ≤ c.toInt) (h1 : c.toInt ≤ 255) : lix x.toInt = lix c.toInt := by
  have hx : x.toInt = c.toInt.bmod 256 := by
    rw [e, Int8.toInt_toInt32, Int32.toInt_toInt8]
  rw [Int.bmod_def] at hx
  by_cases q : c.toInt ≤ 127
  · have : x.toInt = c.toInt := by split at hx <;> omega
    rw [this]
  · rw [lix_off (a := c.toInt) (by omega), lix_off (a := x.toInt) (by split at hx <;> omega)]
theorem WS_1209 : Cond.methodLink RJ1 88 yJ1_canEncode_9a6ad ∈ jT := jT_mem (mt_3 (List.mem_of_getElem? (i := 85) rfl)) rfl
theorem WS_1210 : Cond.static yJ1_canEncode_9a6ad ∈ jT := jT_mem (mt_3 (List.mem_of_getElem? (i := 86) rfl)) rfl
theorem WS_1211 : Cond.initialized RJ1 ∈ jT := jT_mem (mt_1 (List.mem_of_getElem? (i := 16) rfl)) rfl
theorem WS_1212 : Cond.code yJ1_canEncode_9a6ad cJ1_canEncode_9a6ad 1 (some .boolean) ∈ jT := jT_mem (mt_3 (List.mem_of_getElem? (i := 87) rfl)) rfl
theorem WS_1213 : Cond.methodLink RJ1 92 Lib.Math.max.name ∈ jT := jT_mem (mt_3 (List.mem_of_getElem? (i := 88) rfl)) rfl
theorem WS_1214 : Cond.methodLink RJ1 38 Lib.Math.min.name ∈ jT := jT_mem (mt_3 (List.mem_of_getElem? (i := 91) rfl)) rfl
theorem WS_1215 : Cond.methodLink RJ1 95 yJ1_indexOfChar_4cfef ∈ jT := jT_mem (mt_3 (List.mem_of_getElem? (i := 92) rfl)) rfl
theorem WS_1216 : Cond.static yJ1_indexOfChar_4cfef ∈ jT := jT_mem (mt_3 (List.mem_of_getElem? (i := 93) rfl)) rfl
theorem WS_1217 : Cond.code yJ1_indexOfChar_4cfef cJ1_indexOfChar_4cfef 6 (some .int) ∈ jT := jT_mem (mt_3 (List.mem_of_getElem? (i := 94) rfl)) rfl
theorem WS_1218 : Cond.fieldLink RJ0 38 "java/lang/String" "COMPACT_STRINGS" "Z" ∈ jT := jT_mem (mt_3 (List.mem_of_getElem? (i := 72) rfl)) rfl
theorem WS_1219 : Cond.fieldLink RJ0 15 "java/lang/String" "coder" "B" ∈ jT := jT_mem (mt_9 (List.mem_of_getElem? (i := 155) rfl)) rfl
theorem WS_1220 : Cond.fieldLink RJ0 9 "java/lang/String" "value" "[B" ∈ jT := jT_mem (mt_9 (List.mem_of_getElem? (i := 156) rfl)) rfl
theorem WS_1221 : Cond.methodLink RJ0 335 yJ0_coder_7d493 ∈ jT := jT_mem (mt_3 (List.mem_of_getElem? (i := 78) rfl)) rfl
theorem WS_1222 : Cond.instanceMethod yJ0_coder_7d493 ∈ jT := jT_mem (mt_3 (List.mem_of_getElem? (i := 79) rfl)) rfl
theorem WS_1223 : Cond.selects RJ0 yJ0_coder_7d493 yJ0_coder_7d493 ∈ jT := jT_mem (mt_3 (List.mem_of_getElem? (i := 80) rfl)) rfl
theorem WS_1224 : Cond.initialized RJ0 ∈ jT := jT_mem (mt_1 (List.mem_of_getElem? (i := 15) rfl)) rfl
theorem WS_1225 : Cond.code yJ0_coder_7d493 cJ0_coder_7d493 1 (some .byte) ∈ jT := jT_mem (mt_3 (List.mem_of_getElem? (i := 81) rfl)) rfl
theorem WS_1226 : Cond.methodLink RJ0 492 yJ0_isLatin1_aae02 ∈ jT := jT_mem (mt_3 (List.mem_of_getElem? (i := 68) rfl)) rfl
theorem WS_1227 : Cond.instanceMethod yJ0_isLatin1_aae02 ∈ jT := jT_mem (mt_3 (List.mem_of_getElem? (i := 69) rfl)) rfl
theorem WS_1228 : Cond.selects RJ0 yJ0_isLatin1_aae02 yJ0_isLatin1_aae02 ∈ jT := jT_mem (mt_3 (List.mem_of_getElem? (i := 70) rfl)) rfl
theorem WS_1229 : Cond.code yJ0_isLatin1_aae02 cJ0_isLatin1_aae02 1 (some .boolean) ∈ jT := jT_mem (mt_3 (List.mem_of_getElem? (i := 71) rfl)) rfl
theorem WS_1230 : Cond.methodLink RJ0 505 yJ0_length_8abf5 ∈ jT := jT_mem (mt_3 (List.mem_of_getElem? (i := 74) rfl)) rfl
theorem WS_1231 : Cond.instanceMethod yJ0_length_8abf5 ∈ jT := jT_mem (mt_3 (List.mem_of_getElem? (i := 75) rfl)) rfl
theorem WS_1232 : Cond.selects RJ0 yJ0_length_8abf5 yJ0_length_8abf5 ∈ jT := jT_mem (mt_3 (List.mem_of_getElem? (i := 76) rfl)) rfl
theorem WS_1233 : Cond.code yJ0_length_8abf5 cJ0_length_8abf5 1 (some .int) ∈ jT := jT_mem (mt_3 (List.mem_of_getElem? (i := 77) rfl)) rfl
theorem WS_1234 : Cond.methodLink RJ0 637 yJ1_indexOf_4cfef ∈ jT := jT_mem (mt_3 (List.mem_of_getElem? (i := 82) rfl)) rfl
theorem WS_1235 : Cond.static yJ1_indexOf_4cfef ∈ jT := jT_mem (mt_3 (List.mem_of_getElem? (i := 83) rfl)) rfl
theorem WS_1236 : Cond.code yJ1_indexOf_4cfef cJ1_indexOf_4cfef 4 (some .int) ∈ jT := jT_mem (mt_3 (List.mem_of_getElem? (i := 84) rfl)) rfl
theorem WS_1237 : Cond.methodLink RJ0 633 yJ0_indexOf_7cf53 ∈ jT := jT_mem (mt_3 (List.mem_of_getElem? (i := 64) rfl)) rfl
theorem WS_1238 : Cond.instanceMethod yJ0_indexOf_7cf53 ∈ jT := jT_mem (mt_3 (List.mem_of_getElem? (i := 65) rfl)) rfl
theorem WS_1239 : Cond.selects RJ0 yJ0_indexOf_7cf53 yJ0_indexOf_7cf53 ∈ jT := jT_mem (mt_3 (List.mem_of_getElem? (i := 66) rfl)) rfl
theorem WS_1240 : Cond.code yJ0_indexOf_7cf53 cJ0_indexOf_7cf53 3 (some .int) ∈ jT := jT_mem (mt_3 (List.mem_of_getElem? (i := 67) rfl)) rfl
theorem WS_1241 : Cond.code yX3_readExpression cX3_readExpression 4 none ∈ jT := jT_mem (mt_3 (List.mem_of_getElem? (i := 33) rfl)) rfl
theorem WS_1242 : Cond.methodLink RX3 53 yX3_readExpression ∈ jT := jT_mem (mt_3 (List.mem_of_getElem? (i := 30) rfl)) rfl
theorem WS_1243 : Cond.instanceMethod yX3_readExpression ∈ jT := jT_mem (mt_3 (List.mem_of_getElem? (i := 32) rfl)) rfl
theorem WS_1244 : Cond.selects RX3 yX3_readExpression yX3_readExpression ∈ jT := jT_mem (mt_0 (List.mem_of_getElem? (i := 12) rfl)) rfl
theorem WS_1245 : Cond.code yX3_readClosing cX3_readClosing 2 none ∈ jT := jT_mem (mt_3 (List.mem_of_getElem? (i := 156) rfl)) rfl
theorem WS_1246 : Cond.methodLink RX3 106 yX3_readClosing ∈ jT := jT_mem (mt_3 (List.mem_of_getElem? (i := 153) rfl)) rfl
theorem WS_1247 : Cond.instanceMethod yX3_readClosing ∈ jT := jT_mem (mt_3 (List.mem_of_getElem? (i := 155) rfl)) rfl
theorem WS_1248 : Cond.selects RX3 yX3_readClosing yX3_readClosing ∈ jT := jT_mem (mt_0 (List.mem_of_getElem? (i := 21) rfl)) rfl
theorem WS_1249 : Cond.code yX3_readNumber cX3_readNumber 4 none ∈ jT := jT_mem (mt_3 (List.mem_of_getElem? (i := 148) rfl)) rfl
theorem WS_1250 : Cond.methodLink RX3 102 yX3_readNumber ∈ jT := jT_mem (mt_3 (List.mem_of_getElem? (i := 145) rfl)) rfl
theorem WS_1251 : Cond.instanceMethod yX3_readNumber ∈ jT := jT_mem (mt_3 (List.mem_of_getElem? (i := 147) rfl)) rfl
theorem WS_1252 : Cond.selects RX3 yX3_readNumber yX3_readNumber ∈ jT := jT_mem (mt_0 (List.mem_of_getElem? (i := 19) rfl)) rfl
theorem WS_1253 : Cond.methodLink RX3 93 yJ0_indexOf_0f7a4 ∈ jT := jT_mem (mt_3 (List.mem_of_getElem? (i := 60) rfl)) rfl
theorem WS_1254 : Cond.instanceMethod yJ0_indexOf_0f7a4 ∈ jT := jT_mem (mt_3 (List.mem_of_getElem? (i := 61) rfl)) rfl
theorem WS_1255 : Cond.selects RJ0 yJ0_indexOf_0f7a4 yJ0_indexOf_0f7a4 ∈ jT := jT_mem (mt_3 (List.mem_of_getElem? (i := 62) rfl)) rfl
theorem WS_1256 : Cond.code yJ0_indexOf_0f7a4 cJ0_indexOf_0f7a4 2 (some .int) ∈ jT := jT_mem (mt_3 (List.mem_of_getElem? (i := 63) rfl)) rfl
theorem WS_1257 : Cond.code yX3_readThing cX3_readThing 5 none ∈ jT := jT_mem (mt_3 (List.mem_of_getElem? (i := 58) rfl)) rfl
theorem WS_1258 : Cond.methodLink RX3 88 yX3_readThing ∈ jT := jT_mem (mt_3 (List.mem_of_getElem? (i := 55) rfl)) rfl
theorem WS_1259 : Cond.instanceMethod yX3_readThing ∈ jT := jT_mem (mt_3 (List.mem_of_getElem? (i := 57) rfl)) rfl
theorem WS_1260 : Cond.selects RX3 yX3_readThing yX3_readThing ∈ jT := jT_mem (mt_0 (List.mem_of_getElem? (i := 18) rfl)) rfl
theorem WS_1261 : Cond.code yX3_readSigned cX3_readSigned 5 none ∈ jT := jT_mem (mt_3 (List.mem_of_getElem? (i := 45) rfl)) rfl
theorem WS_1262 : Cond.methodLink RX3 85 yX3_readSigned ∈ jT := jT_mem (mt_3 (List.mem_of_getElem? (i := 42) rfl)) rfl
theorem WS_1263 : Cond.instanceMethod yX3_readSigned ∈ jT := jT_mem (mt_3 (List.mem_of_getElem? (i := 44) rfl)) rfl
theorem WS_1264 : Cond.selects RX3 yX3_readSigned yX3_readSigned ∈ jT := jT_mem (mt_0 (List.mem_of_getElem? (i := 15) rfl)) rfl
theorem WS_1265 : Cond.code yX3_readProduct cX3_readProduct 5 none ∈ jT := jT_mem (mt_3 (List.mem_of_getElem? (i := 41) rfl)) rfl
theorem WS_1266 : Cond.methodLink RX3 82 yX3_readProduct ∈ jT := jT_mem (mt_3 (List.mem_of_getElem? (i := 38) rfl)) rfl
theorem WS_1267 : Cond.instanceMethod yX3_readProduct ∈ jT := jT_mem (mt_3 (List.mem_of_getElem? (i := 40) rfl)) rfl
theorem WS_1268 : Cond.selects RX3 yX3_readProduct yX3_readProduct ∈ jT := jT_mem (mt_0 (List.mem_of_getElem? (i := 14) rfl)) rfl
theorem WS_1269 : Cond.code yX3_readSum cX3_readSum 5 none ∈ jT := jT_mem (mt_3 (List.mem_of_getElem? (i := 37) rfl)) rfl
theorem WS_1270 : Cond.methodLink RX3 71 yX3_readSum ∈ jT := jT_mem (mt_3 (List.mem_of_getElem? (i := 34) rfl)) rfl
theorem WS_1271 : Cond.instanceMethod yX3_readSum ∈ jT := jT_mem (mt_3 (List.mem_of_getElem? (i := 36) rfl)) rfl
theorem WS_1272 : Cond.selects RX3 yX3_readSum yX3_readSum ∈ jT := jT_mem (mt_0 (List.mem_of_getElem? (i := 13) rfl)) rfl
theorem fy_J0_coder_7d493 : yJ0_coder_7d493.cls ≠ "java/lang/invoke/MethodHandle" ∧ yJ0_coder_7d493.cls ≠ "java/lang/invoke/VarHandle" ∧ (parseMethodDescriptor yJ0_coder_7d493.desc).map (fun d => d.parameters.length) = some 0 := by decide +kernel
theorem fy_J0_indexOf_0f7a4 : yJ0_indexOf_0f7a4.cls ≠ "java/lang/invoke/MethodHandle" ∧ yJ0_indexOf_0f7a4.cls ≠ "java/lang/invoke/VarHandle" ∧ (parseMethodDescriptor yJ0_indexOf_0f7a4.desc).map (fun d => d.parameters.length) = some 1 := by decide +kernel
theorem fy_J0_indexOf_7cf53 : yJ0_indexOf_7cf53.cls ≠ "java/lang/invoke/MethodHandle" ∧ yJ0_indexOf_7cf53.cls ≠ "java/lang/invoke/VarHandle" ∧ (parseMethodDescriptor yJ0_indexOf_7cf53.desc).map (fun d => d.parameters.length) = some 2 := by decide +kernel
theorem fy_J0_isLatin1_aae02 : yJ0_isLatin1_aae02.cls ≠ "java/lang/invoke/MethodHandle" ∧ yJ0_isLatin1_aae02.cls ≠ "java/lang/invoke/VarHandle" ∧ (parseMethodDescriptor yJ0_isLatin1_aae02.desc).map (fun d => d.parameters.length) = some 0 := by decide +kernel
theorem fy_J0_length_8abf5 : yJ0_length_8abf5.cls ≠ "java/lang/invoke/MethodHandle" ∧ yJ0_length_8abf5.cls ≠ "java/lang/invoke/VarHandle" ∧ (parseMethodDescriptor yJ0_length_8abf5.desc).map (fun d => d.parameters.length) = some 0 := by decide +kernel
theorem fy_J1_canEncode_9a6ad : yJ1_canEncode_9a6ad.cls ≠ "java/lang/invoke/MethodHandle" ∧ yJ1_canEncode_9a6ad.cls ≠ "java/lang/invoke/VarHandle" ∧ (parseMethodDescriptor yJ1_canEncode_9a6ad.desc).map (fun d => d.parameters.length) = some 1 := by decide +kernel
theorem fy_J1_indexOfChar_4cfef : yJ1_indexOfChar_4cfef.cls ≠ "java/lang/invoke/MethodHandle" ∧ yJ1_indexOfChar_4cfef.cls ≠ "java/lang/invoke/VarHandle" ∧ (parseMethodDescriptor yJ1_indexOfChar_4cfef.desc).map (fun d => d.parameters.length) = some 4 := by decide +kernel
theorem fy_J1_indexOf_4cfef : yJ1_indexOf_4cfef.cls ≠ "java/lang/invoke/MethodHandle" ∧ yJ1_indexOf_4cfef.cls ≠ "java/lang/invoke/VarHandle" ∧ (parseMethodDescriptor yJ1_indexOf_4cfef.desc).map (fun d => d.parameters.length) = some 4 := by decide +kernel
theorem fy_X3_readClosing : yX3_readClosing.cls ≠ "java/lang/invoke/MethodHandle" ∧ yX3_readClosing.cls ≠ "java/lang/invoke/VarHandle" ∧ (parseMethodDescriptor yX3_readClosing.desc).map (fun d => d.parameters.length) = some 1 := by decide +kernel
theorem fy_X3_readExpression : yX3_readExpression.cls ≠ "java/lang/invoke/MethodHandle" ∧ yX3_readExpression.cls ≠ "java/lang/invoke/VarHandle" ∧ (parseMethodDescriptor yX3_readExpression.desc).map (fun d => d.parameters.length) = some 2 := by decide +kernel
theorem fy_X3_readNumber : yX3_readNumber.cls ≠ "java/lang/invoke/MethodHandle" ∧ yX3_readNumber.cls ≠ "java/lang/invoke/VarHandle" ∧ (parseMethodDescriptor yX3_readNumber.desc).map (fun d => d.parameters.length) = some 1 := by decide +kernel
theorem fy_X3_readProduct : yX3_readProduct.cls ≠ "java/lang/invoke/MethodHandle" ∧ yX3_readProduct.cls ≠ "java/lang/invoke/VarHandle" ∧ (parseMethodDescriptor yX3_readProduct.desc).map (fun d => d.parameters.length) = some 2 := by decide +kernel
theorem fy_X3_readSigned : yX3_readSigned.cls ≠ "java/lang/invoke/MethodHandle" ∧ yX3_readSigned.cls ≠ "java/lang/invoke/VarHandle" ∧ (parseMethodDescriptor yX3_readSigned.desc).map (fun d => d.parameters.length) = some 2 := by decide +kernel
theorem fy_X3_readSum : yX3_readSum.cls ≠ "java/lang/invoke/MethodHandle" ∧ yX3_readSum.cls ≠ "java/lang/invoke/VarHandle" ∧ (parseMethodDescriptor yX3_readSum.desc).map (fun d => d.parameters.length) = some 2 := by decide +kernel
theorem fy_X3_readThing : yX3_readThing.cls ≠ "java/lang/invoke/MethodHandle" ∧ yX3_readThing.cls ≠ "java/lang/invoke/VarHandle" ∧ (parseMethodDescriptor yX3_readThing.desc).map (fun d => d.parameters.length) = some 2 := by decide +kernel
abbrev w_J0_coder_7d493 : List Cond := .code yJ0_coder_7d493 cJ0_coder_7d493 1 (some .byte) :: jT
abbrev w_J0_indexOf_0f7a4 : List Cond := .code yJ0_indexOf_0f7a4 cJ0_indexOf_0f7a4 2 (some .int) :: jT
abbrev w_J0_indexOf_7cf53 : List Cond := .code yJ0_indexOf_7cf53 cJ0_indexOf_7cf53 3 (some .int) :: jT
abbrev w_J0_isLatin1_aae02 : List Cond := .code yJ0_isLatin1_aae02 cJ0_isLatin1_aae02 1 (some .boolean) :: jT
abbrev w_J0_length_8abf5 : List Cond := .code yJ0_length_8abf5 cJ0_length_8abf5 1 (some .int) :: jT
abbrev w_J1_canEncode_9a6ad : List Cond := .code yJ1_canEncode_9a6ad cJ1_canEncode_9a6ad 1 (some .boolean) :: jT
abbrev w_J1_indexOfChar_4cfef : List Cond := .code yJ1_indexOfChar_4cfef cJ1_indexOfChar_4cfef 6 (some .int) :: jT
abbrev w_J1_indexOf_4cfef : List Cond := .code yJ1_indexOf_4cfef cJ1_indexOf_4cfef 4 (some .int) :: jT
abbrev w_X3_readExpression : List Cond := .code yX3_readExpression cX3_readExpression 4 none :: jT
abbrev w_X3_readProduct : List Cond := .code yX3_readProduct cX3_readProduct 5 none :: jT
abbrev w_X3_readSigned : List Cond := .code yX3_readSigned cX3_readSigned 5 none :: jT
abbrev w_X3_readSum : List Cond := .code yX3_readSum cX3_readSum 5 none :: jT
abbrev w_X3_readThing : List Cond := .code yX3_readThing cX3_readThing 5 none :: jT
set_option maxHeartbeats 4000000 in
theorem cs_canEncode (l : Launch) (D : va_G) (cy : jC) {sa sb : Nat} (Z : jZ) (I : jI) (L : jL) (c : Int32) : jCtS sa sb l yJ1_canEncode_9a6ad w_J1_canEncode_9a6ad { frames := 0, cells := 0, slots := 0, locals := 0 } D cy [.int c] Z I L (rS Z I L (fun r => (r = 0 ∧ ¬ (0 ≤ c.toInt ∧ c.toInt ≤ 255)) ∨ r = 1)) := by
  refine jCtS_of (cc := cJ1_canEncode_9a6ad) (maxL := 1) (ret := some .boolean) (by decide +kernel) rfl (Nat.le_of_ble_eq_true rfl) ?_
  intro G eD eY eL E hU
  subst eD; subst eY; subst eL
  have E : jE G cJ1_canEncode_9a6ad RJ1 w_J1_canEncode_9a6ad 1 (some .boolean) { frames := 0, cells := 0, slots := 0, locals := 0 } (rS Z I L (fun r => (r = 0 ∧ ¬ (0 ≤ c.toInt ∧ c.toInt ≤ 255)) ∨ r = 1)) := E
  show jJ G 1 0 [(0, .int c)] [] Z I L 0 0
  refine j_iload_n E dJ1_canEncode_9a6ad_0 0 rfl ?_
  refine j_if_lt E 15 dJ1_canEncode_9a6ad_1 (by decide) (fun c1 => ?_) (fun c1 => ?_)
  · refine j_iconst E (v := 0) dJ1_canEncode_9a6ad_15 (by decide) ?_
    have c1 := (i_lt (x := c) (y := 0) rfl (show (0 : Int32).toInt = 0 from rfl)).mp c1
    exact j_zreturn E (Or.inl rfl) ⟨rfl, rfl, rfl, _, rfl, Or.inl ⟨rfl, by omega⟩⟩ (Nat.zero_le _) (Nat.zero_le _) dJ1_canEncode_9a6ad_16
  refine j_iload_n E dJ1_canEncode_9a6ad_4 0 rfl ?_
  refine j_sipush E (v := 255) dJ1_canEncode_9a6ad_5 (by decide) ?_
  refine j_icmp_gt E 15 dJ1_canEncode_9a6ad_8 (by decide) (fun c2 => ?_) (fun c2 => ?_)
  · refine j_iconst E (v := 0) dJ1_canEncode_9a6ad_15 (by decide) ?_
    have c2 := (i_lt (x := 255) (y := c) (show (255 : Int32).toInt = 255 from rfl) rfl).mp c2
    exact j_zreturn E (Or.inl rfl) ⟨rfl, rfl, rfl, _, rfl, Or.inl ⟨rfl, by omega⟩⟩ (Nat.zero_le _) (Nat.zero_le _) dJ1_canEncode_9a6ad_16
  refine j_iconst E (v := 1) dJ1_canEncode_9a6ad_11 (by decide) ?_
  refine j_goto E 16 dJ1_canEncode_9a6ad_12 (by decide) ?_
  exact j_zreturn E (Or.inr rfl) ⟨rfl, rfl, rfl, _, rfl, Or.inr rfl⟩ (Nat.zero_le _) (Nat.zero_le _) dJ1_canEncode_9a6ad_16
set_option maxHeartbeats 4000000 in
theorem cs_ixLoop {G : jG} {sa sb : Nat} {Z : jZ} {I : jI} {L : jL} {mx x : Int32} {P : Int32 → Prop} (E : jE G cJ1_indexOfChar_4cfef RJ1 w_J1_indexOfChar_4cfef 6 (some .int) { frames := 0, cells := 0, slots := 0, locals := 0 } (rS Z I L P)) (hU : jU sa sb (gA G) (gS G) (gS G).heap) (hm : mx.toInt = 7) (hP : ∀ r : Int32, (-1 ≤ r.toInt ∧ r.toInt ≤ 6) → r.toInt = lix x.toInt → P r) : ∀ (n : Nat) (i : Int32), 0 ≤ i.toInt → 7 - i.toInt < (n : Int) → i.toInt ≤ 7 → (∀ j : Nat, (j : Int) < i.toInt → ¬ jlet.getD j 0 = x) → jJ G 6 7 [(5, .int i), (4, .int x), (0, .ref sb), (3, .int mx)] [] Z I L 0 0 := by
  intro n
  induction n with
  | zero => intro i h0 h1 h2; exfalso; omega
  | succ n ih =>
    intro i h0 h1 h2 hN
    refine j_iload E dJ1_indexOfChar_4cfef_7 0 rfl ?_
    refine j_iload_n E dJ1_indexOfChar_4cfef_9 3 rfl ?_
    refine j_icmp_ge E 31 dJ1_indexOfChar_4cfef_10 (by decide) (fun c => ?_) (fun c => ?_)
    · have hc := (i_le (x := mx) (y := i) rfl rfl).mp c
      refine j_iconst E (v := -1) dJ1_indexOfChar_4cfef_31 (by decide) ?_
      exact j_ireturn E ⟨rfl, rfl, rfl, _, rfl, hP _ ⟨by decide, by decide⟩ (lix_none (fun j hj => hN j (by omega))).symm⟩ (Nat.zero_le _) (Nat.zero_le _) dJ1_indexOfChar_4cfef_32
    · have hc := (not_congr (i_le (x := mx) (y := i) rfl rfl)).mp c
      refine j_aload_n E dJ1_indexOfChar_4cfef_13 2 rfl ?_
      refine j_iload E dJ1_indexOfChar_4cfef_14 0 rfl ?_
      refine j_blS E hU (vi_of rfl (by omega) (by omega)) dJ1_indexOfChar_4cfef_16 ?_
      refine j_iload E dJ1_indexOfChar_4cfef_17 1 rfl ?_
      refine j_icmp_ne E 25 dJ1_indexOfChar_4cfef_19 (by decide) (fun c2 => ?_) (fun c2 => ?_)
      · obtain ⟨y, ey⟩ : ∃ y : Int32, y = i + 1 := ⟨_, rfl⟩
        refine j_iinc E y [(5, .int y), (4, .int x), (0, .ref sb), (3, .int mx)] dJ1_indexOfChar_4cfef_25 0 rfl (by rw [ey]; rfl) (by decide) rfl ?_
        refine j_goto E 7 dJ1_indexOfChar_4cfef_28 (by decide) ?_
        have hy : y.toInt = i.toInt + 1 := by rw [ey]; exact i_add rfl (show (1 : Int32).toInt = 1 from rfl) (by omega) (by omega)
        refine ih y (by omega) (by omega) (by omega) (fun j hj => ?_)
        by_cases cj : (j : Int) < i.toInt
        · exact hN j cj
        · have ni := i_nat (x := i) rfl h0
          have : j = i.toNatClampNeg := by omega
          subst this
          first | exact c2 | exact fun e => c2 e.symm
      · refine j_iload E dJ1_indexOfChar_4cfef_22 0 rfl ?_
        exact j_ireturn E ⟨rfl, rfl, rfl, _, rfl, hP _ ⟨by omega, by omega⟩ (lix_hit h0 (by omega) (by first | exact c2 | exact c2.symm))⟩ (Nat.zero_le _) (Nat.zero_le _) dJ1_indexOfChar_4cfef_24
set_option maxHeartbeats 4000000 in
theorem cs_indexOfChar (l : Launch) (D : va_G) (cy : jC) {sa sb : Nat} (Z : jZ) (I : jI) (L : jL) (c f m : Int32) (h0 : f.toInt = 0) (hm : m.toInt = 7) : jCtS sa sb l yJ1_indexOfChar_4cfef w_J1_indexOfChar_4cfef { frames := 0, cells := 0, slots := 0, locals := 0 } D cy [.ref sb, .int c, .int f, .int m] Z I L (rS Z I L (fun r => (-1 ≤ r.toInt ∧ r.toInt ≤ 6) ∧ LXP c r)) := by
  refine jCtS_of (cc := cJ1_indexOfChar_4cfef) (maxL := 6) (ret := some .int) (by decide +kernel) rfl (Nat.le_of_ble_eq_true rfl) ?_
  intro G eD eY eL E hU
  subst eD; subst eY; subst eL
  have E : jE G cJ1_indexOfChar_4cfef RJ1 w_J1_indexOfChar_4cfef 6 (some .int) { frames := 0, cells := 0, slots := 0, locals := 0 } (rS Z I L (fun r => (-1 ≤ r.toInt ∧ r.toInt ≤ 6) ∧ LXP c r)) := E
  show jJ G 6 0 [(0, .ref sb), (1, .int c), (2, .int f), (3, .int m)] [] Z I L 0 0
  refine j_iload_n E dJ1_indexOfChar_4cfef_0 1 rfl ?_
  refine j_i2b E dJ1_indexOfChar_4cfef_1 ?_
  refine j_topi (fun x ex => ?_)
  refine j_istore E 4 [(4, .int x), (0, .ref sb), (1, .int c), (2, .int f), (3, .int m)] dJ1_indexOfChar_4cfef_2 (by decide) rfl ?_
  refine j_iload_n E dJ1_indexOfChar_4cfef_4 3 rfl ?_
  refine j_istore E 5 [(5, .int f), (4, .int x), (0, .ref sb), (1, .int c), (2, .int f), (3, .int m)] dJ1_indexOfChar_4cfef_5 (by decide) rfl ?_
  refine j_sub [0, 1, 2, 5] rfl ?_
  exact cs_ixLoop (P := fun r => (-1 ≤ r.toInt ∧ r.toInt ≤ 6) ∧ LXP c r) E hU hm (fun r g1 g2 => ⟨g1, fun a b => g2.trans (lix_byte ex a b)⟩) 8 f (by omega) (by omega) (by omega) (fun j hj => by omega)
set_option maxHeartbeats 4000000 in
theorem cs_indexOf1 (l : Launch) (D : va_G) (cy : jC) {sa sb : Nat} (Z : jZ) (I : jI) (L : jL) (c : Int32) : jCtS sa sb l yJ1_indexOf_4cfef w_J1_indexOf_4cfef { frames := 1, cells := 0, slots := 0, locals := 25 } D cy [.ref sb, .int c, .int 0, .int 7] Z I L (rS Z I L (fun r => (-1 ≤ r.toInt ∧ r.toInt ≤ 6) ∧ LXP c r)) := by
  refine jCtS_of (cc := cJ1_indexOf_4cfef) (maxL := 4) (ret := some .int) (by decide +kernel) rfl (Nat.le_of_ble_eq_true rfl) ?_
  intro G eD eY eL E hU
  subst eD; subst eY; subst eL
  have E : jE G cJ1_indexOf_4cfef RJ1 w_J1_indexOf_4cfef 4 (some .int) { frames := 1, cells := 0, slots := 0, locals := 25 } (rS Z I L (fun r => (-1 ≤ r.toInt ∧ r.toInt ≤ 6) ∧ LXP c r)) := E
  show jJ G 4 0 [(0, .ref sb), (1, .int c), (2, .int 0), (3, .int 7)] [] Z I L 0 0
  refine j_iload_n E dJ1_indexOf_4cfef_0 1 rfl ?_
  refine j_callST E hU [.int c] [] (cs_canEncode (gL G) (gD G) (gY G) Z I L c) (gwS WS_1209 WS_1210 WS_1211 WS_1212) rfl fy_J1_canEncode_9a6ad ⟨by decide, by decide⟩ rfl rfl (Nat.le_of_ble_eq_true rfl) ⟨Nat.zero_le _, Nat.zero_le _⟩ dJ1_indexOf_4cfef_1 (fun v9 Z9 I9 L9 q9 => ?_)
  obtain ⟨rfl, rfl, rfl, r, rfl, er⟩ := q9
  show jJ G 4 4 [(0, .ref sb), (1, .int c), (2, .int 0), (3, .int 7)] [.int r] Z I L 0 0
  refine j_if_ne E 9 dJ1_indexOf_4cfef_4 (by decide) (fun c1 => ?_) (fun c1 => ?_)
  · refine j_iload_n E dJ1_indexOf_4cfef_9 2 rfl ?_
    refine j_iconst E (v := 0) dJ1_indexOf_4cfef_10 (by decide) ?_
    refine j_max E (tw WS_1213) (tw W_147) (tw W_8) (tw W_148) (Nat.le_of_ble_eq_true rfl) (Nat.le_of_ble_eq_true rfl) (Nat.zero_le _) (Nat.zero_le _) dJ1_indexOf_4cfef_11 ?_
    refine j_topi (fun f ef => ?_)
    refine j_istore_n E 2 [(2, .int f), (0, .ref sb), (1, .int c), (3, .int 7)] dJ1_indexOf_4cfef_14 rfl (by decide) rfl ?_
    refine j_iload_n E dJ1_indexOf_4cfef_15 3 rfl ?_
    refine j_aload_n E dJ1_indexOf_4cfef_16 1 rfl ?_
    refine j_lnS E hU dJ1_indexOf_4cfef_17 ?_
    refine j_min E (tw WS_1214) (tw W_7) (tw W_8) (tw W_9) (Nat.le_of_ble_eq_true rfl) (Nat.le_of_ble_eq_true rfl) (Nat.zero_le _) (Nat.zero_le _) dJ1_indexOf_4cfef_18 ?_
    refine j_topi (fun m em => ?_)
    refine j_istore_n E 3 [(3, .int m), (2, .int f), (0, .ref sb), (1, .int c)] dJ1_indexOf_4cfef_21 rfl (by decide) rfl ?_
    have hf : f.toInt = 0 := by rw [ef]; decide
    have hm : m.toInt = 7 := by rw [em]; decide
    refine j_iload_n E dJ1_indexOf_4cfef_22 1 rfl ?_
    refine j_iload_n E dJ1_indexOf_4cfef_23 0 rfl ?_
    refine j_icmp_lt E 29 dJ1_indexOf_4cfef_24 (by decide) (fun c2 => ?_) (fun c2 => ?_)
    · refine j_aload_n E dJ1_indexOf_4cfef_29 2 rfl ?_
      refine j_iload_n E dJ1_indexOf_4cfef_30 3 rfl ?_
      refine j_iload_n E dJ1_indexOf_4cfef_31 1 rfl ?_
      refine j_iload_n E dJ1_indexOf_4cfef_32 0 rfl ?_
      refine j_callST E hU [.ref sb, .int c, .int f, .int m] [] (cs_indexOfChar (gL G) (gD G) (gY G) Z I L c f m hf hm) (gwS WS_1215 WS_1216 WS_1211 WS_1217) rfl fy_J1_indexOfChar_4cfef ⟨by decide, by decide⟩ rfl rfl (Nat.le_of_ble_eq_true rfl) ⟨Nat.zero_le _, Nat.zero_le _⟩ dJ1_indexOf_4cfef_33 (fun v9 Z9 I9 L9 q9 => ?_)
      obtain ⟨rfl, rfl, rfl, r2, rfl, er2⟩ := q9
      exact j_ireturn E ⟨rfl, rfl, rfl, _, rfl, er2⟩ (Nat.zero_le _) (Nat.zero_le _) dJ1_indexOf_4cfef_36
    · have c2 := (not_congr (i_lt hf hm)).mp c2
      omega
  · have c1 : r = 0 := by first | exact Classical.byContradiction c1 | exact c1
    refine j_iconst E (v := -1) dJ1_indexOf_4cfef_7 (by decide) ?_
    exact j_ireturn E ⟨rfl, rfl, rfl, _, rfl, ⟨by decide, by decide⟩, fun a b => by
      rcases er with er | er
      · exact absurd ⟨a, b⟩ er.2
      · rw [c1] at er; exact absurd er (by decide)⟩ (Nat.zero_le _) (Nat.zero_le _) dJ1_indexOf_4cfef_8
set_option maxHeartbeats 4000000 in
theorem cs_coder (l : Launch) (D : va_G) (cy : jC) {sa sb : Nat} (Z : jZ) (I : jI) (L : jL)  : jCtS sa sb l yJ0_coder_7d493 w_J0_coder_7d493 { frames := 0, cells := 0, slots := 0, locals := 0 } D cy [.ref sa] Z I L (rS Z I L (fun r => r = 0)) := by
  refine jCtS_of (cc := cJ0_coder_7d493) (maxL := 1) (ret := some .byte) (by decide +kernel) rfl (Nat.le_of_ble_eq_true rfl) ?_
  intro G eD eY eL E hU
  subst eD; subst eY; subst eL
  have E : jE G cJ0_coder_7d493 RJ0 w_J0_coder_7d493 1 (some .byte) { frames := 0, cells := 0, slots := 0, locals := 0 } (rS Z I L (fun r => r = 0)) := E
  show jJ G 1 0 [(0, .ref sa)] [] Z I L 0 0
  refine j_gsS E hU (tw WS_1218) dJ0_coder_7d493_0 ?_
  refine j_if_eq E 13 dJ0_coder_7d493_3 (by decide) (fun c => absurd c (by decide)) (fun _ => ?_)
  refine j_aload_n E dJ0_coder_7d493_6 0 rfl ?_
  refine j_cdS E hU (tw WS_1219) dJ0_coder_7d493_7 ?_
  refine j_goto E 14 dJ0_coder_7d493_10 (by decide) ?_
  exact j_xreturn E rfl ⟨rfl, rfl, rfl, _, rfl, rfl⟩ (Nat.zero_le _) (Nat.zero_le _) dJ0_coder_7d493_14
set_option maxHeartbeats 4000000 in
theorem cs_isLatin1 (l : Launch) (D : va_G) (cy : jC) {sa sb : Nat} (Z : jZ) (I : jI) (L : jL)  : jCtS sa sb l yJ0_isLatin1_aae02 w_J0_isLatin1_aae02 { frames := 0, cells := 0, slots := 0, locals := 0 } D cy [.ref sa] Z I L (rS Z I L (fun r => r = 1)) := by
  refine jCtS_of (cc := cJ0_isLatin1_aae02) (maxL := 1) (ret := some .boolean) (by decide +kernel) rfl (Nat.le_of_ble_eq_true rfl) ?_
  intro G eD eY eL E hU
  subst eD; subst eY; subst eL
  have E : jE G cJ0_isLatin1_aae02 RJ0 w_J0_isLatin1_aae02 1 (some .boolean) { frames := 0, cells := 0, slots := 0, locals := 0 } (rS Z I L (fun r => r = 1)) := E
  show jJ G 1 0 [(0, .ref sa)] [] Z I L 0 0
  refine j_gsS E hU (tw WS_1218) dJ0_isLatin1_aae02_0 ?_
  refine j_if_eq E 17 dJ0_isLatin1_aae02_3 (by decide) (fun c => absurd c (by decide)) (fun _ => ?_)
  refine j_aload_n E dJ0_isLatin1_aae02_6 0 rfl ?_
  refine j_cdS E hU (tw WS_1219) dJ0_isLatin1_aae02_7 ?_
  refine j_if_ne E 17 dJ0_isLatin1_aae02_10 (by decide) (fun c => absurd rfl c) (fun _ => ?_)
  refine j_iconst E (v := 1) dJ0_isLatin1_aae02_13 (by decide) ?_
  refine j_goto E 18 dJ0_isLatin1_aae02_14 (by decide) ?_
  exact j_zreturn E (Or.inr rfl) ⟨rfl, rfl, rfl, _, rfl, rfl⟩ (Nat.zero_le _) (Nat.zero_le _) dJ0_isLatin1_aae02_18
set_option maxHeartbeats 4000000 in
theorem cs_length (l : Launch) (D : va_G) (cy : jC) {sa sb : Nat} (Z : jZ) (I : jI) (L : jL)  : jCtS sa sb l yJ0_length_8abf5 w_J0_length_8abf5 { frames := 1, cells := 0, slots := 0, locals := 20 } D cy [.ref sa] Z I L (rS Z I L (fun r => r = 7)) := by
  refine jCtS_of (cc := cJ0_length_8abf5) (maxL := 1) (ret := some .int) (by decide +kernel) rfl (Nat.le_of_ble_eq_true rfl) ?_
  intro G eD eY eL E hU
  subst eD; subst eY; subst eL
  have E : jE G cJ0_length_8abf5 RJ0 w_J0_length_8abf5 1 (some .int) { frames := 1, cells := 0, slots := 0, locals := 20 } (rS Z I L (fun r => r = 7)) := E
  show jJ G 1 0 [(0, .ref sa)] [] Z I L 0 0
  refine j_aload_n E dJ0_length_8abf5_0 0 rfl ?_
  refine j_vlS E hU (tw WS_1220) dJ0_length_8abf5_1 ?_
  refine j_lnS E hU dJ0_length_8abf5_4 ?_
  refine j_aload_n E dJ0_length_8abf5_5 0 rfl ?_
  refine j_callVT E hU [] [.int 7] (cs_coder (gL G) (gD G) (gY G) Z I L) (gwV WS_1221 WS_1222 WS_1223 WS_1224 WS_1225) rfl ⟨rfl, fy_J0_coder_7d493⟩ ⟨by decide, by decide⟩ rfl rfl (Nat.le_of_ble_eq_true rfl) ⟨Nat.zero_le _, Nat.zero_le _⟩ dJ0_length_8abf5_6 (fun v9 Z9 I9 L9 q9 => ?_)
  obtain ⟨rfl, rfl, rfl, r, rfl, er⟩ := q9
  have er : r = 0 := er
  subst er
  show jJ G 1 9 [(0, .ref sa)] [.int 0, .int 7] Z I L 0 0
  refine j_ishr E dJ0_length_8abf5_9 ?_
  exact j_ireturn E ⟨rfl, rfl, rfl, _, rfl, by decide⟩ (Nat.zero_le _) (Nat.zero_le _) dJ0_length_8abf5_10
set_option maxHeartbeats 4000000 in
theorem cs_indexOf2 (l : Launch) (D : va_G) (cy : jC) {sa sb : Nat} (Z : jZ) (I : jI) (L : jL) (c : Int32) : jCtS sa sb l yJ0_indexOf_7cf53 w_J0_indexOf_7cf53 { frames := 2, cells := 0, slots := 0, locals := 48 } D cy [.ref sa, .int c, .int 0] Z I L (rS Z I L (fun r => (-1 ≤ r.toInt ∧ r.toInt ≤ 6) ∧ LXP c r)) := by
  refine jCtS_of (cc := cJ0_indexOf_7cf53) (maxL := 3) (ret := some .int) (by decide +kernel) rfl (Nat.le_of_ble_eq_true rfl) ?_
  intro G eD eY eL E hU
  subst eD; subst eY; subst eL
  have E : jE G cJ0_indexOf_7cf53 RJ0 w_J0_indexOf_7cf53 3 (some .int) { frames := 2, cells := 0, slots := 0, locals := 48 } (rS Z I L (fun r => (-1 ≤ r.toInt ∧ r.toInt ≤ 6) ∧ LXP c r)) := E
  show jJ G 3 0 [(0, .ref sa), (1, .int c), (2, .int 0)] [] Z I L 0 0
  refine j_aload_n E dJ0_indexOf_7cf53_0 0 rfl ?_
  refine j_callVT E hU [] [] (cs_isLatin1 (gL G) (gD G) (gY G) Z I L) (gwV WS_1226 WS_1227 WS_1228 WS_1224 WS_1229) rfl ⟨rfl, fy_J0_isLatin1_aae02⟩ ⟨by decide, by decide⟩ rfl rfl (Nat.le_of_ble_eq_true rfl) ⟨Nat.zero_le _, Nat.zero_le _⟩ dJ0_indexOf_7cf53_1 (fun v9 Z9 I9 L9 q9 => ?_)
  obtain ⟨rfl, rfl, rfl, r, rfl, er⟩ := q9
  have er : r = 1 := er
  subst er
  show jJ G 3 4 [(0, .ref sa), (1, .int c), (2, .int 0)] [.int 1] Z I L 0 0
  refine j_if_eq E 23 dJ0_indexOf_7cf53_4 (by decide) (fun c => absurd c (by decide)) (fun _ => ?_)
  refine j_aload_n E dJ0_indexOf_7cf53_7 0 rfl ?_
  refine j_vlS E hU (tw WS_1220) dJ0_indexOf_7cf53_8 ?_
  refine j_iload_n E dJ0_indexOf_7cf53_11 1 rfl ?_
  refine j_iload_n E dJ0_indexOf_7cf53_12 2 rfl ?_
  refine j_aload_n E dJ0_indexOf_7cf53_13 0 rfl ?_
  refine j_callVT E hU [] [.int 0, .int c, .ref sb] (cs_length (gL G) (gD G) (gY G) Z I L) (gwV WS_1230 WS_1231 WS_1232 WS_1224 WS_1233) rfl ⟨rfl, fy_J0_length_8abf5⟩ ⟨by decide, by decide⟩ rfl rfl (Nat.le_of_ble_eq_true rfl) ⟨Nat.zero_le _, Nat.zero_le _⟩ dJ0_indexOf_7cf53_14 (fun v9 Z9 I9 L9 q9 => ?_)
  obtain ⟨rfl, rfl, rfl, r2, rfl, er2⟩ := q9
  have er2 : r2 = 7 := er2
  subst er2
  show jJ G 3 17 [(0, .ref sa), (1, .int c), (2, .int 0)] [.int 7, .int 0, .int c, .ref sb] Z I L 0 0
  refine j_callST E hU [.ref sb, .int c, .int 0, .int 7] [] (cs_indexOf1 (gL G) (gD G) (gY G) Z I L c) (gwS WS_1234 WS_1235 WS_1211 WS_1236) rfl fy_J1_indexOf_4cfef ⟨by decide, by decide⟩ rfl rfl (Nat.le_of_ble_eq_true rfl) ⟨Nat.zero_le _, Nat.zero_le _⟩ dJ0_indexOf_7cf53_17 (fun v9 Z9 I9 L9 q9 => ?_)
  obtain ⟨rfl, rfl, rfl, r3, rfl, er3⟩ := q9
  show jJ G 3 20 [(0, .ref sa), (1, .int c), (2, .int 0)] [.int r3] Z I L 0 0
  refine j_goto E 36 dJ0_indexOf_7cf53_20 (by decide) ?_
  exact j_ireturn E ⟨rfl, rfl, rfl, _, rfl, er3⟩ (Nat.zero_le _) (Nat.zero_le _) dJ0_indexOf_7cf53_36
set_option maxHeartbeats 4000000 in
theorem cs_indexOf (l : Launch) (D : va_G) (cy : jC) {sa sb : Nat} (Z : jZ) (I : jI) (L : jL) (c : Int32) : jCtS sa sb l yJ0_indexOf_0f7a4 w_J0_indexOf_0f7a4 { frames := 3, cells := 0, slots := 0, locals := 70 } D cy [.ref sa, .int c] Z I L (rS Z I L (fun r => (-1 ≤ r.toInt ∧ r.toInt ≤ 6) ∧ LXP c r)) := by
  refine jCtS_of (cc := cJ0_indexOf_0f7a4) (maxL := 2) (ret := some .int) (by decide +kernel) rfl (Nat.le_of_ble_eq_true rfl) ?_
  intro G eD eY eL E hU
  subst eD; subst eY; subst eL
  have E : jE G cJ0_indexOf_0f7a4 RJ0 w_J0_indexOf_0f7a4 2 (some .int) { frames := 3, cells := 0, slots := 0, locals := 70 } (rS Z I L (fun r => (-1 ≤ r.toInt ∧ r.toInt ≤ 6) ∧ LXP c r)) := E
  show jJ G 2 0 [(0, .ref sa), (1, .int c)] [] Z I L 0 0
  refine j_aload_n E dJ0_indexOf_0f7a4_0 0 rfl ?_
  refine j_iload_n E dJ0_indexOf_0f7a4_1 1 rfl ?_
  refine j_iconst E (v := 0) dJ0_indexOf_0f7a4_2 (by decide) ?_
  refine j_callVT E hU [.int c, .int 0] [] (cs_indexOf2 (gL G) (gD G) (gY G) Z I L c) (gwV WS_1237 WS_1238 WS_1239 WS_1224 WS_1240) rfl ⟨rfl, fy_J0_indexOf_7cf53⟩ ⟨by decide, by decide⟩ rfl rfl (Nat.le_of_ble_eq_true rfl) ⟨Nat.zero_le _, Nat.zero_le _⟩ dJ0_indexOf_0f7a4_3 (fun v9 Z9 I9 L9 q9 => ?_)
  obtain ⟨rfl, rfl, rfl, r, rfl, er⟩ := q9
  exact j_ireturn E ⟨rfl, rfl, rfl, _, rfl, er⟩ (Nat.zero_le _) (Nat.zero_le _) dJ0_indexOf_0f7a4_6
end
section
abbrev FTR3 : Type := Nat → Nat → Nat → Int32 → jZ → jI → jL → (jI → jL → Prop) → Prop
abbrev rR3 (d : Nat) : Room := { frames := d + 4, cells := 0, slots := 0, locals := 24 * d + 100 }
def HFR3 (sa sb : Nat) (l : Launch) (D : va_G) (cy : jC) (d : Nat) (F : FTR3) : Prop := (∀ (v0 : Nat) (v1 : Nat) (v2 : Int32) (Z : jZ) (I : jI) (L : jL) (Q : jI → jL → Prop), SH Z → jk Z v0 3 → jk Z v1 10 → F 0 v0 v1 v2 Z I L Q → jCtS sa sb l yX3_readExpression w_X3_readExpression (rR3 d) D cy [.ref v0, .ref v1, .int v2] Z I L (rtV Z Q)) ∧ (∀ (v0 : Nat) (v1 : Nat) (v2 : Int32) (Z : jZ) (I : jI) (L : jL) (Q : jI → jL → Prop), SH Z → jk Z v0 3 → jk Z v1 10 → F 1 v0 v1 v2 Z I L Q → jCtS sa sb l yX3_readSum w_X3_readSum (rR3 d) D cy [.ref v0, .ref v1, .int v2] Z I L (rtV Z Q)) ∧ (∀ (v0 : Nat) (v1 : Nat) (v2 : Int32) (Z : jZ) (I : jI) (L : jL) (Q : jI → jL → Prop), SH Z → jk Z v0 3 → jk Z v1 10 → F 2 v0 v1 v2 Z I L Q → jCtS sa sb l yX3_readProduct w_X3_readProduct (rR3 d) D cy [.ref v0, .ref v1, .int v2] Z I L (rtV Z Q)) ∧ (∀ (v0 : Nat) (v1 : Nat) (v2 : Int32) (Z : jZ) (I : jI) (L : jL) (Q : jI → jL → Prop), SH Z → jk Z v0 3 → jk Z v1 10 → F 3 v0 v1 v2 Z I L Q → jCtS sa sb l yX3_readSigned w_X3_readSigned (rR3 d) D cy [.ref v0, .ref v1, .int v2] Z I L (rtV Z Q)) ∧ (∀ (v0 : Nat) (v1 : Nat) (v2 : Int32) (Z : jZ) (I : jI) (L : jL) (Q : jI → jL → Prop), SH Z → jk Z v0 3 → jk Z v1 10 → F 4 v0 v1 v2 Z I L Q → jCtS sa sb l yX3_readThing w_X3_readThing (rR3 d) D cy [.ref v0, .ref v1, .int v2] Z I L (rtV Z Q))
set_option maxRecDepth 100000 in
def fs_X3_readThing_b113 (F : FTR3)  (Z : jZ) (Q : jI → jL → Prop) (v0 : Nat) (I : jI) (L : jL) : Prop := (∀ I1 : jI, I1 = jpI I v0 8 (I v0 6) → Q I1 L)
set_option maxHeartbeats 4000000 in
set_option maxRecDepth 100000 in
theorem ms_X3_readThing_b113 {G : jG} {sa sb : Nat} {d : Nat} {F : FTR3} {Z : jZ} {Q : jI → jL → Prop} (E : jE G cX3_readThing RX3 w_X3_readThing 5 none (rR3 (d + 1)) (rtV Z Q)) (hU : jU sa sb (gA G) (gS G) (gS G).heap) (hF : HFR3 sa sb (gL G) (gD G) (gY G) d F) (hZ : SH Z)  (v0 : Nat) (I : jI) (L : jL) (kv0 : jk Z v0 3) (h : fs_X3_readThing_b113 F  Z Q v0 I L) : jJ G 5 113 [(0, .ref v0)] [] Z I L 0 0 := by
  refine j_aload_n E dX3_readThing_113 0 rfl ?_
  refine j_aload_n E dX3_readThing_114 0 rfl ?_
  refine j_geti E 3 6 rfl rfl (by decide) (by decide) (iw iT_3) rfl rfl (tw W_186) kv0 dX3_readThing_115 ?_
  refine j_puti E 3 8 rfl rfl (by decide) (by decide) (iw iT_3) tyX3_ok nmX3 rfl rfl (tw W_197) rfl rfl rfl kv0 dX3_readThing_118 ?_
  refine j_nmI (fun I1 eI1 => ?_)
  have h := h I1 eI1
  exact j_return E ⟨rfl, rfl, h⟩ (Nat.zero_le _) (Nat.zero_le _) dX3_readThing_121
set_option maxRecDepth 100000 in
def fs_X3_readThing_b22 (F : FTR3)  (Z : jZ) (Q : jI → jL → Prop) (v0 : Nat) (v1 : Nat) (v2 : Int32) (v3 : Int32) (s0 : Int32) (I : jI) (L : jL) : Prop := (((I v0 8) = (-1 : Int32) → (f_X10_isDigit v3 Z I L (fun r9 I5 L6 => ((r9 = 0 → ((s0 < 0 → ((¬ v3 = (40 : Int32) → fs_X3_readThing_b113 F  Z Q v0 I5 L6) ∧ (v3 = (40 : Int32) → (((4 : Int32) ≤ v2 → fs_X3_readThing_b113 F  Z Q v0 I5 L6) ∧ (¬ ((4 : Int32) ≤ v2) → (∀ I14 : jI, I14 = jpI I5 v0 6 ((I5 v0 6) + (1 : Int32)) → (F 0 v0 v1 (v2 + (1 : Int32)) Z I14 L6 (fun I17 L18 => (f_X3_readClosing v0 v1 Z I17 L18 (fun I23 L24 => Q I23 L24)))))))))) ∧ (¬ (s0 < 0) → (∀ I27 : jI, I27 = jpI I5 v0 6 ((I5 v0 6) + (1 : Int32)) → (f_X3_emit v0 ((1000 : Int32) + s0) Z I27 L6 (fun I30 L31 => Q I30 L31)))))) ∧ (¬ (r9 = 0) → (f_X3_readNumber v0 v1 Z I5 L6 (fun I36 L37 => Q I36 L37))))))) ∧ (¬ ((I v0 8) = (-1 : Int32)) → Q I L))
set_option maxHeartbeats 4000000 in
set_option maxRecDepth 100000 in
theorem ms_X3_readThing_b22 {G : jG} {sa sb : Nat} {d : Nat} {F : FTR3} {Z : jZ} {Q : jI → jL → Prop} (E : jE G cX3_readThing RX3 w_X3_readThing 5 none (rR3 (d + 1)) (rtV Z Q)) (hU : jU sa sb (gA G) (gS G) (gS G).heap) (hF : HFR3 sa sb (gL G) (gD G) (gY G) d F) (hZ : SH Z)  (v0 : Nat) (v1 : Nat) (v2 : Int32) (v3 : Int32) (s0 : Int32) (I : jI) (L : jL) (kv0 : jk Z v0 3) (kv1 : jk Z v1 10) (h : fs_X3_readThing_b22 F  Z Q v0 v1 v2 v3 s0 I L) : jJ G 5 22 [(0, .ref v0), (1, .ref v1), (2, .int v2), (3, .int v3)] [.int s0] Z I L 0 0 := by
  refine j_istore E 4 [(4, .int s0), (0, .ref v0), (1, .ref v1), (2, .int v2), (3, .int v3)] dX3_readThing_22 (by decide) rfl ?_
  refine j_aload_n E dX3_readThing_24 1 rfl ?_
  refine j_geti E 3 8 rfl rfl (by decide) (by decide) (iw iT_3) rfl rfl (tw W_197) kv0 dX3_readThing_25 ?_
  refine j_iconst E (v := -1) dX3_readThing_28 (by decide) ?_
  refine j_icmp_eq E 33 dX3_readThing_29 (by decide) (fun c2 => ?_) (fun c2 => ?_)
  · have h := h.1 c2
    refine j_iload_n E dX3_readThing_33 4 rfl ?_
    refine j_callS E [.int v3] [] (c_X10_isDigit (gL G) (gD G) (gY G) v3 Z I L _ hZ  h) (gwS W_205 W_206 W_189 W_204) rfl fy_X10_isDigit ⟨by show 0 + 1 ≤ d + 1 + 4; omega, by show 8 + (1 + 11) + 0 ≤ 24 * (d + 1) + 100; omega⟩ rfl rfl (Nat.le_of_ble_eq_true rfl) ⟨Nat.zero_le _, Nat.zero_le _⟩ dX3_readThing_34 (fun v3 Z4 I5 L6 q7 => ?_)
    obtain ⟨rfl, r9, rfl, zr9, h⟩ := q7
    show jJ G 5 37 [(4, .int s0), (0, .ref v0), (1, .ref v1), (2, .int v2), (3, .int v3)] [.int r9] Z I5 L6 0 0
    refine j_if_eq E 48 dX3_readThing_37 (by decide) (fun c10 => ?_) (fun c10 => ?_)
    · have h := h.1 c10
      refine j_iload E dX3_readThing_48 0 rfl ?_
      refine j_if_lt E 76 dX3_readThing_50 (by decide) (fun c11 => ?_) (fun c11 => ?_)
      · have h := h.1 c11
        refine j_iload_n E dX3_readThing_76 4 rfl ?_
        refine j_bipush E (v := 40) dX3_readThing_77 (by decide) ?_
        refine j_icmp_ne E 113 dX3_readThing_79 (by decide) (fun c12 => ?_) (fun c12 => ?_)
        · have h := h.1 c12
          refine j_sub [1] rfl ?_
          exact ms_X3_readThing_b113 E hU hF hZ  v0 I5 L6 kv0 h
        · have h := h.2 c12
          refine j_iload_n E dX3_readThing_82 3 rfl ?_
          refine j_iconst E (v := 4) dX3_readThing_83 (by decide) ?_
          refine j_icmp_ge E 113 dX3_readThing_84 (by decide) (fun c13 => ?_) (fun c13 => ?_)
          · have h := h.1 c13
            refine j_sub [1] rfl ?_
            exact ms_X3_readThing_b113 E hU hF hZ  v0 I5 L6 kv0 h
          · have h := h.2 c13
            refine j_aload_n E dX3_readThing_87 1 rfl ?_
            refine j_dup E dX3_readThing_88 rfl ?_
            refine j_geti E 3 6 rfl rfl (by decide) (by decide) (iw iT_3) rfl rfl (tw W_186) kv0 dX3_readThing_89 ?_
            refine j_iconst E (v := 1) dX3_readThing_92 (by decide) ?_
            refine j_iadd E dX3_readThing_93 ?_
            refine j_puti E 3 6 rfl rfl (by decide) (by decide) (iw iT_3) tyX3_ok nmX3 rfl rfl (tw W_186) rfl rfl rfl kv0 dX3_readThing_94 ?_
            refine j_nmI (fun I14 eI14 => ?_)
            have h := h I14 eI14
            refine j_aload_n E dX3_readThing_97 1 rfl ?_
            refine j_aload_n E dX3_readThing_98 2 rfl ?_
            refine j_iload_n E dX3_readThing_99 3 rfl ?_
            refine j_iconst E (v := 1) dX3_readThing_100 (by decide) ?_
            refine j_iadd E dX3_readThing_101 ?_
            refine j_callVS E hU [.ref v1, .int (v2 + (1 : Int32))] [] (hF.1 v0 v1 (v2 + (1 : Int32)) Z I14 L6 _ hZ kv0 kv1 h) (gwV WS_1242 WS_1243 WS_1244 W_179 WS_1241) rfl ⟨rfl, fy_X3_readExpression⟩ ⟨by show d + 4 + 1 ≤ d + 1 + 4; omega, by show 8 + (4 + 11) + (24 * d + 100) ≤ 24 * (d + 1) + 100; omega⟩ (c := 3) rfl (by decide) kv0 rfl rfl (Nat.le_of_ble_eq_true rfl) ⟨Nat.zero_le _, Nat.zero_le _⟩ dX3_readThing_102 (fun v15 Z16 I17 L18 q19 => ?_)
            obtain ⟨rfl, rfl, h⟩ := q19
            show jJ G 5 105 [(4, .int s0), (0, .ref v0), (1, .ref v1), (2, .int v2), (3, .int v3)] [] Z I17 L18 0 0
            refine j_aload_n E dX3_readThing_105 1 rfl ?_
            refine j_aload_n E dX3_readThing_106 2 rfl ?_
            refine j_callV E [.ref v1] [] (c_X3_readClosing (gL G) (gD G) (gY G) v0 v1 Z I17 L18 _ hZ kv0 kv1 h) (gwV WS_1246 WS_1247 WS_1248 W_179 WS_1245) rfl ⟨rfl, fy_X3_readClosing⟩ ⟨by show 3 + 1 ≤ d + 1 + 4; omega, by show 8 + (2 + 11) + 66 ≤ 24 * (d + 1) + 100; omega⟩ (c := 3) rfl (by decide) kv0 rfl rfl (Nat.le_of_ble_eq_true rfl) ⟨Nat.zero_le _, Nat.zero_le _⟩ dX3_readThing_107 (fun v21 Z22 I23 L24 q25 => ?_)
            obtain ⟨rfl, rfl, h⟩ := q25
            show jJ G 5 110 [(4, .int s0), (0, .ref v0), (1, .ref v1), (2, .int v2), (3, .int v3)] [] Z I23 L24 0 0
            refine j_goto E 121 dX3_readThing_110 (by decide) ?_
            exact j_return E ⟨rfl, rfl, h⟩ (Nat.zero_le _) (Nat.zero_le _) dX3_readThing_121
      · have h := h.2 c11
        refine j_aload_n E dX3_readThing_53 1 rfl ?_
        refine j_dup E dX3_readThing_54 rfl ?_
        refine j_geti E 3 6 rfl rfl (by decide) (by decide) (iw iT_3) rfl rfl (tw W_186) kv0 dX3_readThing_55 ?_
        refine j_iconst E (v := 1) dX3_readThing_58 (by decide) ?_
        refine j_iadd E dX3_readThing_59 ?_
        refine j_puti E 3 6 rfl rfl (by decide) (by decide) (iw iT_3) tyX3_ok nmX3 rfl rfl (tw W_186) rfl rfl rfl kv0 dX3_readThing_60 ?_
        refine j_nmI (fun I27 eI27 => ?_)
        have h := h I27 eI27
        refine j_aload_n E dX3_readThing_63 1 rfl ?_
        refine j_sipush E (v := 1000) dX3_readThing_64 (by decide) ?_
        refine j_iload E dX3_readThing_67 0 rfl ?_
        refine j_iadd E dX3_readThing_69 ?_
        refine j_callV E [.int ((1000 : Int32) + s0)] [] (c_X3_emit (gL G) (gD G) (gY G) v0 ((1000 : Int32) + s0) Z I27 L6 _ hZ kv0 h) (gwV W_201 W_202 W_203 W_179 W_200) rfl ⟨rfl, fy_X3_emit⟩ ⟨by show 0 + 1 ≤ d + 1 + 4; omega, by show 8 + (2 + 11) + 0 ≤ 24 * (d + 1) + 100; omega⟩ (c := 3) rfl (by decide) kv0 rfl rfl (Nat.le_of_ble_eq_true rfl) ⟨Nat.zero_le _, Nat.zero_le _⟩ dX3_readThing_70 (fun v28 Z29 I30 L31 q32 => ?_)
        obtain ⟨rfl, rfl, h⟩ := q32
        show jJ G 5 73 [(4, .int s0), (0, .ref v0), (1, .ref v1), (2, .int v2), (3, .int v3)] [] Z I30 L31 0 0
        refine j_goto E 121 dX3_readThing_73 (by decide) ?_
        exact j_return E ⟨rfl, rfl, h⟩ (Nat.zero_le _) (Nat.zero_le _) dX3_readThing_121
    · have h := h.2 c10
      refine j_aload_n E dX3_readThing_40 1 rfl ?_
      refine j_aload_n E dX3_readThing_41 2 rfl ?_
      refine j_callV E [.ref v1] [] (c_X3_readNumber (gL G) (gD G) (gY G) v0 v1 Z I5 L6 _ hZ kv0 kv1 h) (gwV WS_1250 WS_1251 WS_1252 W_179 WS_1249) rfl ⟨rfl, fy_X3_readNumber⟩ ⟨by show 2 + 1 ≤ d + 1 + 4; omega, by show 8 + (4 + 11) + 42 ≤ 24 * (d + 1) + 100; omega⟩ (c := 3) rfl (by decide) kv0 rfl rfl (Nat.le_of_ble_eq_true rfl) ⟨Nat.zero_le _, Nat.zero_le _⟩ dX3_readThing_42 (fun v34 Z35 I36 L37 q38 => ?_)
      obtain ⟨rfl, rfl, h⟩ := q38
      show jJ G 5 45 [(4, .int s0), (0, .ref v0), (1, .ref v1), (2, .int v2), (3, .int v3)] [] Z I36 L37 0 0
      refine j_goto E 121 dX3_readThing_45 (by decide) ?_
      exact j_return E ⟨rfl, rfl, h⟩ (Nat.zero_le _) (Nat.zero_le _) dX3_readThing_121
  · have h := h.2 c2
    exact j_return E ⟨rfl, rfl, h⟩ (Nat.zero_le _) (Nat.zero_le _) dX3_readThing_32
set_option maxRecDepth 100000 in
def fs_X3_readThing (F : FTR3) (v0 : Nat) (v1 : Nat) (v2 : Int32) (Z : jZ) (I : jI) (L : jL) (Q : jI → jL → Prop) : Prop := (f_X3_look v0 v1 Z I L (fun r46 I42 L43 => ((¬ r46 = (-1 : Int32) → (∀ r48 : Int32, ((-1 ≤ r48.toInt ∧ r48.toInt ≤ 6) ∧ LXP ((r46.toUInt32 % 65536).toInt32) r48) → fs_X3_readThing_b22 F  Z Q v0 v1 v2 r46 r48 I42 L43)) ∧ (r46 = (-1 : Int32) → fs_X3_readThing_b22 F  Z Q v0 v1 v2 r46 (-1 : Int32) I42 L43))))
set_option maxHeartbeats 4000000 in
set_option maxRecDepth 100000 in
theorem cs_X3_readThing (l : Launch) (D : va_G) (cy : jC) {sa sb : Nat} {d : Nat} {F : FTR3} (hF : HFR3 sa sb l D cy d F) (v0 : Nat) (v1 : Nat) (v2 : Int32) (Z : jZ) (I : jI) (L : jL) (Q : jI → jL → Prop) (hZ : SH Z) (kv0 : jk Z v0 3) (kv1 : jk Z v1 10) (h : fs_X3_readThing F v0 v1 v2 Z I L Q) : jCtS sa sb l yX3_readThing w_X3_readThing (rR3 (d + 1)) D cy [.ref v0, .ref v1, .int v2] Z I L (rtV Z Q) := by
  refine jCtS_of (cc := cX3_readThing) (maxL := 5) (ret := none) (by decide +kernel) rfl (Nat.le_of_ble_eq_true rfl) ?_
  intro G eD eY eL E hU
  subst eD; subst eY; subst eL
  have E : jE G cX3_readThing RX3 w_X3_readThing 5 none (rR3 (d + 1)) (rtV Z Q) := E
  show jJ G 5 0 [(0, .ref v0), (1, .ref v1), (2, .int v2)] [] Z I L 0 0
  refine j_aload_n E dX3_readThing_0 0 rfl ?_
  refine j_aload_n E dX3_readThing_1 1 rfl ?_
  refine j_callV E [.ref v1] [] (c_X3_look (gL G) (gD G) (gY G) v0 v1 Z I L _ hZ kv0 kv1 h) (gwV W_194 W_195 W_196 W_179 W_193) rfl ⟨rfl, fy_X3_look⟩ ⟨by show 1 + 1 ≤ d + 1 + 4; omega, by show 8 + (2 + 11) + 21 ≤ 24 * (d + 1) + 100; omega⟩ (c := 3) rfl (by decide) kv0 rfl rfl (Nat.le_of_ble_eq_true rfl) ⟨Nat.zero_le _, Nat.zero_le _⟩ dX3_readThing_2 (fun v40 Z41 I42 L43 q44 => ?_)
  obtain ⟨rfl, r46, rfl, h⟩ := q44
  show jJ G 5 5 [(0, .ref v0), (1, .ref v1), (2, .int v2)] [.int r46] Z I42 L43 0 0
  refine j_istore_n E 3 [(3, .int r46), (0, .ref v0), (1, .ref v1), (2, .int v2)] dX3_readThing_5 rfl (by decide) rfl ?_
  refine j_iload_n E dX3_readThing_6 0 rfl ?_
  refine j_iconst E (v := -1) dX3_readThing_7 (by decide) ?_
  refine j_icmp_ne E 15 dX3_readThing_8 (by decide) (fun c47 => ?_) (fun c47 => ?_)
  · have h := h.1 c47
    refine j_ldcS E hU dX3_readThing_15 ?_
    refine j_iload_n E dX3_readThing_17 0 rfl ?_
    refine j_i2c E dX3_readThing_18 ?_
    refine j_callVT E hU [.int ((r46.toUInt32 % 65536).toInt32)] [] (cs_indexOf (gL G) (gD G) (gY G) Z I42 L43 ((r46.toUInt32 % 65536).toInt32)) (gwV WS_1253 WS_1254 WS_1255 WS_1224 WS_1256) rfl ⟨rfl, fy_J0_indexOf_0f7a4⟩ ⟨by show 3 + 1 ≤ d + 1 + 4; omega, by show 8 + (2 + 11) + 70 ≤ 24 * (d + 1) + 100; omega⟩ rfl rfl (Nat.le_of_ble_eq_true rfl) ⟨Nat.zero_le _, Nat.zero_le _⟩ dX3_readThing_19 (fun v49 Z50 I51 L52 q53 => ?_)
    obtain ⟨rfl, rfl, rfl, r48, rfl, er48⟩ := q53
    have h := h r48 er48
    show jJ G 5 22 [(3, .int r46), (0, .ref v0), (1, .ref v1), (2, .int v2)] [.int r48] Z I42 L43 0 0
    refine j_sub [1, 2, 3, 0] rfl ?_
    exact ms_X3_readThing_b22 E hU hF hZ  v0 v1 v2 r46 r48 I42 L43 kv0 kv1 h
  · have h := h.2 c47
    refine j_iconst E (v := -1) dX3_readThing_11 (by decide) ?_
    refine j_goto E 22 dX3_readThing_12 (by decide) ?_
    refine j_sub [1, 2, 3, 0] rfl ?_
    exact ms_X3_readThing_b22 E hU hF hZ  v0 v1 v2 r46 (-1 : Int32) I42 L43 kv0 kv1 h
set_option maxRecDepth 100000 in
def fs_X3_readSigned_b50 (F : FTR3)  (Z : jZ) (Q : jI → jL → Prop) (v0 : Nat) (v1 : Nat) (v2 : Int32) (v3 : Int32) (I : jI) (L : jL) : Prop := (F 4 v0 v1 v2 Z I L (fun I3 L4 => ((v3 = 0 → Q I3 L4) ∧ (¬ (v3 = 0) → (f_X3_emit v0 (2000 : Int32) Z I3 L4 (fun I10 L11 => Q I10 L11))))))
set_option maxHeartbeats 4000000 in
set_option maxRecDepth 100000 in
theorem ms_X3_readSigned_b50 {G : jG} {sa sb : Nat} {d : Nat} {F : FTR3} {Z : jZ} {Q : jI → jL → Prop} (E : jE G cX3_readSigned RX3 w_X3_readSigned 5 none (rR3 (d + 1)) (rtV Z Q)) (hU : jU sa sb (gA G) (gS G) (gS G).heap) (hF : HFR3 sa sb (gL G) (gD G) (gY G) d F) (hZ : SH Z)  (v0 : Nat) (v1 : Nat) (v2 : Int32) (v3 : Int32) (I : jI) (L : jL) (kv0 : jk Z v0 3) (kv1 : jk Z v1 10) (h : fs_X3_readSigned_b50 F  Z Q v0 v1 v2 v3 I L) : jJ G 5 50 [(0, .ref v0), (1, .ref v1), (2, .int v2), (3, .int v3)] [] Z I L 0 0 := by
  refine j_aload_n E dX3_readSigned_50 0 rfl ?_
  refine j_aload_n E dX3_readSigned_51 1 rfl ?_
  refine j_iload_n E dX3_readSigned_52 2 rfl ?_
  refine j_callVS E hU [.ref v1, .int v2] [] (hF.2.2.2.2 v0 v1 v2 Z I L _ hZ kv0 kv1 h) (gwV WS_1258 WS_1259 WS_1260 W_179 WS_1257) rfl ⟨rfl, fy_X3_readThing⟩ ⟨by show d + 4 + 1 ≤ d + 1 + 4; omega, by show 8 + (5 + 11) + (24 * d + 100) ≤ 24 * (d + 1) + 100; omega⟩ (c := 3) rfl (by decide) kv0 rfl rfl (Nat.le_of_ble_eq_true rfl) ⟨Nat.zero_le _, Nat.zero_le _⟩ dX3_readSigned_53 (fun v1 Z2 I3 L4 q5 => ?_)
  obtain ⟨rfl, rfl, h⟩ := q5
  show jJ G 5 56 [(0, .ref v0), (1, .ref v1), (2, .int v2), (3, .int v3)] [] Z I3 L4 0 0
  refine j_iload_n E dX3_readSigned_56 3 rfl ?_
  refine j_if_eq E 67 dX3_readSigned_57 (by decide) (fun c7 => ?_) (fun c7 => ?_)
  · have h := h.1 c7
    exact j_return E ⟨rfl, rfl, h⟩ (Nat.zero_le _) (Nat.zero_le _) dX3_readSigned_67
  · have h := h.2 c7
    refine j_aload_n E dX3_readSigned_60 0 rfl ?_
    refine j_sipush E (v := 2000) dX3_readSigned_61 (by decide) ?_
    refine j_callV E [.int (2000 : Int32)] [] (c_X3_emit (gL G) (gD G) (gY G) v0 (2000 : Int32) Z I3 L4 _ hZ kv0 h) (gwV W_201 W_202 W_203 W_179 W_200) rfl ⟨rfl, fy_X3_emit⟩ ⟨by show 0 + 1 ≤ d + 1 + 4; omega, by show 8 + (2 + 11) + 0 ≤ 24 * (d + 1) + 100; omega⟩ (c := 3) rfl (by decide) kv0 rfl rfl (Nat.le_of_ble_eq_true rfl) ⟨Nat.zero_le _, Nat.zero_le _⟩ dX3_readSigned_64 (fun v8 Z9 I10 L11 q12 => ?_)
    obtain ⟨rfl, rfl, h⟩ := q12
    show jJ G 5 67 [(0, .ref v0), (1, .ref v1), (2, .int v2), (3, .int v3)] [] Z I10 L11 0 0
    exact j_return E ⟨rfl, rfl, h⟩ (Nat.zero_le _) (Nat.zero_le _) dX3_readSigned_67
set_option maxRecDepth 100000 in
def fs_X3_readSigned_b33 (F : FTR3) (K5 : Nat → Nat → Int32 → Int32 → Int32 → jI → jL → Prop) (Z : jZ) (Q : jI → jL → Prop) (v0 : Nat) (v1 : Nat) (v2 : Int32) (v4 : Int32) (s0 : Int32) (I : jI) (L : jL) : Prop := (∀ I14 : jI, I14 = jpI I v0 6 ((I v0 6) + (1 : Int32)) → (∀ x15 : Int32, x15 = v4 + 1 → K5 v0 v1 v2 s0 x15 I14 L))
set_option maxHeartbeats 4000000 in
set_option maxRecDepth 100000 in
theorem ms_X3_readSigned_b33 {G : jG} {sa sb : Nat} {d : Nat} {F : FTR3} {Z : jZ} {Q : jI → jL → Prop} (E : jE G cX3_readSigned RX3 w_X3_readSigned 5 none (rR3 (d + 1)) (rtV Z Q)) (hU : jU sa sb (gA G) (gS G) (gS G).heap) (hF : HFR3 sa sb (gL G) (gD G) (gY G) d F) (hZ : SH Z) (K5 : Nat → Nat → Int32 → Int32 → Int32 → jI → jL → Prop) (hK5 : ∀ (v0 : Nat) (v1 : Nat) (v2 : Int32) (v3 : Int32) (v4 : Int32) (I : jI) (L : jL), jk Z v0 3 → jk Z v1 10 → K5 v0 v1 v2 v3 v4 I L → jJ G 5 5 [(0, .ref v0), (1, .ref v1), (2, .int v2), (3, .int v3), (4, .int v4)] [] Z I L 0 0) (v0 : Nat) (v1 : Nat) (v2 : Int32) (v4 : Int32) (s0 : Int32) (I : jI) (L : jL) (kv0 : jk Z v0 3) (kv1 : jk Z v1 10) (h : fs_X3_readSigned_b33 F K5 Z Q v0 v1 v2 v4 s0 I L) : jJ G 5 33 [(0, .ref v0), (1, .ref v1), (2, .int v2), (4, .int v4)] [.int s0] Z I L 0 0 := by
  refine j_istore_n E 3 [(3, .int s0), (0, .ref v0), (1, .ref v1), (2, .int v2), (4, .int v4)] dX3_readSigned_33 rfl (by decide) rfl ?_
  refine j_aload_n E dX3_readSigned_34 1 rfl ?_
  refine j_dup E dX3_readSigned_35 rfl ?_
  refine j_geti E 3 6 rfl rfl (by decide) (by decide) (iw iT_3) rfl rfl (tw W_186) kv0 dX3_readSigned_36 ?_
  refine j_iconst E (v := 1) dX3_readSigned_39 (by decide) ?_
  refine j_iadd E dX3_readSigned_40 ?_
  refine j_puti E 3 6 rfl rfl (by decide) (by decide) (iw iT_3) tyX3_ok nmX3 rfl rfl (tw W_186) rfl rfl rfl kv0 dX3_readSigned_41 ?_
  refine j_nmI (fun I14 eI14 => ?_)
  have h := h I14 eI14
  obtain ⟨x15, ex15⟩ : ∃ y : Int32, y = v4 + 1 := ⟨_, rfl⟩
  have h := h x15 ex15
  refine j_iinc E x15 [(4, .int x15), (3, .int s0), (0, .ref v0), (1, .ref v1), (2, .int v2)] dX3_readSigned_44 4 rfl (by rw [ex15]; rfl) (by decide) rfl ?_
  refine j_goto E 5 dX3_readSigned_47 (by decide) ?_
  refine j_sub [2, 3, 4, 1, 0] rfl ?_
  exact hK5 v0 v1 v2 s0 x15 I14 L kv0 kv1 h
set_option maxRecDepth 100000 in
def fs_X3_readSigned_L5 (F : FTR3)  (Z : jZ) (Q : jI → jL → Prop) : Nat → Nat → Nat → Int32 → Int32 → Int32 → jI → jL → Prop
  | 0 => fun _ _ _ _ _ _ _ => False
  | n + 1 => fun v0 v1 v2 v3 v4 I L => (((40 : Int32) ≤ v4 → fs_X3_readSigned_b50 F  Z Q v0 v1 v2 v3 I L) ∧ (¬ ((40 : Int32) ≤ v4) → (f_X3_isAhead v0 v1 (45 : Int32) (45 : Int32) Z I L (fun r23 I19 L20 => ((r23 = 0 → fs_X3_readSigned_b50 F  Z Q v0 v1 v2 v3 I19 L20) ∧ (¬ (r23 = 0) → ((¬ v3 = 0 → fs_X3_readSigned_b33 F (fs_X3_readSigned_L5 F Z Q n) Z Q v0 v1 v2 v4 (0 : Int32) I19 L20) ∧ (v3 = 0 → fs_X3_readSigned_b33 F (fs_X3_readSigned_L5 F Z Q n) Z Q v0 v1 v2 v4 (1 : Int32) I19 L20))))))))
set_option maxHeartbeats 4000000 in
set_option maxRecDepth 100000 in
theorem ms_X3_readSigned_L5 {G : jG} {sa sb : Nat} {d : Nat} {F : FTR3} {Z : jZ} {Q : jI → jL → Prop} (E : jE G cX3_readSigned RX3 w_X3_readSigned 5 none (rR3 (d + 1)) (rtV Z Q)) (hU : jU sa sb (gA G) (gS G) (gS G).heap) (hF : HFR3 sa sb (gL G) (gD G) (gY G) d F) (hZ : SH Z)  : ∀ (n : Nat) (v0 : Nat) (v1 : Nat) (v2 : Int32) (v3 : Int32) (v4 : Int32) (I : jI) (L : jL), jk Z v0 3 → jk Z v1 10 → fs_X3_readSigned_L5 F  Z Q n v0 v1 v2 v3 v4 I L → jJ G 5 5 [(0, .ref v0), (1, .ref v1), (2, .int v2), (3, .int v3), (4, .int v4)] [] Z I L 0 0 := by
  intro n
  induction n with
  | zero => intro v0 v1 v2 v3 v4 I L _ _ h; exact h.elim
  | succ n ih =>
    intro v0 v1 v2 v3 v4 I L kv0 kv1 h
    have h : (((40 : Int32) ≤ v4 → fs_X3_readSigned_b50 F  Z Q v0 v1 v2 v3 I L) ∧ (¬ ((40 : Int32) ≤ v4) → (f_X3_isAhead v0 v1 (45 : Int32) (45 : Int32) Z I L (fun r23 I19 L20 => ((r23 = 0 → fs_X3_readSigned_b50 F  Z Q v0 v1 v2 v3 I19 L20) ∧ (¬ (r23 = 0) → ((¬ v3 = 0 → fs_X3_readSigned_b33 F (fs_X3_readSigned_L5 F Z Q n) Z Q v0 v1 v2 v4 (0 : Int32) I19 L20) ∧ (v3 = 0 → fs_X3_readSigned_b33 F (fs_X3_readSigned_L5 F Z Q n) Z Q v0 v1 v2 v4 (1 : Int32) I19 L20)))))))) := h
    obtain ⟨K5, eK5⟩ : ∃ K : Nat → Nat → Int32 → Int32 → Int32 → jI → jL → Prop, K = fs_X3_readSigned_L5 F  Z Q n := ⟨_, rfl⟩
    have hK5 := ih
    clear eK5 K5
    generalize fs_X3_readSigned_L5 F  Z Q n = K5 at hK5 h
    refine j_iload E dX3_readSigned_5 4 rfl ?_
    refine j_bipush E (v := 40) dX3_readSigned_7 (by decide) ?_
    refine j_icmp_ge E 50 dX3_readSigned_9 (by decide) (fun c16 => ?_) (fun c16 => ?_)
    · have h := h.1 c16
      refine j_sub [0, 1, 2, 3] rfl ?_
      exact ms_X3_readSigned_b50 E hU hF hZ  v0 v1 v2 v3 I L kv0 kv1 h
    · have h := h.2 c16
      refine j_aload_n E dX3_readSigned_12 0 rfl ?_
      refine j_aload_n E dX3_readSigned_13 1 rfl ?_
      refine j_bipush E (v := 45) dX3_readSigned_14 (by decide) ?_
      refine j_bipush E (v := 45) dX3_readSigned_16 (by decide) ?_
      refine j_callV E [.ref v1, .int (45 : Int32), .int (45 : Int32)] [] (c_X3_isAhead (gL G) (gD G) (gY G) v0 v1 (45 : Int32) (45 : Int32) Z I L _ hZ kv0 kv1 h) (gwV W_208 W_209 W_210 W_179 W_207) rfl ⟨rfl, fy_X3_isAhead⟩ ⟨by show 2 + 1 ≤ d + 1 + 4; omega, by show 8 + (5 + 11) + 42 ≤ 24 * (d + 1) + 100; omega⟩ (c := 3) rfl (by decide) kv0 rfl rfl (Nat.le_of_ble_eq_true rfl) ⟨Nat.zero_le _, Nat.zero_le _⟩ dX3_readSigned_18 (fun v17 Z18 I19 L20 q21 => ?_)
      obtain ⟨rfl, r23, rfl, zr23, h⟩ := q21
      show jJ G 5 21 [(0, .ref v0), (1, .ref v1), (2, .int v2), (3, .int v3), (4, .int v4)] [.int r23] Z I19 L20 0 0
      refine j_if_eq E 50 dX3_readSigned_21 (by decide) (fun c24 => ?_) (fun c24 => ?_)
      · have h := h.1 c24
        refine j_sub [0, 1, 2, 3] rfl ?_
        exact ms_X3_readSigned_b50 E hU hF hZ  v0 v1 v2 v3 I19 L20 kv0 kv1 h
      · have h := h.2 c24
        refine j_iload_n E dX3_readSigned_24 3 rfl ?_
        refine j_if_ne E 32 dX3_readSigned_25 (by decide) (fun c25 => ?_) (fun c25 => ?_)
        · have h := h.1 c25
          refine j_iconst E (v := 0) dX3_readSigned_32 (by decide) ?_
          refine j_sub [0, 1, 2, 4] rfl ?_
          exact ms_X3_readSigned_b33 E hU hF hZ K5 hK5 v0 v1 v2 v4 (0 : Int32) I19 L20 kv0 kv1 h
        · have h := h.2 c25
          refine j_iconst E (v := 1) dX3_readSigned_28 (by decide) ?_
          refine j_goto E 33 dX3_readSigned_29 (by decide) ?_
          refine j_sub [0, 1, 2, 4] rfl ?_
          exact ms_X3_readSigned_b33 E hU hF hZ K5 hK5 v0 v1 v2 v4 (1 : Int32) I19 L20 kv0 kv1 h
set_option maxRecDepth 100000 in
def fs_X3_readSigned (F : FTR3) (v0 : Nat) (v1 : Nat) (v2 : Int32) (Z : jZ) (I : jI) (L : jL) (Q : jI → jL → Prop) : Prop := (∃ m5 : Nat, fs_X3_readSigned_L5 F  Z Q m5 v0 v1 v2 (0 : Int32) (0 : Int32) I L)
set_option maxHeartbeats 4000000 in
set_option maxRecDepth 100000 in
theorem cs_X3_readSigned (l : Launch) (D : va_G) (cy : jC) {sa sb : Nat} {d : Nat} {F : FTR3} (hF : HFR3 sa sb l D cy d F) (v0 : Nat) (v1 : Nat) (v2 : Int32) (Z : jZ) (I : jI) (L : jL) (Q : jI → jL → Prop) (hZ : SH Z) (kv0 : jk Z v0 3) (kv1 : jk Z v1 10) (h : fs_X3_readSigned F v0 v1 v2 Z I L Q) : jCtS sa sb l yX3_readSigned w_X3_readSigned (rR3 (d + 1)) D cy [.ref v0, .ref v1, .int v2] Z I L (rtV Z Q) := by
  refine jCtS_of (cc := cX3_readSigned) (maxL := 5) (ret := none) (by decide +kernel) rfl (Nat.le_of_ble_eq_true rfl) ?_
  intro G eD eY eL E hU
  subst eD; subst eY; subst eL
  have E : jE G cX3_readSigned RX3 w_X3_readSigned 5 none (rR3 (d + 1)) (rtV Z Q) := E
  show jJ G 5 0 [(0, .ref v0), (1, .ref v1), (2, .int v2)] [] Z I L 0 0
  refine j_iconst E (v := 0) dX3_readSigned_0 (by decide) ?_
  refine j_istore_n E 3 [(3, .int (0 : Int32)), (0, .ref v0), (1, .ref v1), (2, .int v2)] dX3_readSigned_1 rfl (by decide) rfl ?_
  refine j_iconst E (v := 0) dX3_readSigned_2 (by decide) ?_
  refine j_istore E 4 [(4, .int (0 : Int32)), (3, .int (0 : Int32)), (0, .ref v0), (1, .ref v1), (2, .int v2)] dX3_readSigned_3 (by decide) rfl ?_
  obtain ⟨n26, h⟩ := h
  refine j_sub [2, 3, 4, 1, 0] rfl ?_
  exact ms_X3_readSigned_L5 E hU hF hZ  n26 v0 v1 v2 (0 : Int32) (0 : Int32) I L kv0 kv1 h
set_option maxRecDepth 100000 in
def fs_X3_readProduct_L8 (F : FTR3)  (Z : jZ) (Q : jI → jL → Prop) : Nat → Nat → Nat → Int32 → Int32 → jI → jL → Prop
  | 0 => fun _ _ _ _ _ _ => False
  | n + 1 => fun v0 v1 v2 v3 I L => (((40 : Int32) ≤ v3 → Q I L) ∧ (¬ ((40 : Int32) ≤ v3) → (f_X3_isAhead v0 v1 (42 : Int32) (47 : Int32) Z I L (fun r8 I4 L5 => ((r8 = 0 → Q I4 L5) ∧ (¬ (r8 = 0) → (f_X3_look v0 v1 Z I4 L5 (fun r16 I12 L13 => (∀ I17 : jI, I17 = jpI I12 v0 6 ((I12 v0 6) + (1 : Int32)) → (F 3 v0 v1 v2 Z I17 L13 (fun I20 L21 => (f_X3_emit v0 ((2000 : Int32) + r16) Z I20 L21 (fun I26 L27 => (∀ x30 : Int32, x30 = v3 + 1 → (fs_X3_readProduct_L8 F Z Q n) v0 v1 v2 x30 I26 L27))))))))))))))
set_option maxHeartbeats 4000000 in
set_option maxRecDepth 100000 in
theorem ms_X3_readProduct_L8 {G : jG} {sa sb : Nat} {d : Nat} {F : FTR3} {Z : jZ} {Q : jI → jL → Prop} (E : jE G cX3_readProduct RX3 w_X3_readProduct 5 none (rR3 (d + 1)) (rtV Z Q)) (hU : jU sa sb (gA G) (gS G) (gS G).heap) (hF : HFR3 sa sb (gL G) (gD G) (gY G) d F) (hZ : SH Z)  : ∀ (n : Nat) (v0 : Nat) (v1 : Nat) (v2 : Int32) (v3 : Int32) (I : jI) (L : jL), jk Z v0 3 → jk Z v1 10 → fs_X3_readProduct_L8 F  Z Q n v0 v1 v2 v3 I L → jJ G 5 8 [(0, .ref v0), (1, .ref v1), (2, .int v2), (3, .int v3)] [] Z I L 0 0 := by
  intro n
  induction n with
  | zero => intro v0 v1 v2 v3 I L _ _ h; exact h.elim
  | succ n ih =>
    intro v0 v1 v2 v3 I L kv0 kv1 h
    have h : (((40 : Int32) ≤ v3 → Q I L) ∧ (¬ ((40 : Int32) ≤ v3) → (f_X3_isAhead v0 v1 (42 : Int32) (47 : Int32) Z I L (fun r8 I4 L5 => ((r8 = 0 → Q I4 L5) ∧ (¬ (r8 = 0) → (f_X3_look v0 v1 Z I4 L5 (fun r16 I12 L13 => (∀ I17 : jI, I17 = jpI I12 v0 6 ((I12 v0 6) + (1 : Int32)) → (F 3 v0 v1 v2 Z I17 L13 (fun I20 L21 => (f_X3_emit v0 ((2000 : Int32) + r16) Z I20 L21 (fun I26 L27 => (∀ x30 : Int32, x30 = v3 + 1 → (fs_X3_readProduct_L8 F Z Q n) v0 v1 v2 x30 I26 L27)))))))))))))) := h
    obtain ⟨K8, eK8⟩ : ∃ K : Nat → Nat → Int32 → Int32 → jI → jL → Prop, K = fs_X3_readProduct_L8 F  Z Q n := ⟨_, rfl⟩
    have hK8 := ih
    clear eK8 K8
    generalize fs_X3_readProduct_L8 F  Z Q n = K8 at hK8 h
    refine j_iload_n E dX3_readProduct_8 3 rfl ?_
    refine j_bipush E (v := 40) dX3_readProduct_9 (by decide) ?_
    refine j_icmp_ge E 65 dX3_readProduct_11 (by decide) (fun c1 => ?_) (fun c1 => ?_)
    · have h := h.1 c1
      exact j_return E ⟨rfl, rfl, h⟩ (Nat.zero_le _) (Nat.zero_le _) dX3_readProduct_65
    · have h := h.2 c1
      refine j_aload_n E dX3_readProduct_14 0 rfl ?_
      refine j_aload_n E dX3_readProduct_15 1 rfl ?_
      refine j_bipush E (v := 42) dX3_readProduct_16 (by decide) ?_
      refine j_bipush E (v := 47) dX3_readProduct_18 (by decide) ?_
      refine j_callV E [.ref v1, .int (42 : Int32), .int (47 : Int32)] [] (c_X3_isAhead (gL G) (gD G) (gY G) v0 v1 (42 : Int32) (47 : Int32) Z I L _ hZ kv0 kv1 h) (gwV W_208 W_209 W_210 W_179 W_207) rfl ⟨rfl, fy_X3_isAhead⟩ ⟨by show 2 + 1 ≤ d + 1 + 4; omega, by show 8 + (5 + 11) + 42 ≤ 24 * (d + 1) + 100; omega⟩ (c := 3) rfl (by decide) kv0 rfl rfl (Nat.le_of_ble_eq_true rfl) ⟨Nat.zero_le _, Nat.zero_le _⟩ dX3_readProduct_20 (fun v2 Z3 I4 L5 q6 => ?_)
      obtain ⟨rfl, r8, rfl, zr8, h⟩ := q6
      show jJ G 5 23 [(0, .ref v0), (1, .ref v1), (2, .int v2), (3, .int v3)] [.int r8] Z I4 L5 0 0
      refine j_if_eq E 65 dX3_readProduct_23 (by decide) (fun c9 => ?_) (fun c9 => ?_)
      · have h := h.1 c9
        exact j_return E ⟨rfl, rfl, h⟩ (Nat.zero_le _) (Nat.zero_le _) dX3_readProduct_65
      · have h := h.2 c9
        refine j_aload_n E dX3_readProduct_26 0 rfl ?_
        refine j_aload_n E dX3_readProduct_27 1 rfl ?_
        refine j_callV E [.ref v1] [] (c_X3_look (gL G) (gD G) (gY G) v0 v1 Z I4 L5 _ hZ kv0 kv1 h) (gwV W_194 W_195 W_196 W_179 W_193) rfl ⟨rfl, fy_X3_look⟩ ⟨by show 1 + 1 ≤ d + 1 + 4; omega, by show 8 + (2 + 11) + 21 ≤ 24 * (d + 1) + 100; omega⟩ (c := 3) rfl (by decide) kv0 rfl rfl (Nat.le_of_ble_eq_true rfl) ⟨Nat.zero_le _, Nat.zero_le _⟩ dX3_readProduct_28 (fun v10 Z11 I12 L13 q14 => ?_)
        obtain ⟨rfl, r16, rfl, h⟩ := q14
        show jJ G 5 31 [(0, .ref v0), (1, .ref v1), (2, .int v2), (3, .int v3)] [.int r16] Z I12 L13 0 0
        refine j_istore E 4 [(4, .int r16), (0, .ref v0), (1, .ref v1), (2, .int v2), (3, .int v3)] dX3_readProduct_31 (by decide) rfl ?_
        refine j_aload_n E dX3_readProduct_33 1 rfl ?_
        refine j_dup E dX3_readProduct_34 rfl ?_
        refine j_geti E 3 6 rfl rfl (by decide) (by decide) (iw iT_3) rfl rfl (tw W_186) kv0 dX3_readProduct_35 ?_
        refine j_iconst E (v := 1) dX3_readProduct_38 (by decide) ?_
        refine j_iadd E dX3_readProduct_39 ?_
        refine j_puti E 3 6 rfl rfl (by decide) (by decide) (iw iT_3) tyX3_ok nmX3 rfl rfl (tw W_186) rfl rfl rfl kv0 dX3_readProduct_40 ?_
        refine j_nmI (fun I17 eI17 => ?_)
        have h := h I17 eI17
        refine j_aload_n E dX3_readProduct_43 1 rfl ?_
        refine j_aload_n E dX3_readProduct_44 2 rfl ?_
        refine j_iload_n E dX3_readProduct_45 3 rfl ?_
        refine j_callVS E hU [.ref v1, .int v2] [] (hF.2.2.2.1 v0 v1 v2 Z I17 L13 _ hZ kv0 kv1 h) (gwV WS_1262 WS_1263 WS_1264 W_179 WS_1261) rfl ⟨rfl, fy_X3_readSigned⟩ ⟨by show d + 4 + 1 ≤ d + 1 + 4; omega, by show 8 + (5 + 11) + (24 * d + 100) ≤ 24 * (d + 1) + 100; omega⟩ (c := 3) rfl (by decide) kv0 rfl rfl (Nat.le_of_ble_eq_true rfl) ⟨Nat.zero_le _, Nat.zero_le _⟩ dX3_readProduct_46 (fun v18 Z19 I20 L21 q22 => ?_)
        obtain ⟨rfl, rfl, h⟩ := q22
        show jJ G 5 49 [(4, .int r16), (0, .ref v0), (1, .ref v1), (2, .int v2), (3, .int v3)] [] Z I20 L21 0 0
        refine j_aload_n E dX3_readProduct_49 1 rfl ?_
        refine j_sipush E (v := 2000) dX3_readProduct_50 (by decide) ?_
        refine j_iload E dX3_readProduct_53 0 rfl ?_
        refine j_iadd E dX3_readProduct_55 ?_
        refine j_callV E [.int ((2000 : Int32) + r16)] [] (c_X3_emit (gL G) (gD G) (gY G) v0 ((2000 : Int32) + r16) Z I20 L21 _ hZ kv0 h) (gwV W_201 W_202 W_203 W_179 W_200) rfl ⟨rfl, fy_X3_emit⟩ ⟨by show 0 + 1 ≤ d + 1 + 4; omega, by show 8 + (2 + 11) + 0 ≤ 24 * (d + 1) + 100; omega⟩ (c := 3) rfl (by decide) kv0 rfl rfl (Nat.le_of_ble_eq_true rfl) ⟨Nat.zero_le _, Nat.zero_le _⟩ dX3_readProduct_56 (fun v24 Z25 I26 L27 q28 => ?_)
        obtain ⟨rfl, rfl, h⟩ := q28
        show jJ G 5 59 [(4, .int r16), (0, .ref v0), (1, .ref v1), (2, .int v2), (3, .int v3)] [] Z I26 L27 0 0
        obtain ⟨x30, ex30⟩ : ∃ y : Int32, y = v3 + 1 := ⟨_, rfl⟩
        have h := h x30 ex30
        refine j_iinc E x30 [(3, .int x30), (4, .int r16), (0, .ref v0), (1, .ref v1), (2, .int v2)] dX3_readProduct_59 4 rfl (by rw [ex30]; rfl) (by decide) rfl ?_
        refine j_goto E 8 dX3_readProduct_62 (by decide) ?_
        refine j_sub [2, 3, 4, 0] rfl ?_
        exact hK8 v0 v1 v2 x30 I26 L27 kv0 kv1 h
set_option maxRecDepth 100000 in
def fs_X3_readProduct (F : FTR3) (v0 : Nat) (v1 : Nat) (v2 : Int32) (Z : jZ) (I : jI) (L : jL) (Q : jI → jL → Prop) : Prop := (F 3 v0 v1 v2 Z I L (fun I33 L34 => (∃ m8 : Nat, fs_X3_readProduct_L8 F  Z Q m8 v0 v1 v2 (0 : Int32) I33 L34)))
set_option maxHeartbeats 4000000 in
set_option maxRecDepth 100000 in
theorem cs_X3_readProduct (l : Launch) (D : va_G) (cy : jC) {sa sb : Nat} {d : Nat} {F : FTR3} (hF : HFR3 sa sb l D cy d F) (v0 : Nat) (v1 : Nat) (v2 : Int32) (Z : jZ) (I : jI) (L : jL) (Q : jI → jL → Prop) (hZ : SH Z) (kv0 : jk Z v0 3) (kv1 : jk Z v1 10) (h : fs_X3_readProduct F v0 v1 v2 Z I L Q) : jCtS sa sb l yX3_readProduct w_X3_readProduct (rR3 (d + 1)) D cy [.ref v0, .ref v1, .int v2] Z I L (rtV Z Q) := by
  refine jCtS_of (cc := cX3_readProduct) (maxL := 5) (ret := none) (by decide +kernel) rfl (Nat.le_of_ble_eq_true rfl) ?_
  intro G eD eY eL E hU
  subst eD; subst eY; subst eL
  have E : jE G cX3_readProduct RX3 w_X3_readProduct 5 none (rR3 (d + 1)) (rtV Z Q) := E
  show jJ G 5 0 [(0, .ref v0), (1, .ref v1), (2, .int v2)] [] Z I L 0 0
  refine j_aload_n E dX3_readProduct_0 0 rfl ?_
  refine j_aload_n E dX3_readProduct_1 1 rfl ?_
  refine j_iload_n E dX3_readProduct_2 2 rfl ?_
  refine j_callVS E hU [.ref v1, .int v2] [] (hF.2.2.2.1 v0 v1 v2 Z I L _ hZ kv0 kv1 h) (gwV WS_1262 WS_1263 WS_1264 W_179 WS_1261) rfl ⟨rfl, fy_X3_readSigned⟩ ⟨by show d + 4 + 1 ≤ d + 1 + 4; omega, by show 8 + (5 + 11) + (24 * d + 100) ≤ 24 * (d + 1) + 100; omega⟩ (c := 3) rfl (by decide) kv0 rfl rfl (Nat.le_of_ble_eq_true rfl) ⟨Nat.zero_le _, Nat.zero_le _⟩ dX3_readProduct_3 (fun v31 Z32 I33 L34 q35 => ?_)
  obtain ⟨rfl, rfl, h⟩ := q35
  show jJ G 5 6 [(0, .ref v0), (1, .ref v1), (2, .int v2)] [] Z I33 L34 0 0
  refine j_iconst E (v := 0) dX3_readProduct_6 (by decide) ?_
  refine j_istore_n E 3 [(3, .int (0 : Int32)), (0, .ref v0), (1, .ref v1), (2, .int v2)] dX3_readProduct_7 rfl (by decide) rfl ?_
  obtain ⟨n37, h⟩ := h
  refine j_sub [1, 2, 3, 0] rfl ?_
  exact ms_X3_readProduct_L8 E hU hF hZ  n37 v0 v1 v2 (0 : Int32) I33 L34 kv0 kv1 h
set_option maxRecDepth 100000 in
def fs_X3_readSum_L8 (F : FTR3)  (Z : jZ) (Q : jI → jL → Prop) : Nat → Nat → Nat → Int32 → Int32 → jI → jL → Prop
  | 0 => fun _ _ _ _ _ _ => False
  | n + 1 => fun v0 v1 v2 v3 I L => (((40 : Int32) ≤ v3 → Q I L) ∧ (¬ ((40 : Int32) ≤ v3) → (f_X3_isAhead v0 v1 (43 : Int32) (45 : Int32) Z I L (fun r8 I4 L5 => ((r8 = 0 → Q I4 L5) ∧ (¬ (r8 = 0) → (f_X3_look v0 v1 Z I4 L5 (fun r16 I12 L13 => (∀ I17 : jI, I17 = jpI I12 v0 6 ((I12 v0 6) + (1 : Int32)) → (F 2 v0 v1 v2 Z I17 L13 (fun I20 L21 => (f_X3_emit v0 ((2000 : Int32) + r16) Z I20 L21 (fun I26 L27 => (∀ x30 : Int32, x30 = v3 + 1 → (fs_X3_readSum_L8 F Z Q n) v0 v1 v2 x30 I26 L27))))))))))))))
set_option maxHeartbeats 4000000 in
set_option maxRecDepth 100000 in
theorem ms_X3_readSum_L8 {G : jG} {sa sb : Nat} {d : Nat} {F : FTR3} {Z : jZ} {Q : jI → jL → Prop} (E : jE G cX3_readSum RX3 w_X3_readSum 5 none (rR3 (d + 1)) (rtV Z Q)) (hU : jU sa sb (gA G) (gS G) (gS G).heap) (hF : HFR3 sa sb (gL G) (gD G) (gY G) d F) (hZ : SH Z)  : ∀ (n : Nat) (v0 : Nat) (v1 : Nat) (v2 : Int32) (v3 : Int32) (I : jI) (L : jL), jk Z v0 3 → jk Z v1 10 → fs_X3_readSum_L8 F  Z Q n v0 v1 v2 v3 I L → jJ G 5 8 [(0, .ref v0), (1, .ref v1), (2, .int v2), (3, .int v3)] [] Z I L 0 0 := by
  intro n
  induction n with
  | zero => intro v0 v1 v2 v3 I L _ _ h; exact h.elim
  | succ n ih =>
    intro v0 v1 v2 v3 I L kv0 kv1 h
    have h : (((40 : Int32) ≤ v3 → Q I L) ∧ (¬ ((40 : Int32) ≤ v3) → (f_X3_isAhead v0 v1 (43 : Int32) (45 : Int32) Z I L (fun r8 I4 L5 => ((r8 = 0 → Q I4 L5) ∧ (¬ (r8 = 0) → (f_X3_look v0 v1 Z I4 L5 (fun r16 I12 L13 => (∀ I17 : jI, I17 = jpI I12 v0 6 ((I12 v0 6) + (1 : Int32)) → (F 2 v0 v1 v2 Z I17 L13 (fun I20 L21 => (f_X3_emit v0 ((2000 : Int32) + r16) Z I20 L21 (fun I26 L27 => (∀ x30 : Int32, x30 = v3 + 1 → (fs_X3_readSum_L8 F Z Q n) v0 v1 v2 x30 I26 L27)))))))))))))) := h
    obtain ⟨K8, eK8⟩ : ∃ K : Nat → Nat → Int32 → Int32 → jI → jL → Prop, K = fs_X3_readSum_L8 F  Z Q n := ⟨_, rfl⟩
    have hK8 := ih
    clear eK8 K8
    generalize fs_X3_readSum_L8 F  Z Q n = K8 at hK8 h
    refine j_iload_n E dX3_readSum_8 3 rfl ?_
    refine j_bipush E (v := 40) dX3_readSum_9 (by decide) ?_
    refine j_icmp_ge E 65 dX3_readSum_11 (by decide) (fun c1 => ?_) (fun c1 => ?_)
    · have h := h.1 c1
      exact j_return E ⟨rfl, rfl, h⟩ (Nat.zero_le _) (Nat.zero_le _) dX3_readSum_65
    · have h := h.2 c1
      refine j_aload_n E dX3_readSum_14 0 rfl ?_
      refine j_aload_n E dX3_readSum_15 1 rfl ?_
      refine j_bipush E (v := 43) dX3_readSum_16 (by decide) ?_
      refine j_bipush E (v := 45) dX3_readSum_18 (by decide) ?_
      refine j_callV E [.ref v1, .int (43 : Int32), .int (45 : Int32)] [] (c_X3_isAhead (gL G) (gD G) (gY G) v0 v1 (43 : Int32) (45 : Int32) Z I L _ hZ kv0 kv1 h) (gwV W_208 W_209 W_210 W_179 W_207) rfl ⟨rfl, fy_X3_isAhead⟩ ⟨by show 2 + 1 ≤ d + 1 + 4; omega, by show 8 + (5 + 11) + 42 ≤ 24 * (d + 1) + 100; omega⟩ (c := 3) rfl (by decide) kv0 rfl rfl (Nat.le_of_ble_eq_true rfl) ⟨Nat.zero_le _, Nat.zero_le _⟩ dX3_readSum_20 (fun v2 Z3 I4 L5 q6 => ?_)
      obtain ⟨rfl, r8, rfl, zr8, h⟩ := q6
      show jJ G 5 23 [(0, .ref v0), (1, .ref v1), (2, .int v2), (3, .int v3)] [.int r8] Z I4 L5 0 0
      refine j_if_eq E 65 dX3_readSum_23 (by decide) (fun c9 => ?_) (fun c9 => ?_)
      · have h := h.1 c9
        exact j_return E ⟨rfl, rfl, h⟩ (Nat.zero_le _) (Nat.zero_le _) dX3_readSum_65
      · have h := h.2 c9
        refine j_aload_n E dX3_readSum_26 0 rfl ?_
        refine j_aload_n E dX3_readSum_27 1 rfl ?_
        refine j_callV E [.ref v1] [] (c_X3_look (gL G) (gD G) (gY G) v0 v1 Z I4 L5 _ hZ kv0 kv1 h) (gwV W_194 W_195 W_196 W_179 W_193) rfl ⟨rfl, fy_X3_look⟩ ⟨by show 1 + 1 ≤ d + 1 + 4; omega, by show 8 + (2 + 11) + 21 ≤ 24 * (d + 1) + 100; omega⟩ (c := 3) rfl (by decide) kv0 rfl rfl (Nat.le_of_ble_eq_true rfl) ⟨Nat.zero_le _, Nat.zero_le _⟩ dX3_readSum_28 (fun v10 Z11 I12 L13 q14 => ?_)
        obtain ⟨rfl, r16, rfl, h⟩ := q14
        show jJ G 5 31 [(0, .ref v0), (1, .ref v1), (2, .int v2), (3, .int v3)] [.int r16] Z I12 L13 0 0
        refine j_istore E 4 [(4, .int r16), (0, .ref v0), (1, .ref v1), (2, .int v2), (3, .int v3)] dX3_readSum_31 (by decide) rfl ?_
        refine j_aload_n E dX3_readSum_33 1 rfl ?_
        refine j_dup E dX3_readSum_34 rfl ?_
        refine j_geti E 3 6 rfl rfl (by decide) (by decide) (iw iT_3) rfl rfl (tw W_186) kv0 dX3_readSum_35 ?_
        refine j_iconst E (v := 1) dX3_readSum_38 (by decide) ?_
        refine j_iadd E dX3_readSum_39 ?_
        refine j_puti E 3 6 rfl rfl (by decide) (by decide) (iw iT_3) tyX3_ok nmX3 rfl rfl (tw W_186) rfl rfl rfl kv0 dX3_readSum_40 ?_
        refine j_nmI (fun I17 eI17 => ?_)
        have h := h I17 eI17
        refine j_aload_n E dX3_readSum_43 1 rfl ?_
        refine j_aload_n E dX3_readSum_44 2 rfl ?_
        refine j_iload_n E dX3_readSum_45 3 rfl ?_
        refine j_callVS E hU [.ref v1, .int v2] [] (hF.2.2.1 v0 v1 v2 Z I17 L13 _ hZ kv0 kv1 h) (gwV WS_1266 WS_1267 WS_1268 W_179 WS_1265) rfl ⟨rfl, fy_X3_readProduct⟩ ⟨by show d + 4 + 1 ≤ d + 1 + 4; omega, by show 8 + (5 + 11) + (24 * d + 100) ≤ 24 * (d + 1) + 100; omega⟩ (c := 3) rfl (by decide) kv0 rfl rfl (Nat.le_of_ble_eq_true rfl) ⟨Nat.zero_le _, Nat.zero_le _⟩ dX3_readSum_46 (fun v18 Z19 I20 L21 q22 => ?_)
        obtain ⟨rfl, rfl, h⟩ := q22
        show jJ G 5 49 [(4, .int r16), (0, .ref v0), (1, .ref v1), (2, .int v2), (3, .int v3)] [] Z I20 L21 0 0
        refine j_aload_n E dX3_readSum_49 1 rfl ?_
        refine j_sipush E (v := 2000) dX3_readSum_50 (by decide) ?_
        refine j_iload E dX3_readSum_53 0 rfl ?_
        refine j_iadd E dX3_readSum_55 ?_
        refine j_callV E [.int ((2000 : Int32) + r16)] [] (c_X3_emit (gL G) (gD G) (gY G) v0 ((2000 : Int32) + r16) Z I20 L21 _ hZ kv0 h) (gwV W_201 W_202 W_203 W_179 W_200) rfl ⟨rfl, fy_X3_emit⟩ ⟨by show 0 + 1 ≤ d + 1 + 4; omega, by show 8 + (2 + 11) + 0 ≤ 24 * (d + 1) + 100; omega⟩ (c := 3) rfl (by decide) kv0 rfl rfl (Nat.le_of_ble_eq_true rfl) ⟨Nat.zero_le _, Nat.zero_le _⟩ dX3_readSum_56 (fun v24 Z25 I26 L27 q28 => ?_)
        obtain ⟨rfl, rfl, h⟩ := q28
        show jJ G 5 59 [(4, .int r16), (0, .ref v0), (1, .ref v1), (2, .int v2), (3, .int v3)] [] Z I26 L27 0 0
        obtain ⟨x30, ex30⟩ : ∃ y : Int32, y = v3 + 1 := ⟨_, rfl⟩
        have h := h x30 ex30
        refine j_iinc E x30 [(3, .int x30), (4, .int r16), (0, .ref v0), (1, .ref v1), (2, .int v2)] dX3_readSum_59 4 rfl (by rw [ex30]; rfl) (by decide) rfl ?_
        refine j_goto E 8 dX3_readSum_62 (by decide) ?_
        refine j_sub [2, 3, 4, 0] rfl ?_
        exact hK8 v0 v1 v2 x30 I26 L27 kv0 kv1 h
set_option maxRecDepth 100000 in
def fs_X3_readSum (F : FTR3) (v0 : Nat) (v1 : Nat) (v2 : Int32) (Z : jZ) (I : jI) (L : jL) (Q : jI → jL → Prop) : Prop := (F 2 v0 v1 v2 Z I L (fun I33 L34 => (∃ m8 : Nat, fs_X3_readSum_L8 F  Z Q m8 v0 v1 v2 (0 : Int32) I33 L34)))
set_option maxHeartbeats 4000000 in
set_option maxRecDepth 100000 in
theorem cs_X3_readSum (l : Launch) (D : va_G) (cy : jC) {sa sb : Nat} {d : Nat} {F : FTR3} (hF : HFR3 sa sb l D cy d F) (v0 : Nat) (v1 : Nat) (v2 : Int32) (Z : jZ) (I : jI) (L : jL) (Q : jI → jL → Prop) (hZ : SH Z) (kv0 : jk Z v0 3) (kv1 : jk Z v1 10) (h : fs_X3_readSum F v0 v1 v2 Z I L Q) : jCtS sa sb l yX3_readSum w_X3_readSum (rR3 (d + 1)) D cy [.ref v0, .ref v1, .int v2] Z I L (rtV Z Q) := by
  refine jCtS_of (cc := cX3_readSum) (maxL := 5) (ret := none) (by decide +kernel) rfl (Nat.le_of_ble_eq_true rfl) ?_
  intro G eD eY eL E hU
  subst eD; subst eY; subst eL
  have E : jE G cX3_readSum RX3 w_X3_readSum 5 none (rR3 (d + 1)) (rtV Z Q) := E
  show jJ G 5 0 [(0, .ref v0), (1, .ref v1), (2, .int v2)] [] Z I L 0 0
  refine j_aload_n E dX3_readSum_0 0 rfl ?_
  refine j_aload_n E dX3_readSum_1 1 rfl ?_
  refine j_iload_n E dX3_readSum_2 2 rfl ?_
  refine j_callVS E hU [.ref v1, .int v2] [] (hF.2.2.1 v0 v1 v2 Z I L _ hZ kv0 kv1 h) (gwV WS_1266 WS_1267 WS_1268 W_179 WS_1265) rfl ⟨rfl, fy_X3_readProduct⟩ ⟨by show d + 4 + 1 ≤ d + 1 + 4; omega, by show 8 + (5 + 11) + (24 * d + 100) ≤ 24 * (d + 1) + 100; omega⟩ (c := 3) rfl (by decide) kv0 rfl rfl (Nat.le_of_ble_eq_true rfl) ⟨Nat.zero_le _, Nat.zero_le _⟩ dX3_readSum_3 (fun v31 Z32 I33 L34 q35 => ?_)
  obtain ⟨rfl, rfl, h⟩ := q35
  show jJ G 5 6 [(0, .ref v0), (1, .ref v1), (2, .int v2)] [] Z I33 L34 0 0
  refine j_iconst E (v := 0) dX3_readSum_6 (by decide) ?_
  refine j_istore_n E 3 [(3, .int (0 : Int32)), (0, .ref v0), (1, .ref v1), (2, .int v2)] dX3_readSum_7 rfl (by decide) rfl ?_
  obtain ⟨n37, h⟩ := h
  refine j_sub [1, 2, 3, 0] rfl ?_
  exact ms_X3_readSum_L8 E hU hF hZ  n37 v0 v1 v2 (0 : Int32) I33 L34 kv0 kv1 h
set_option maxRecDepth 100000 in
def fs_X3_readExpression_b30 (F : FTR3)  (Z : jZ) (Q : jI → jL → Prop) (v0 : Nat) (v1 : Nat) (v2 : Int32) (I : jI) (L : jL) : Prop := (f_X3_look v0 v1 Z I L (fun r7 I3 L4 => (∀ I8 : jI, I8 = jpI I3 v0 6 ((I3 v0 6) + (1 : Int32)) → (F 1 v0 v1 v2 Z I8 L4 (fun I11 L12 => (f_X3_emit v0 ((2000 : Int32) + r7) Z I11 L12 (fun I17 L18 => Q I17 L18)))))))
set_option maxHeartbeats 4000000 in
set_option maxRecDepth 100000 in
theorem ms_X3_readExpression_b30 {G : jG} {sa sb : Nat} {d : Nat} {F : FTR3} {Z : jZ} {Q : jI → jL → Prop} (E : jE G cX3_readExpression RX3 w_X3_readExpression 4 none (rR3 (d + 1)) (rtV Z Q)) (hU : jU sa sb (gA G) (gS G) (gS G).heap) (hF : HFR3 sa sb (gL G) (gD G) (gY G) d F) (hZ : SH Z)  (v0 : Nat) (v1 : Nat) (v2 : Int32) (I : jI) (L : jL) (kv0 : jk Z v0 3) (kv1 : jk Z v1 10) (h : fs_X3_readExpression_b30 F  Z Q v0 v1 v2 I L) : jJ G 4 30 [(0, .ref v0), (1, .ref v1), (2, .int v2)] [] Z I L 0 0 := by
  refine j_aload_n E dX3_readExpression_30 0 rfl ?_
  refine j_aload_n E dX3_readExpression_31 1 rfl ?_
  refine j_callV E [.ref v1] [] (c_X3_look (gL G) (gD G) (gY G) v0 v1 Z I L _ hZ kv0 kv1 h) (gwV W_194 W_195 W_196 W_179 W_193) rfl ⟨rfl, fy_X3_look⟩ ⟨by show 1 + 1 ≤ d + 1 + 4; omega, by show 8 + (2 + 11) + 21 ≤ 24 * (d + 1) + 100; omega⟩ (c := 3) rfl (by decide) kv0 rfl rfl (Nat.le_of_ble_eq_true rfl) ⟨Nat.zero_le _, Nat.zero_le _⟩ dX3_readExpression_32 (fun v1 Z2 I3 L4 q5 => ?_)
  obtain ⟨rfl, r7, rfl, h⟩ := q5
  show jJ G 4 35 [(0, .ref v0), (1, .ref v1), (2, .int v2)] [.int r7] Z I3 L4 0 0
  refine j_istore_n E 3 [(3, .int r7), (0, .ref v0), (1, .ref v1), (2, .int v2)] dX3_readExpression_35 rfl (by decide) rfl ?_
  refine j_aload_n E dX3_readExpression_36 1 rfl ?_
  refine j_dup E dX3_readExpression_37 rfl ?_
  refine j_geti E 3 6 rfl rfl (by decide) (by decide) (iw iT_3) rfl rfl (tw W_186) kv0 dX3_readExpression_38 ?_
  refine j_iconst E (v := 1) dX3_readExpression_41 (by decide) ?_
  refine j_iadd E dX3_readExpression_42 ?_
  refine j_puti E 3 6 rfl rfl (by decide) (by decide) (iw iT_3) tyX3_ok nmX3 rfl rfl (tw W_186) rfl rfl rfl kv0 dX3_readExpression_43 ?_
  refine j_nmI (fun I8 eI8 => ?_)
  have h := h I8 eI8
  refine j_aload_n E dX3_readExpression_46 1 rfl ?_
  refine j_aload_n E dX3_readExpression_47 2 rfl ?_
  refine j_iload_n E dX3_readExpression_48 3 rfl ?_
  refine j_callVS E hU [.ref v1, .int v2] [] (hF.2.1 v0 v1 v2 Z I8 L4 _ hZ kv0 kv1 h) (gwV WS_1270 WS_1271 WS_1272 W_179 WS_1269) rfl ⟨rfl, fy_X3_readSum⟩ ⟨by show d + 4 + 1 ≤ d + 1 + 4; omega, by show 8 + (5 + 11) + (24 * d + 100) ≤ 24 * (d + 1) + 100; omega⟩ (c := 3) rfl (by decide) kv0 rfl rfl (Nat.le_of_ble_eq_true rfl) ⟨Nat.zero_le _, Nat.zero_le _⟩ dX3_readExpression_49 (fun v9 Z10 I11 L12 q13 => ?_)
  obtain ⟨rfl, rfl, h⟩ := q13
  show jJ G 4 52 [(3, .int r7), (0, .ref v0), (1, .ref v1), (2, .int v2)] [] Z I11 L12 0 0
  refine j_aload_n E dX3_readExpression_52 1 rfl ?_
  refine j_sipush E (v := 2000) dX3_readExpression_53 (by decide) ?_
  refine j_iload_n E dX3_readExpression_56 0 rfl ?_
  refine j_iadd E dX3_readExpression_57 ?_
  refine j_callV E [.int ((2000 : Int32) + r7)] [] (c_X3_emit (gL G) (gD G) (gY G) v0 ((2000 : Int32) + r7) Z I11 L12 _ hZ kv0 h) (gwV W_201 W_202 W_203 W_179 W_200) rfl ⟨rfl, fy_X3_emit⟩ ⟨by show 0 + 1 ≤ d + 1 + 4; omega, by show 8 + (2 + 11) + 0 ≤ 24 * (d + 1) + 100; omega⟩ (c := 3) rfl (by decide) kv0 rfl rfl (Nat.le_of_ble_eq_true rfl) ⟨Nat.zero_le _, Nat.zero_le _⟩ dX3_readExpression_58 (fun v15 Z16 I17 L18 q19 => ?_)
  obtain ⟨rfl, rfl, h⟩ := q19
  show jJ G 4 61 [(3, .int r7), (0, .ref v0), (1, .ref v1), (2, .int v2)] [] Z I17 L18 0 0
  exact j_return E ⟨rfl, rfl, h⟩ (Nat.zero_le _) (Nat.zero_le _) dX3_readExpression_61
set_option maxRecDepth 100000 in
def fs_X3_readExpression (F : FTR3) (v0 : Nat) (v1 : Nat) (v2 : Int32) (Z : jZ) (I : jI) (L : jL) (Q : jI → jL → Prop) : Prop := (F 1 v0 v1 v2 Z I L (fun I23 L24 => (f_X3_isAhead v0 v1 (60 : Int32) (62 : Int32) Z I23 L24 (fun r33 I29 L30 => ((¬ r33 = 0 → fs_X3_readExpression_b30 F  Z Q v0 v1 v2 I29 L30) ∧ (r33 = 0 → (f_X3_isAhead v0 v1 (61 : Int32) (61 : Int32) Z I29 L30 (fun r41 I37 L38 => ((r41 = 0 → Q I37 L38) ∧ (¬ (r41 = 0) → fs_X3_readExpression_b30 F  Z Q v0 v1 v2 I37 L38))))))))))
set_option maxHeartbeats 4000000 in
set_option maxRecDepth 100000 in
theorem cs_X3_readExpression (l : Launch) (D : va_G) (cy : jC) {sa sb : Nat} {d : Nat} {F : FTR3} (hF : HFR3 sa sb l D cy d F) (v0 : Nat) (v1 : Nat) (v2 : Int32) (Z : jZ) (I : jI) (L : jL) (Q : jI → jL → Prop) (hZ : SH Z) (kv0 : jk Z v0 3) (kv1 : jk Z v1 10) (h : fs_X3_readExpression F v0 v1 v2 Z I L Q) : jCtS sa sb l yX3_readExpression w_X3_readExpression (rR3 (d + 1)) D cy [.ref v0, .ref v1, .int v2] Z I L (rtV Z Q) := by
  refine jCtS_of (cc := cX3_readExpression) (maxL := 4) (ret := none) (by decide +kernel) rfl (Nat.le_of_ble_eq_true rfl) ?_
  intro G eD eY eL E hU
  subst eD; subst eY; subst eL
  have E : jE G cX3_readExpression RX3 w_X3_readExpression 4 none (rR3 (d + 1)) (rtV Z Q) := E
  show jJ G 4 0 [(0, .ref v0), (1, .ref v1), (2, .int v2)] [] Z I L 0 0
  refine j_aload_n E dX3_readExpression_0 0 rfl ?_
  refine j_aload_n E dX3_readExpression_1 1 rfl ?_
  refine j_iload_n E dX3_readExpression_2 2 rfl ?_
  refine j_callVS E hU [.ref v1, .int v2] [] (hF.2.1 v0 v1 v2 Z I L _ hZ kv0 kv1 h) (gwV WS_1270 WS_1271 WS_1272 W_179 WS_1269) rfl ⟨rfl, fy_X3_readSum⟩ ⟨by show d + 4 + 1 ≤ d + 1 + 4; omega, by show 8 + (5 + 11) + (24 * d + 100) ≤ 24 * (d + 1) + 100; omega⟩ (c := 3) rfl (by decide) kv0 rfl rfl (Nat.le_of_ble_eq_true rfl) ⟨Nat.zero_le _, Nat.zero_le _⟩ dX3_readExpression_3 (fun v21 Z22 I23 L24 q25 => ?_)
  obtain ⟨rfl, rfl, h⟩ := q25
  show jJ G 4 6 [(0, .ref v0), (1, .ref v1), (2, .int v2)] [] Z I23 L24 0 0
  refine j_aload_n E dX3_readExpression_6 0 rfl ?_
  refine j_aload_n E dX3_readExpression_7 1 rfl ?_
  refine j_bipush E (v := 60) dX3_readExpression_8 (by decide) ?_
  refine j_bipush E (v := 62) dX3_readExpression_10 (by decide) ?_
  refine j_callV E [.ref v1, .int (60 : Int32), .int (62 : Int32)] [] (c_X3_isAhead (gL G) (gD G) (gY G) v0 v1 (60 : Int32) (62 : Int32) Z I23 L24 _ hZ kv0 kv1 h) (gwV W_208 W_209 W_210 W_179 W_207) rfl ⟨rfl, fy_X3_isAhead⟩ ⟨by show 2 + 1 ≤ d + 1 + 4; omega, by show 8 + (5 + 11) + 42 ≤ 24 * (d + 1) + 100; omega⟩ (c := 3) rfl (by decide) kv0 rfl rfl (Nat.le_of_ble_eq_true rfl) ⟨Nat.zero_le _, Nat.zero_le _⟩ dX3_readExpression_12 (fun v27 Z28 I29 L30 q31 => ?_)
  obtain ⟨rfl, r33, rfl, zr33, h⟩ := q31
  show jJ G 4 15 [(0, .ref v0), (1, .ref v1), (2, .int v2)] [.int r33] Z I29 L30 0 0
  refine j_if_ne E 30 dX3_readExpression_15 (by decide) (fun c34 => ?_) (fun c34 => ?_)
  · have h := h.1 c34
    refine j_sub [0, 1, 2] rfl ?_
    exact ms_X3_readExpression_b30 E hU hF hZ  v0 v1 v2 I29 L30 kv0 kv1 h
  · have h := h.2 c34
    refine j_aload_n E dX3_readExpression_18 0 rfl ?_
    refine j_aload_n E dX3_readExpression_19 1 rfl ?_
    refine j_bipush E (v := 61) dX3_readExpression_20 (by decide) ?_
    refine j_bipush E (v := 61) dX3_readExpression_22 (by decide) ?_
    refine j_callV E [.ref v1, .int (61 : Int32), .int (61 : Int32)] [] (c_X3_isAhead (gL G) (gD G) (gY G) v0 v1 (61 : Int32) (61 : Int32) Z I29 L30 _ hZ kv0 kv1 h) (gwV W_208 W_209 W_210 W_179 W_207) rfl ⟨rfl, fy_X3_isAhead⟩ ⟨by show 2 + 1 ≤ d + 1 + 4; omega, by show 8 + (5 + 11) + 42 ≤ 24 * (d + 1) + 100; omega⟩ (c := 3) rfl (by decide) kv0 rfl rfl (Nat.le_of_ble_eq_true rfl) ⟨Nat.zero_le _, Nat.zero_le _⟩ dX3_readExpression_24 (fun v35 Z36 I37 L38 q39 => ?_)
    obtain ⟨rfl, r41, rfl, zr41, h⟩ := q39
    show jJ G 4 27 [(0, .ref v0), (1, .ref v1), (2, .int v2)] [.int r41] Z I37 L38 0 0
    refine j_if_eq E 61 dX3_readExpression_27 (by decide) (fun c42 => ?_) (fun c42 => ?_)
    · have h := h.1 c42
      exact j_return E ⟨rfl, rfl, h⟩ (Nat.zero_le _) (Nat.zero_le _) dX3_readExpression_61
    · have h := h.2 c42
      refine j_sub [0, 1, 2] rfl ?_
      exact ms_X3_readExpression_b30 E hU hF hZ  v0 v1 v2 I37 L38 kv0 kv1 h
set_option maxRecDepth 100000 in
def fR3 : Nat → FTR3
  | 0 => fun _ _ _ _ _ _ _ _ => False
  | d + 1 => fun w v0 v1 v2 Z I L Q => match w with
    | 0 => fs_X3_readExpression (fR3 d) v0 v1 v2 Z I L Q
    | 1 => fs_X3_readSum (fR3 d) v0 v1 v2 Z I L Q
    | 2 => fs_X3_readProduct (fR3 d) v0 v1 v2 Z I L Q
    | 3 => fs_X3_readSigned (fR3 d) v0 v1 v2 Z I L Q
    | _ => fs_X3_readThing (fR3 d) v0 v1 v2 Z I L Q
theorem hR3 {sa sb : Nat} (l : Launch) (D : va_G) (cy : jC) : ∀ d, HFR3 sa sb l D cy d (fR3 d) := by
  intro d
  induction d with
  | zero => exact ⟨fun _ _ _ _ _ _ _ _ _ _ h => h.elim, fun _ _ _ _ _ _ _ _ _ _ h => h.elim, fun _ _ _ _ _ _ _ _ _ _ h => h.elim, fun _ _ _ _ _ _ _ _ _ _ h => h.elim, fun _ _ _ _ _ _ _ _ _ _ h => h.elim⟩
  | succ d ih => exact ⟨fun v0 v1 v2 Z I L Q hZ k0 k1 h => cs_X3_readExpression l D cy ih v0 v1 v2 Z I L Q hZ k0 k1 h, fun v0 v1 v2 Z I L Q hZ k0 k1 h => cs_X3_readSum l D cy ih v0 v1 v2 Z I L Q hZ k0 k1 h, fun v0 v1 v2 Z I L Q hZ k0 k1 h => cs_X3_readProduct l D cy ih v0 v1 v2 Z I L Q hZ k0 k1 h, fun v0 v1 v2 Z I L Q hZ k0 k1 h => cs_X3_readSigned l D cy ih v0 v1 v2 Z I L Q hZ k0 k1 h, fun v0 v1 v2 Z I L Q hZ k0 k1 h => cs_X3_readThing l D cy ih v0 v1 v2 Z I L Q hZ k0 k1 h⟩
set_option maxRecDepth 100000 in
def fs_X3_read_b175 (K122 : Nat → Int32 → jI → jL → Prop) (Z : jZ) (Q : Int32 → jI → jL → Prop) (v0 : Nat) (v2 : Int32) (s0 : Nat) (s1 : Int32) (s2 : Int32) (I : jI) (L : jL) : Prop := (∀ I1 : jI, I1 = jpI I s0 4 (s1 ||| s2) → (∀ x2 : Int32, x2 = v2 + 1 → K122 v0 x2 I1 L))
set_option maxHeartbeats 4000000 in
set_option maxRecDepth 100000 in
theorem ms_X3_read_b175 {G : jG} {sa sb : Nat} {Z : jZ} {Q : Int32 → jI → jL → Prop} (E : jE G cX3_read RX3 w_X3_read 3 (some .int) { frames := 35, cells := 0, slots := 0, locals := 843 } (rtI Z Q)) (hU : jU sa sb (gA G) (gS G) (gS G).heap) (hZ : SH Z) (K122 : Nat → Int32 → jI → jL → Prop) (hK122 : ∀ (v0 : Nat) (v2 : Int32) (I : jI) (L : jL), jk Z v0 3 → K122 v0 v2 I L → jJ G 3 122 [(0, .ref v0), (2, .int v2)] [] Z I L 0 0) (v0 : Nat) (v2 : Int32) (s0 : Nat) (s1 : Int32) (s2 : Int32) (I : jI) (L : jL) (kv0 : jk Z v0 3) (ks0 : jk Z s0 3) (h : fs_X3_read_b175 K122 Z Q v0 v2 s0 s1 s2 I L) : jJ G 3 175 [(0, .ref v0), (2, .int v2)] [.int s2, .int s1, .ref s0] Z I L 0 0 := by
  refine j_ior E dX3_read_175 ?_
  refine j_puti E 3 4 rfl rfl (by decide) (by decide) (iw iT_3) tyX3_ok nmX3 rfl rfl (tw W_183) rfl rfl rfl ks0 dX3_read_176 ?_
  refine j_nmI (fun I1 eI1 => ?_)
  have h := h I1 eI1
  obtain ⟨x2, ex2⟩ : ∃ y : Int32, y = v2 + 1 := ⟨_, rfl⟩
  have h := h x2 ex2
  refine j_iinc E x2 [(2, .int x2), (0, .ref v0)] dX3_read_179 1 rfl (by rw [ex2]; rfl) (by decide) rfl ?_
  refine j_goto E 122 dX3_read_182 (by decide) ?_
  refine j_sub [1, 0] rfl ?_
  exact hK122 v0 x2 I1 L kv0 h
set_option maxRecDepth 100000 in
def fs_X3_read_b174 (K122 : Nat → Int32 → jI → jL → Prop) (Z : jZ) (Q : Int32 → jI → jL → Prop) (v0 : Nat) (v2 : Int32) (s0 : Nat) (s1 : Int32) (I : jI) (L : jL) : Prop := fs_X3_read_b175 K122 Z Q v0 v2 s0 s1 (0 : Int32) I L
set_option maxHeartbeats 4000000 in
set_option maxRecDepth 100000 in
theorem ms_X3_read_b174 {G : jG} {sa sb : Nat} {Z : jZ} {Q : Int32 → jI → jL → Prop} (E : jE G cX3_read RX3 w_X3_read 3 (some .int) { frames := 35, cells := 0, slots := 0, locals := 843 } (rtI Z Q)) (hU : jU sa sb (gA G) (gS G) (gS G).heap) (hZ : SH Z) (K122 : Nat → Int32 → jI → jL → Prop) (hK122 : ∀ (v0 : Nat) (v2 : Int32) (I : jI) (L : jL), jk Z v0 3 → K122 v0 v2 I L → jJ G 3 122 [(0, .ref v0), (2, .int v2)] [] Z I L 0 0) (v0 : Nat) (v2 : Int32) (s0 : Nat) (s1 : Int32) (I : jI) (L : jL) (kv0 : jk Z v0 3) (ks0 : jk Z s0 3) (h : fs_X3_read_b174 K122 Z Q v0 v2 s0 s1 I L) : jJ G 3 174 [(0, .ref v0), (2, .int v2)] [.int s1, .ref s0] Z I L 0 0 := by
  refine j_iconst E (v := 0) dX3_read_174 (by decide) ?_
  refine j_sub [0, 1] rfl ?_
  exact ms_X3_read_b175 E hU hZ K122 hK122 v0 v2 s0 s1 (0 : Int32) I L kv0 ks0 h
set_option maxRecDepth 100000 in
def fs_X3_read_L122  (Z : jZ) (Q : Int32 → jI → jL → Prop) : Nat → Nat → Int32 → jI → jL → Prop
  | 0 => fun _ _ _ _ => False
  | n + 1 => fun v0 v2 I L => (((I v0 3) ≤ v2 → Q (0 : Int32) I L) ∧ (¬ ((I v0 3) ≤ v2) → (∀ b4 : Nat, jr Z v0 0 = some b4 → (vp_in v2 40 ∧ (((I b4 v2.toNatClampNeg) < (1000 : Int32) → fs_X3_read_b174 (fs_X3_read_L122 Z Q n) Z Q v0 v2 v0 (I v0 4) I L) ∧ (¬ ((I b4 v2.toNatClampNeg) < (1000 : Int32)) → (∀ b7 : Nat, jr Z v0 0 = some b7 → (vp_in v2 40 ∧ (((2000 : Int32) ≤ (I b7 v2.toNatClampNeg) → fs_X3_read_b174 (fs_X3_read_L122 Z Q n) Z Q v0 v2 v0 (I v0 4) I L) ∧ (¬ ((2000 : Int32) ≤ (I b7 v2.toNatClampNeg)) → (∀ b10 : Nat, jr Z v0 0 = some b10 → (vp_in v2 40 ∧ fs_X3_read_b175 (fs_X3_read_L122 Z Q n) Z Q v0 v2 v0 (I v0 4) ((1 : Int32) <<< (((I b10 v2.toNatClampNeg) - (1000 : Int32)) &&& 31)) I L))))))))))))
set_option maxHeartbeats 4000000 in
set_option maxRecDepth 100000 in
theorem ms_X3_read_L122 {G : jG} {sa sb : Nat} {Z : jZ} {Q : Int32 → jI → jL → Prop} (E : jE G cX3_read RX3 w_X3_read 3 (some .int) { frames := 35, cells := 0, slots := 0, locals := 843 } (rtI Z Q)) (hU : jU sa sb (gA G) (gS G) (gS G).heap) (hZ : SH Z)  : ∀ (n : Nat) (v0 : Nat) (v2 : Int32) (I : jI) (L : jL), jk Z v0 3 → fs_X3_read_L122  Z Q n v0 v2 I L → jJ G 3 122 [(0, .ref v0), (2, .int v2)] [] Z I L 0 0 := by
  intro n
  induction n with
  | zero => intro v0 v2 I L _ h; exact h.elim
  | succ n ih =>
    intro v0 v2 I L kv0 h
    have h : (((I v0 3) ≤ v2 → Q (0 : Int32) I L) ∧ (¬ ((I v0 3) ≤ v2) → (∀ b4 : Nat, jr Z v0 0 = some b4 → (vp_in v2 40 ∧ (((I b4 v2.toNatClampNeg) < (1000 : Int32) → fs_X3_read_b174 (fs_X3_read_L122 Z Q n) Z Q v0 v2 v0 (I v0 4) I L) ∧ (¬ ((I b4 v2.toNatClampNeg) < (1000 : Int32)) → (∀ b7 : Nat, jr Z v0 0 = some b7 → (vp_in v2 40 ∧ (((2000 : Int32) ≤ (I b7 v2.toNatClampNeg) → fs_X3_read_b174 (fs_X3_read_L122 Z Q n) Z Q v0 v2 v0 (I v0 4) I L) ∧ (¬ ((2000 : Int32) ≤ (I b7 v2.toNatClampNeg)) → (∀ b10 : Nat, jr Z v0 0 = some b10 → (vp_in v2 40 ∧ fs_X3_read_b175 (fs_X3_read_L122 Z Q n) Z Q v0 v2 v0 (I v0 4) ((1 : Int32) <<< (((I b10 v2.toNatClampNeg) - (1000 : Int32)) &&& 31)) I L)))))))))))) := h
    obtain ⟨K122, eK122⟩ : ∃ K : Nat → Int32 → jI → jL → Prop, K = fs_X3_read_L122  Z Q n := ⟨_, rfl⟩
    have hK122 := ih
    clear eK122 K122
    generalize fs_X3_read_L122  Z Q n = K122 at hK122 h
    refine j_iload_n E dX3_read_122 1 rfl ?_
    refine j_aload_n E dX3_read_123 0 rfl ?_
    refine j_geti E 3 3 rfl rfl (by decide) (by decide) (iw iT_3) rfl rfl (tw W_177) kv0 dX3_read_124 ?_
    refine j_icmp_ge E 185 dX3_read_127 (by decide) (fun c3 => ?_) (fun c3 => ?_)
    · have h := h.1 c3
      refine j_iconst E (v := 0) dX3_read_185 (by decide) ?_
      exact j_ireturn E ⟨rfl, _, rfl, h⟩ (Nat.zero_le _) (Nat.zero_le _) dX3_read_186
    · have h := h.2 c3
      refine j_aload_n E dX3_read_130 0 rfl ?_
      refine j_dup E dX3_read_131 rfl ?_
      refine j_geti E 3 4 rfl rfl (by decide) (by decide) (iw iT_3) rfl rfl (tw W_183) kv0 dX3_read_132 ?_
      refine j_aload_n E dX3_read_135 0 rfl ?_
      obtain ⟨b4, eb4, kb4, lb4⟩ := sh_f hZ kv0 (j := 0) (k := 14) (m := 40) rfl
      have h := h b4 eb4
      refine j_getr E 3 0 rfl rfl (by decide) (by decide) (iw iT_3) rfl rfl (tw W_211) kv0 eb4 dX3_read_136 ?_
      refine j_iload_n E dX3_read_139 1 rfl ?_
      obtain ⟨o5, h⟩ := h
      refine j_iald E kb4 (by rw [lb4]; exact o5) dX3_read_140 ?_
      refine j_sipush E (v := 1000) dX3_read_141 (by decide) ?_
      refine j_icmp_lt E 174 dX3_read_144 (by decide) (fun c6 => ?_) (fun c6 => ?_)
      · have h := h.1 c6
        refine j_sub [0, 1] rfl ?_
        exact ms_X3_read_b174 E hU hZ K122 hK122 v0 v2 v0 (I v0 4) I L kv0 kv0 h
      · have h := h.2 c6
        refine j_aload_n E dX3_read_147 0 rfl ?_
        obtain ⟨b7, eb7, kb7, lb7⟩ := sh_f hZ kv0 (j := 0) (k := 14) (m := 40) rfl
        have h := h b7 eb7
        refine j_getr E 3 0 rfl rfl (by decide) (by decide) (iw iT_3) rfl rfl (tw W_211) kv0 eb7 dX3_read_148 ?_
        refine j_iload_n E dX3_read_151 1 rfl ?_
        obtain ⟨o8, h⟩ := h
        refine j_iald E kb7 (by rw [lb7]; exact o8) dX3_read_152 ?_
        refine j_sipush E (v := 2000) dX3_read_153 (by decide) ?_
        refine j_icmp_ge E 174 dX3_read_156 (by decide) (fun c9 => ?_) (fun c9 => ?_)
        · have h := h.1 c9
          refine j_sub [0, 1] rfl ?_
          exact ms_X3_read_b174 E hU hZ K122 hK122 v0 v2 v0 (I v0 4) I L kv0 kv0 h
        · have h := h.2 c9
          refine j_iconst E (v := 1) dX3_read_159 (by decide) ?_
          refine j_aload_n E dX3_read_160 0 rfl ?_
          obtain ⟨b10, eb10, kb10, lb10⟩ := sh_f hZ kv0 (j := 0) (k := 14) (m := 40) rfl
          have h := h b10 eb10
          refine j_getr E 3 0 rfl rfl (by decide) (by decide) (iw iT_3) rfl rfl (tw W_211) kv0 eb10 dX3_read_161 ?_
          refine j_iload_n E dX3_read_164 1 rfl ?_
          obtain ⟨o11, h⟩ := h
          refine j_iald E kb10 (by rw [lb10]; exact o11) dX3_read_165 ?_
          refine j_sipush E (v := 1000) dX3_read_166 (by decide) ?_
          refine j_isub E dX3_read_169 ?_
          refine j_ishl E dX3_read_170 ?_
          refine j_goto E 175 dX3_read_171 (by decide) ?_
          refine j_sub [0, 1] rfl ?_
          exact ms_X3_read_b175 E hU hZ K122 hK122 v0 v2 v0 (I v0 4) ((1 : Int32) <<< (((I b10 v2.toNatClampNeg) - (1000 : Int32)) &&& 31)) I L kv0 kv0 h
set_option maxRecDepth 100000 in
def fs_X3_read_b77  (Z : jZ) (Q : Int32 → jI → jL → Prop) (v0 : Nat) (I : jI) (L : jL) : Prop := (((I v0 8) = (-1 : Int32) → (∀ b13 : Nat, jr Z v0 1 = some b13 → (∀ b14 : Nat, jr Z v0 0 = some b14 → ((¬ (0 : Int32) < 0 ∧ ¬ (0 : Int32) < 0 ∧ ¬ (40 : Int32) < 0 ∧ (0 : Int32).toNatClampNeg + (40 : Int32).toNatClampNeg ≤ 40 ∧ (0 : Int32).toNatClampNeg + (40 : Int32).toNatClampNeg ≤ 40) ∧ (∀ I16 : jI, I16 = va_up I b14 (va_cpy (I b13) (I b14) (0 : Int32).toNatClampNeg (0 : Int32).toNatClampNeg (40 : Int32).toNatClampNeg) → (∀ I17 : jI, I17 = jpI I16 v0 3 (I16 v0 5) → (∀ I18 : jI, I18 = jpI I17 v0 4 (0 : Int32) → (∃ m122 : Nat, fs_X3_read_L122  Z Q m122 v0 (0 : Int32) I18 L)))))))) ∧ (¬ ((I v0 8) = (-1 : Int32)) → Q ((-1 : Int32) - (I v0 8)) I L))
set_option maxHeartbeats 4000000 in
set_option maxRecDepth 100000 in
theorem ms_X3_read_b77 {G : jG} {sa sb : Nat} {Z : jZ} {Q : Int32 → jI → jL → Prop} (E : jE G cX3_read RX3 w_X3_read 3 (some .int) { frames := 35, cells := 0, slots := 0, locals := 843 } (rtI Z Q)) (hU : jU sa sb (gA G) (gS G) (gS G).heap) (hZ : SH Z)  (v0 : Nat) (I : jI) (L : jL) (kv0 : jk Z v0 3) (h : fs_X3_read_b77  Z Q v0 I L) : jJ G 3 77 [(0, .ref v0)] [] Z I L 0 0 := by
  refine j_aload_n E dX3_read_77 0 rfl ?_
  refine j_geti E 3 8 rfl rfl (by decide) (by decide) (iw iT_3) rfl rfl (tw W_197) kv0 dX3_read_78 ?_
  refine j_iconst E (v := -1) dX3_read_81 (by decide) ?_
  refine j_icmp_eq E 92 dX3_read_82 (by decide) (fun c12 => ?_) (fun c12 => ?_)
  · have h := h.1 c12
    refine j_aload_n E dX3_read_92 0 rfl ?_
    obtain ⟨b13, eb13, kb13, lb13⟩ := sh_f hZ kv0 (j := 1) (k := 14) (m := 40) rfl
    have h := h b13 eb13
    refine j_getr E 3 1 rfl rfl (by decide) (by decide) (iw iT_3) rfl rfl (tw W_199) kv0 eb13 dX3_read_93 ?_
    refine j_iconst E (v := 0) dX3_read_96 (by decide) ?_
    refine j_aload_n E dX3_read_97 0 rfl ?_
    obtain ⟨b14, eb14, kb14, lb14⟩ := sh_f hZ kv0 (j := 0) (k := 14) (m := 40) rfl
    have h := h b14 eb14
    refine j_getr E 3 0 rfl rfl (by decide) (by decide) (iw iT_3) rfl rfl (tw W_211) kv0 eb14 dX3_read_98 ?_
    refine j_iconst E (v := 0) dX3_read_101 (by decide) ?_
    refine j_bipush E (v := 40) dX3_read_102 (by decide) ?_
    obtain ⟨o15, h⟩ := h
    refine j_copyi E (tw W_212) (tw W_11) (tw W_12) (tw W_13) kb13 kb14 o15.1 o15.2.1 o15.2.2.1 (by rw [lb13]; exact o15.2.2.2.1) (by rw [lb14]; exact o15.2.2.2.2) (Nat.le_of_ble_eq_true rfl) (Nat.le_of_ble_eq_true rfl) dX3_read_104 ?_
    refine j_nmI (fun I16 eI16 => ?_)
    have h := h I16 eI16
    refine j_aload_n E dX3_read_107 0 rfl ?_
    refine j_aload_n E dX3_read_108 0 rfl ?_
    refine j_geti E 3 5 rfl rfl (by decide) (by decide) (iw iT_3) rfl rfl (tw W_198) kv0 dX3_read_109 ?_
    refine j_puti E 3 3 rfl rfl (by decide) (by decide) (iw iT_3) tyX3_ok nmX3 rfl rfl (tw W_177) rfl rfl rfl kv0 dX3_read_112 ?_
    refine j_nmI (fun I17 eI17 => ?_)
    have h := h I17 eI17
    refine j_aload_n E dX3_read_115 0 rfl ?_
    refine j_iconst E (v := 0) dX3_read_116 (by decide) ?_
    refine j_puti E 3 4 rfl rfl (by decide) (by decide) (iw iT_3) tyX3_ok nmX3 rfl rfl (tw W_183) rfl rfl rfl kv0 dX3_read_117 ?_
    refine j_nmI (fun I18 eI18 => ?_)
    have h := h I18 eI18
    refine j_iconst E (v := 0) dX3_read_120 (by decide) ?_
    refine j_istore_n E 2 [(2, .int (0 : Int32)), (0, .ref v0)] dX3_read_121 rfl (by decide) rfl ?_
    obtain ⟨n19, h⟩ := h
    refine j_sub [1, 0] rfl ?_
    exact ms_X3_read_L122 E hU hZ  n19 v0 (0 : Int32) I18 L kv0 h
  · have h := h.2 c12
    refine j_iconst E (v := -1) dX3_read_85 (by decide) ?_
    refine j_aload_n E dX3_read_86 0 rfl ?_
    refine j_geti E 3 8 rfl rfl (by decide) (by decide) (iw iT_3) rfl rfl (tw W_197) kv0 dX3_read_87 ?_
    refine j_isub E dX3_read_90 ?_
    exact j_ireturn E ⟨rfl, _, rfl, h⟩ (Nat.zero_le _) (Nat.zero_le _) dX3_read_91
set_option maxRecDepth 100000 in
def fs_X3_read_b69  (Z : jZ) (Q : Int32 → jI → jL → Prop) (v0 : Nat) (I : jI) (L : jL) : Prop := (∀ I20 : jI, I20 = jpI I v0 8 (I v0 6) → fs_X3_read_b77  Z Q v0 I20 L)
set_option maxHeartbeats 4000000 in
set_option maxRecDepth 100000 in
theorem ms_X3_read_b69 {G : jG} {sa sb : Nat} {Z : jZ} {Q : Int32 → jI → jL → Prop} (E : jE G cX3_read RX3 w_X3_read 3 (some .int) { frames := 35, cells := 0, slots := 0, locals := 843 } (rtI Z Q)) (hU : jU sa sb (gA G) (gS G) (gS G).heap) (hZ : SH Z)  (v0 : Nat) (I : jI) (L : jL) (kv0 : jk Z v0 3) (h : fs_X3_read_b69  Z Q v0 I L) : jJ G 3 69 [(0, .ref v0)] [] Z I L 0 0 := by
  refine j_aload_n E dX3_read_69 0 rfl ?_
  refine j_aload_n E dX3_read_70 0 rfl ?_
  refine j_geti E 3 6 rfl rfl (by decide) (by decide) (iw iT_3) rfl rfl (tw W_186) kv0 dX3_read_71 ?_
  refine j_puti E 3 8 rfl rfl (by decide) (by decide) (iw iT_3) tyX3_ok nmX3 rfl rfl (tw W_197) rfl rfl rfl kv0 dX3_read_74 ?_
  refine j_nmI (fun I20 eI20 => ?_)
  have h := h I20 eI20
  refine j_sub [0] rfl ?_
  exact ms_X3_read_b77 E hU hZ  v0 I20 L kv0 h
set_option maxRecDepth 100000 in
def fs_X3_read (v0 : Nat) (v1 : Nat) (Z : jZ) (I : jI) (L : jL) (Q : Int32 → jI → jL → Prop) : Prop := (∀ I21 : jI, I21 = jpI I v0 5 (0 : Int32) → (∀ I22 : jI, I22 = jpI I21 v0 6 (0 : Int32) → (∀ I23 : jI, I23 = jpI I22 v0 8 (-1 : Int32) → (∀ I24 : jI, I24 = jpI I23 v0 7 (if (40 : Int32) < (I23 v1 1) then (40 : Int32) else (I23 v1 1)) → (((I24 v1 1) ≤ 0 → fs_X3_read_b77  Z Q v0 I24 L) ∧ (¬ ((I24 v1 1) ≤ 0) → (fR3 30 0 v0 v1 (0 : Int32) Z I24 L (fun I28 L29 => ((¬ (I28 v0 8) = (-1 : Int32) → fs_X3_read_b77  Z Q v0 I28 L29) ∧ ((I28 v0 8) = (-1 : Int32) → (((I28 v0 6) < (I28 v0 7) → fs_X3_read_b69  Z Q v0 I28 L29) ∧ (¬ ((I28 v0 6) < (I28 v0 7)) → (((I28 v1 1) ≤ (40 : Int32) → fs_X3_read_b77  Z Q v0 I28 L29) ∧ (¬ ((I28 v1 1) ≤ (40 : Int32)) → fs_X3_read_b69  Z Q v0 I28 L29))))))))))))))
set_option maxHeartbeats 4000000 in
set_option maxRecDepth 100000 in
theorem cs_X3_read (l : Launch) (D : va_G) (cy : jC) {sa sb : Nat} (v0 : Nat) (v1 : Nat) (Z : jZ) (I : jI) (L : jL) (Q : Int32 → jI → jL → Prop) (hZ : SH Z) (kv0 : jk Z v0 3) (kv1 : jk Z v1 10) (h : fs_X3_read v0 v1 Z I L Q) : jCtS sa sb l yX3_read w_X3_read { frames := 35, cells := 0, slots := 0, locals := 843 } D cy [.ref v0, .ref v1] Z I L (rtI Z Q) := by
  refine jCtS_of (cc := cX3_read) (maxL := 3) (ret := (some .int)) (by decide +kernel) rfl (Nat.le_of_ble_eq_true rfl) ?_
  intro G eD eY eL E hU
  subst eD; subst eY; subst eL
  have E : jE G cX3_read RX3 w_X3_read 3 (some .int) { frames := 35, cells := 0, slots := 0, locals := 843 } (rtI Z Q) := E
  show jJ G 3 0 [(0, .ref v0), (1, .ref v1)] [] Z I L 0 0
  refine j_aload_n E dX3_read_0 0 rfl ?_
  refine j_iconst E (v := 0) dX3_read_1 (by decide) ?_
  refine j_puti E 3 5 rfl rfl (by decide) (by decide) (iw iT_3) tyX3_ok nmX3 rfl rfl (tw W_198) rfl rfl rfl kv0 dX3_read_2 ?_
  refine j_nmI (fun I21 eI21 => ?_)
  have h := h I21 eI21
  refine j_aload_n E dX3_read_5 0 rfl ?_
  refine j_iconst E (v := 0) dX3_read_6 (by decide) ?_
  refine j_puti E 3 6 rfl rfl (by decide) (by decide) (iw iT_3) tyX3_ok nmX3 rfl rfl (tw W_186) rfl rfl rfl kv0 dX3_read_7 ?_
  refine j_nmI (fun I22 eI22 => ?_)
  have h := h I22 eI22
  refine j_aload_n E dX3_read_10 0 rfl ?_
  refine j_iconst E (v := -1) dX3_read_11 (by decide) ?_
  refine j_puti E 3 8 rfl rfl (by decide) (by decide) (iw iT_3) tyX3_ok nmX3 rfl rfl (tw W_197) rfl rfl rfl kv0 dX3_read_12 ?_
  refine j_nmI (fun I23 eI23 => ?_)
  have h := h I23 eI23
  refine j_aload_n E dX3_read_15 0 rfl ?_
  refine j_aload_n E dX3_read_16 1 rfl ?_
  refine j_getiN E 10 1 rfl rfl (by decide) (by decide) (iw iT_10) rfl rfl (nw_10_1_X3_44) kv1 dX3_read_17 ?_
  refine j_bipush E (v := 40) dX3_read_20 (by decide) ?_
  refine j_min E (tw W_213) (tw W_7) (tw W_8) (tw W_9) (Nat.le_of_ble_eq_true rfl) (Nat.le_of_ble_eq_true rfl) (Nat.zero_le _) (Nat.zero_le _) dX3_read_22 ?_
  refine j_puti E 3 7 rfl rfl (by decide) (by decide) (iw iT_3) tyX3_ok nmX3 rfl rfl (tw W_187) rfl rfl rfl kv0 dX3_read_25 ?_
  refine j_nmI (fun I24 eI24 => ?_)
  have h := h I24 eI24
  refine j_aload_n E dX3_read_28 1 rfl ?_
  refine j_getiN E 10 1 rfl rfl (by decide) (by decide) (iw iT_10) rfl rfl (nw_10_1_X3_44) kv1 dX3_read_29 ?_
  refine j_if_le E 77 dX3_read_32 (by decide) (fun c25 => ?_) (fun c25 => ?_)
  · have h := h.1 c25
    refine j_sub [0] rfl ?_
    exact ms_X3_read_b77 E hU hZ  v0 I24 L kv0 h
  · have h := h.2 c25
    refine j_aload_n E dX3_read_35 0 rfl ?_
    refine j_aload_n E dX3_read_36 1 rfl ?_
    refine j_iconst E (v := 0) dX3_read_37 (by decide) ?_
    refine j_callVS E hU [.ref v1, .int (0 : Int32)] [] ((hR3 (sa := sa) (sb := sb) (gL G) (gD G) (gY G) 30).1 v0 v1 (0 : Int32) Z I24 L _ hZ kv0 kv1 h) (gwV WS_1242 WS_1243 WS_1244 W_179 WS_1241) rfl ⟨rfl, fy_X3_readExpression⟩ ⟨by decide, by decide⟩ (c := 3) rfl (by decide) kv0 rfl rfl (Nat.le_of_ble_eq_true rfl) ⟨Nat.zero_le _, Nat.zero_le _⟩ dX3_read_38 (fun v26 Z27 I28 L29 q30 => ?_)
    obtain ⟨rfl, rfl, h⟩ := q30
    show jJ G 3 41 [(0, .ref v0), (1, .ref v1)] [] Z I28 L29 0 0
    refine j_aload_n E dX3_read_41 0 rfl ?_
    refine j_geti E 3 8 rfl rfl (by decide) (by decide) (iw iT_3) rfl rfl (tw W_197) kv0 dX3_read_42 ?_
    refine j_iconst E (v := -1) dX3_read_45 (by decide) ?_
    refine j_icmp_ne E 77 dX3_read_46 (by decide) (fun c32 => ?_) (fun c32 => ?_)
    · have h := h.1 c32
      refine j_sub [0] rfl ?_
      exact ms_X3_read_b77 E hU hZ  v0 I28 L29 kv0 h
    · have h := h.2 c32
      refine j_aload_n E dX3_read_49 0 rfl ?_
      refine j_geti E 3 6 rfl rfl (by decide) (by decide) (iw iT_3) rfl rfl (tw W_186) kv0 dX3_read_50 ?_
      refine j_aload_n E dX3_read_53 0 rfl ?_
      refine j_geti E 3 7 rfl rfl (by decide) (by decide) (iw iT_3) rfl rfl (tw W_187) kv0 dX3_read_54 ?_
      refine j_icmp_lt E 69 dX3_read_57 (by decide) (fun c33 => ?_) (fun c33 => ?_)
      · have h := h.1 c33
        refine j_sub [0] rfl ?_
        exact ms_X3_read_b69 E hU hZ  v0 I28 L29 kv0 h
      · have h := h.2 c33
        refine j_aload_n E dX3_read_60 1 rfl ?_
        refine j_getiN E 10 1 rfl rfl (by decide) (by decide) (iw iT_10) rfl rfl (nw_10_1_X3_44) kv1 dX3_read_61 ?_
        refine j_bipush E (v := 40) dX3_read_64 (by decide) ?_
        refine j_icmp_le E 77 dX3_read_66 (by decide) (fun c34 => ?_) (fun c34 => ?_)
        · have h := h.1 c34
          refine j_sub [0] rfl ?_
          exact ms_X3_read_b77 E hU hZ  v0 I28 L29 kv0 h
        · have h := h.2 c34
          refine j_sub [0] rfl ?_
          exact ms_X3_read_b69 E hU hZ  v0 I28 L29 kv0 h
set_option maxRecDepth 100000 in
def fs_X11_law_b45  (Z : jZ) (Q : Int32 → jI → jL → Prop) (v0 : Nat) (v2 : Int32) (I : jI) (L : jL) : Prop := (∀ b1 : Nat, jr Z v0 0 = some b1 → (f_X10_clear b1 Z I L (fun I4 L5 => Q v2 I4 L5)))
set_option maxHeartbeats 4000000 in
set_option maxRecDepth 100000 in
theorem ms_X11_law_b45 {G : jG} {sa sb : Nat} {Z : jZ} {Q : Int32 → jI → jL → Prop} (E : jE G cX11_law RX11 w_X11_law 3 (some .int) { frames := 36, cells := 0, slots := 0, locals := 865 } (rtI Z Q)) (hU : jU sa sb (gA G) (gS G) (gS G).heap) (hZ : SH Z)  (v0 : Nat) (v2 : Int32) (I : jI) (L : jL) (kv0 : jk Z v0 11) (h : fs_X11_law_b45  Z Q v0 v2 I L) : jJ G 3 45 [(0, .ref v0), (2, .int v2)] [] Z I L 0 0 := by
  refine j_aload_n E dX11_law_45 0 rfl ?_
  obtain ⟨b1, eb1, kb1⟩ := sh_o hZ kv0 (j := 0) (k := 10) rfl
  have h := h b1 eb1
  refine j_getr E 11 0 rfl rfl (by decide) (by decide) (iw iT_11) rfl rfl (tw W_422) kv0 eb1 dX11_law_46 ?_
  refine j_callV E [] [] (c_X10_clear (gL G) (gD G) (gY G) b1 Z I L _ hZ kb1 h) (gwV W_451 W_452 W_453 W_189 W_450) rfl ⟨rfl, fy_X10_clear⟩ ⟨by decide, by decide⟩ (c := 10) rfl (by decide) kb1 rfl rfl (Nat.le_of_ble_eq_true rfl) ⟨Nat.zero_le _, Nat.zero_le _⟩ dX11_law_49 (fun v2 Z3 I4 L5 q6 => ?_)
  obtain ⟨rfl, rfl, h⟩ := q6
  show jJ G 3 52 [(0, .ref v0), (2, .int v2)] [] Z I4 L5 0 0
  refine j_iload_n E dX11_law_52 1 rfl ?_
  exact j_ireturn E ⟨rfl, _, rfl, h⟩ (Nat.zero_le _) (Nat.zero_le _) dX11_law_53
set_option maxRecDepth 100000 in
def fs_X11_law (v0 : Nat) (v1 : Int32) (Z : jZ) (I : jI) (L : jL) (Q : Int32 → jI → jL → Prop) : Prop := ((¬ v1 = 0 → ((¬ v1 = (1 : Int32) → fs_X11_law_b45  Z Q v0 (-100 : Int32) I L) ∧ (v1 = (1 : Int32) → (∀ b10 : Nat, jr Z v0 2 = some b10 → (∀ b11 : Nat, jr Z b10 7 = some b11 → (∀ b12 : Nat, jr Z v0 0 = some b12 → (fs_X3_read b11 b12 Z I L (fun r19 I15 L16 => fs_X11_law_b45  Z Q v0 r19 I15 L16)))))))) ∧ (v1 = 0 → (∀ b20 : Nat, jr Z v0 2 = some b20 → (∀ b21 : Nat, jr Z b20 6 = some b21 → (∀ b22 : Nat, jr Z v0 0 = some b22 → (fs_X3_read b21 b22 Z I L (fun r29 I25 L26 => fs_X11_law_b45  Z Q v0 r29 I25 L26)))))))
set_option maxHeartbeats 4000000 in
set_option maxRecDepth 100000 in
theorem cs_X11_law (l : Launch) (D : va_G) (cy : jC) {sa sb : Nat} (v0 : Nat) (v1 : Int32) (Z : jZ) (I : jI) (L : jL) (Q : Int32 → jI → jL → Prop) (hZ : SH Z) (kv0 : jk Z v0 11) (h : fs_X11_law v0 v1 Z I L Q) : jCtS sa sb l yX11_law w_X11_law { frames := 36, cells := 0, slots := 0, locals := 865 } D cy [.ref v0, .int v1] Z I L (rtI Z Q) := by
  refine jCtS_of (cc := cX11_law) (maxL := 3) (ret := (some .int)) (by decide +kernel) rfl (Nat.le_of_ble_eq_true rfl) ?_
  intro G eD eY eL E hU
  subst eD; subst eY; subst eL
  have E : jE G cX11_law RX11 w_X11_law 3 (some .int) { frames := 36, cells := 0, slots := 0, locals := 865 } (rtI Z Q) := E
  show jJ G 3 0 [(0, .ref v0), (1, .int v1)] [] Z I L 0 0
  refine j_bipush E (v := -100) dX11_law_0 (by decide) ?_
  refine j_istore_n E 2 [(2, .int (-100 : Int32)), (0, .ref v0), (1, .int v1)] dX11_law_2 rfl (by decide) rfl ?_
  refine j_iload_n E dX11_law_3 2 rfl ?_
  refine j_if_ne E 25 dX11_law_4 (by decide) (fun c8 => ?_) (fun c8 => ?_)
  · have h := h.1 c8
    refine j_iload_n E dX11_law_25 2 rfl ?_
    refine j_iconst E (v := 1) dX11_law_26 (by decide) ?_
    refine j_icmp_ne E 45 dX11_law_27 (by decide) (fun c9 => ?_) (fun c9 => ?_)
    · have h := h.1 c9
      refine j_sub [1, 0] rfl ?_
      exact ms_X11_law_b45 E hU hZ  v0 (-100 : Int32) I L kv0 h
    · have h := h.2 c9
      refine j_aload_n E dX11_law_30 1 rfl ?_
      obtain ⟨b10, eb10, kb10⟩ := sh_o hZ kv0 (j := 2) (k := 8) rfl
      have h := h b10 eb10
      refine j_getr E 11 2 rfl rfl (by decide) (by decide) (iw iT_11) rfl rfl (tw W_454) kv0 eb10 dX11_law_31 ?_
      obtain ⟨b11, eb11, kb11⟩ := sh_o hZ kb10 (j := 7) (k := 3) rfl
      have h := h b11 eb11
      refine j_getrN E 8 7 rfl rfl (by decide) (by decide) (iw iT_8) rfl rfl (nw_8_7_X11_135) kb10 eb11 dX11_law_34 ?_
      refine j_aload_n E dX11_law_37 1 rfl ?_
      obtain ⟨b12, eb12, kb12⟩ := sh_o hZ kv0 (j := 0) (k := 10) rfl
      have h := h b12 eb12
      refine j_getr E 11 0 rfl rfl (by decide) (by decide) (iw iT_11) rfl rfl (tw W_422) kv0 eb12 dX11_law_38 ?_
      refine j_callVS E hU [.ref b12] [] (cs_X3_read (gL G) (gD G) (gY G) b11 b12 Z I L _ hZ kb11 kb12 h) (gwV W_460 W_461 W_462 W_179 W_459) rfl ⟨rfl, fy_X3_read⟩ ⟨by decide, by decide⟩ (c := 3) rfl (by decide) kb11 rfl rfl (Nat.le_of_ble_eq_true rfl) ⟨Nat.zero_le _, Nat.zero_le _⟩ dX11_law_41 (fun v13 Z14 I15 L16 q17 => ?_)
      obtain ⟨rfl, r19, rfl, h⟩ := q17
      show jJ G 3 44 [(2, .int (-100 : Int32)), (0, .ref v0), (1, .int v1)] [.int r19] Z I15 L16 0 0
      refine j_istore_n E 2 [(2, .int r19), (0, .ref v0), (1, .int v1)] dX11_law_44 rfl (by decide) rfl ?_
      refine j_sub [1, 0] rfl ?_
      exact ms_X11_law_b45 E hU hZ  v0 r19 I15 L16 kv0 h
  · have h := h.2 c8
    refine j_aload_n E dX11_law_7 1 rfl ?_
    obtain ⟨b20, eb20, kb20⟩ := sh_o hZ kv0 (j := 2) (k := 8) rfl
    have h := h b20 eb20
    refine j_getr E 11 2 rfl rfl (by decide) (by decide) (iw iT_11) rfl rfl (tw W_454) kv0 eb20 dX11_law_8 ?_
    obtain ⟨b21, eb21, kb21⟩ := sh_o hZ kb20 (j := 6) (k := 3) rfl
    have h := h b21 eb21
    refine j_getrN E 8 6 rfl rfl (by decide) (by decide) (iw iT_8) rfl rfl (nw_8_6_X11_128) kb20 eb21 dX11_law_11 ?_
    refine j_aload_n E dX11_law_14 1 rfl ?_
    obtain ⟨b22, eb22, kb22⟩ := sh_o hZ kv0 (j := 0) (k := 10) rfl
    have h := h b22 eb22
    refine j_getr E 11 0 rfl rfl (by decide) (by decide) (iw iT_11) rfl rfl (tw W_422) kv0 eb22 dX11_law_15 ?_
    refine j_callVS E hU [.ref b22] [] (cs_X3_read (gL G) (gD G) (gY G) b21 b22 Z I L _ hZ kb21 kb22 h) (gwV W_460 W_461 W_462 W_179 W_459) rfl ⟨rfl, fy_X3_read⟩ ⟨by decide, by decide⟩ (c := 3) rfl (by decide) kb21 rfl rfl (Nat.le_of_ble_eq_true rfl) ⟨Nat.zero_le _, Nat.zero_le _⟩ dX11_law_18 (fun v23 Z24 I25 L26 q27 => ?_)
    obtain ⟨rfl, r29, rfl, h⟩ := q27
    show jJ G 3 21 [(2, .int (-100 : Int32)), (0, .ref v0), (1, .int v1)] [.int r29] Z I25 L26 0 0
    refine j_istore_n E 2 [(2, .int r29), (0, .ref v0), (1, .int v1)] dX11_law_21 rfl (by decide) rfl ?_
    refine j_goto E 45 dX11_law_22 (by decide) ?_
    refine j_sub [1, 0] rfl ?_
    exact ms_X11_law_b45 E hU hZ  v0 r29 I25 L26 kv0 h
end
