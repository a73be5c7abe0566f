def Ws_X12_again : List (Nat × Nat) := [(12, 2), (12, 3), (12, 5), (12, 14), (12, 15), (12, 16), (12, 17), (12, 22), (12, 52), (12, 66)]
set_option maxHeartbeats 4000000 in
set_option maxRecDepth 100000 in
theorem l_X12_again_L175 {Z : jZ} {I0 : jI} {Q : Int32 → jI → jL → Prop} (w0 : WD Z I0) (v0 : Nat) (v1 : Int32) (kv0 : jk Z v0 12) (hQ : ∀ (r : Int32) (I' : jI) (L' : jL), WD Z I' → FR Ws_X12_again Z I0 Z I' → Q r I' L') : ∀ (n : Nat) (v2 : Int32) (I : jI) (L : jL), WD Z I → FR Ws_X12_again Z I0 Z I →   (0 ≤ v2.toInt ∧ v2.toInt ≤ 8 ∧ (I v0 66).toInt = 266 * v1.toInt + 258 + 1 * v2.toInt ∧ 0 ≤ v1.toInt ∧ v1.toInt ≤ 1) → 8 - v2.toInt < (n : Int) → f_X12_again_L175  Z Q n v0 v2 I L := by
  intro n
  induction n with
  | zero =>
    intro v2 I L w_I q_I   li  me
    exfalso
    omega
  | succ n ih =>
    intro v2 I L w_I q_I   li  me
    unfold f_X12_again_L175
    have rv2 := i_rng v2
    have rv1 := i_rng v1
    refine ⟨fun c1 => ?_, fun c1 => ?_⟩
    · skip
      first | (have t2 : (8) ≤ v2.toInt := (i_le (show (8 : Int32).toInt = 8 from rfl) rfl).mp c1) | (have t2 : (8 : Int32).toInt ≤ v2.toInt := (i_le rfl rfl).mp c1) | skip
      intro I3 eI3
      have t4 : (0 : Int32).toInt = 0 := rfl
      have w_I3 : WD Z I3 := by rw [eI3]; exact WD_putF w_I 12 52 kv0 (by decide) (by decide) (by constructor <;> omega)
      have f_I3 : FR [(12, 52)] Z I Z I3 := by rw [eI3]; exact FR_putF kv0 (by decide) List.mem_cons_self
      have q_I3 : FR Ws_X12_again Z I0 Z I3 := q_I.trans w0.1 w0.2.1 (f_I3.mono (by decide))
      have u5 : (I3 v0 66).toInt = (I v0 66).toInt := by rw [f_I3.2.2.1 v0 12 66 kv0 (by decide) (by decide)]
      first | (have u6 : (I3 v0 52).toInt = (0) := by (rw [eI3, show jpI I v0 52 (0 : Int32) v0 52 = (0 : Int32) from jpI_at] <;> exact (show (0 : Int32).toInt = 0 from rfl))) | skip
      have t7 : (1 : Int32).toInt = 1 := rfl
      exact hQ (1 : Int32) I3 L w_I3 q_I3 
    · skip
      first | (have t8 : ¬ ((8) ≤ v2.toInt) := (not_congr (i_le (show (8 : Int32).toInt = 8 from rfl) rfl)).mp c1) | (have t8 : ¬ ((8 : Int32).toInt ≤ v2.toInt) := (not_congr (i_le rfl rfl)).mp c1) | skip
      intro b9 eb9
      obtain ⟨x10, ex10, kb9, lb9⟩ := sh_f w_I.1 kv0 (j := 17) (k := 14) (m := 8) rfl
      cases eb9.symm.trans ex10
      refine s_X12_take w_I v0 kv0  (by omega) (fun r11 I13 L14 w_I13 f_I13 p12 => ?_)
      have q_I13 : FR Ws_X12_again Z I0 Z I13 := q_I.trans w0.1 w0.2.1 (f_I13.mono (by decide))
      have h15 := tkF (k := v1.toInt) (m := (I v0 66).toInt - 266 * v1.toInt) p12.2 (by omega) (by omega) (by omega)
      first | (have h151 := h15.1 (by omega) (by omega)) | (have h151 := h15.2.1 (by omega) (by omega)) | (have h151 := h15.2.2 (by omega) (by omega) (by omega)) | skip
      clear h15
      obtain ⟨p12_0, p12_1⟩ := p12
      have rr11 := i_rng r11
      have o16 : vp_in v2 8 := vi_of rfl (by omega) (by omega)
      refine ⟨o16, ?_⟩
      intro I17 eI17
      have w_I17 : WD Z I17 := by rw [eI17]; exact WD_putA w_I13 12 17 kv0 eb9 kb9 rfl rfl (by decide) trivial
      have f_I17 : FR [(12, 17)] Z I13 Z I17 := by rw [eI17]; exact FR_upA w_I13.2.1 kv0 eb9 kb9 rfl rfl List.mem_cons_self
      have q_I17 : FR Ws_X12_again Z I0 Z I17 := q_I13.trans w0.1 w0.2.1 (f_I17.mono (by decide))
      have u18 : (I17 v0 66).toInt = (I13 v0 66).toInt := by rw [f_I17.2.2.1 v0 12 66 kv0 (by decide) (by decide)]
      intro x19 ex19
      have rx19 := i_rng x19
      first | (have tx19 : x19.toInt = v2.toInt + (1) := by (rw [ex19]; exact (i_add rfl (show (1 : Int32).toInt = 1 from rfl) (by omega) (by omega)))) | skip
      exact ih x19 I17 L14 w_I17 q_I17   (by omega)  (by omega)
set_option maxHeartbeats 4000000 in
set_option maxRecDepth 100000 in
theorem l_X12_again_L108 {Z : jZ} {I0 : jI} {Q : Int32 → jI → jL → Prop} (w0 : WD Z I0) (v0 : Nat) (v1 : Int32) (kv0 : jk Z v0 12) (hQ : ∀ (r : Int32) (I' : jI) (L' : jL), WD Z I' → FR Ws_X12_again Z I0 Z I' → Q r I' L') : ∀ (n : Nat) (v2 : Int32) (I : jI) (L : jL), WD Z I → FR Ws_X12_again Z I0 Z I →   (0 ≤ v2.toInt ∧ v2.toInt ≤ 6 ∧ (I v0 66).toInt = 266 * v1.toInt + 240 + 3 * v2.toInt ∧ 0 ≤ v1.toInt ∧ v1.toInt ≤ 1) → 6 - v2.toInt < (n : Int) → f_X12_again_L108  Z Q n v0 v1 v2 I L := by
  intro n
  induction n with
  | zero =>
    intro v2 I L w_I q_I   li  me
    exfalso
    omega
  | succ n ih =>
    intro v2 I L w_I q_I   li  me
    unfold f_X12_again_L108
    have rv2 := i_rng v2
    have rv1 := i_rng v1
    refine ⟨fun c20 => ?_, fun c20 => ?_⟩
    · skip
      first | (have t21 : (6) ≤ v2.toInt := (i_le (show (6 : Int32).toInt = 6 from rfl) rfl).mp c20) | (have t21 : (6 : Int32).toInt ≤ v2.toInt := (i_le rfl rfl).mp c20) | skip
      have t22 : (0 : Int32).toInt = 0 := rfl
      exact ⟨(8 - (0 : Int32).toInt).toNat + 1, l_X12_again_L175 w0 v0 v1 kv0   hQ   _ (0 : Int32) I L w_I q_I   (by omega)  (by omega)⟩
    · skip
      first | (have t23 : ¬ ((6) ≤ v2.toInt) := (not_congr (i_le (show (6 : Int32).toInt = 6 from rfl) rfl)).mp c20) | (have t23 : ¬ ((6 : Int32).toInt ≤ v2.toInt) := (not_congr (i_le rfl rfl)).mp c20) | skip
      refine s_X12_take w_I v0 kv0  (by omega) (fun r24 I26 L27 w_I26 f_I26 p25 => ?_)
      have q_I26 : FR Ws_X12_again Z I0 Z I26 := q_I.trans w0.1 w0.2.1 (f_I26.mono (by decide))
      have h28 := tkF (k := v1.toInt) (m := (I v0 66).toInt - 266 * v1.toInt) p25.2 (by omega) (by omega) (by omega)
      first | (have h281 := h28.1 (by omega) (by omega)) | (have h281 := h28.2.1 (by omega) (by omega)) | (have h281 := h28.2.2 (by omega) (by omega) (by omega)) | skip
      clear h28
      obtain ⟨p25_0, p25_1⟩ := p25
      have rr24 := i_rng r24
      refine s_X12_take w_I26 v0 kv0  (by omega) (fun r29 I31 L32 w_I31 f_I31 p30 => ?_)
      have q_I31 : FR Ws_X12_again Z I0 Z I31 := q_I26.trans w0.1 w0.2.1 (f_I31.mono (by decide))
      have h33 := tkF (k := v1.toInt) (m := (I26 v0 66).toInt - 266 * v1.toInt) p30.2 (by omega) (by omega) (by omega)
      first | (have h331 := h33.1 (by omega) (by omega)) | (have h331 := h33.2.1 (by omega) (by omega)) | (have h331 := h33.2.2 (by omega) (by omega) (by omega)) | skip
      clear h33
      obtain ⟨p30_0, p30_1⟩ := p30
      have rr29 := i_rng r29
      refine s_X12_take w_I31 v0 kv0  (by omega) (fun r34 I36 L37 w_I36 f_I36 p35 => ?_)
      have q_I36 : FR Ws_X12_again Z I0 Z I36 := q_I31.trans w0.1 w0.2.1 (f_I36.mono (by decide))
      have h38 := tkF (k := v1.toInt) (m := (I31 v0 66).toInt - 266 * v1.toInt) p35.2 (by omega) (by omega) (by omega)
      first | (have h381 := h38.1 (by omega) (by omega)) | (have h381 := h38.2.1 (by omega) (by omega)) | (have h381 := h38.2.2 (by omega) (by omega) (by omega)) | skip
      clear h38
      obtain ⟨p35_0, p35_1⟩ := p35
      have rr34 := i_rng r34
      intro b39 eb39
      obtain ⟨x40, ex40, kb39, lb39⟩ := sh_f w_I36.1 kv0 (j := 65) (k := 14) (m := 2) rfl
      cases eb39.symm.trans ex40
      have o41 : vp_in v1 2 := vi_of rfl (by omega) (by omega)
      refine ⟨o41, ?_⟩
      refine ⟨fun c42 => ?_, fun c42 => ?_⟩
      · skip
        first | (have t43 : v2.toInt < (I36 b39 v1.toNatClampNeg).toInt := (i_lt rfl rfl).mp c42) | (have t43 : v2.toInt < (I36 b39 v1.toNatClampNeg).toInt := (i_lt rfl rfl).mp c42) | skip
        intro b44 eb44
        obtain ⟨x45, ex45, kb44, lb44⟩ := sh_f w_I36.1 kv0 (j := 14) (k := 14) (m := 6) rfl
        cases eb44.symm.trans ex45
        have o46 : vp_in v2 6 := vi_of rfl (by omega) (by omega)
        refine ⟨o46, ?_⟩
        intro I47 eI47
        have w_I47 : WD Z I47 := by rw [eI47]; exact WD_putA w_I36 12 14 kv0 eb44 kb44 rfl rfl (by decide) (by constructor <;> omega)
        have f_I47 : FR [(12, 14)] Z I36 Z I47 := by rw [eI47]; exact FR_upA w_I36.2.1 kv0 eb44 kb44 rfl rfl List.mem_cons_self
        have q_I47 : FR Ws_X12_again Z I0 Z I47 := q_I36.trans w0.1 w0.2.1 (f_I47.mono (by decide))
        have u48 : (I47 v0 66).toInt = (I36 v0 66).toInt := by rw [f_I47.2.2.1 v0 12 66 kv0 (by decide) (by decide)]
        intro b49 eb49
        obtain ⟨x50, ex50, kb49, lb49⟩ := sh_f w_I47.1 kv0 (j := 15) (k := 14) (m := 6) rfl
        cases eb49.symm.trans ex50
        have o51 : vp_in v2 6 := vi_of rfl (by omega) (by omega)
        refine ⟨o51, ?_⟩
        intro I52 eI52
        have w_I52 : WD Z I52 := by rw [eI52]; exact WD_putA w_I47 12 15 kv0 eb49 kb49 rfl rfl (by decide) trivial
        have f_I52 : FR [(12, 15)] Z I47 Z I52 := by rw [eI52]; exact FR_upA w_I47.2.1 kv0 eb49 kb49 rfl rfl List.mem_cons_self
        have q_I52 : FR Ws_X12_again Z I0 Z I52 := q_I47.trans w0.1 w0.2.1 (f_I52.mono (by decide))
        have u53 : (I52 v0 66).toInt = (I47 v0 66).toInt := by rw [f_I52.2.2.1 v0 12 66 kv0 (by decide) (by decide)]
        intro b54 eb54
        obtain ⟨x55, ex55, kb54, lb54⟩ := sh_f w_I52.1 kv0 (j := 16) (k := 14) (m := 6) rfl
        cases eb54.symm.trans ex55
        have o56 : vp_in v2 6 := vi_of rfl (by omega) (by omega)
        refine ⟨o56, ?_⟩
        intro I57 eI57
        have w_I57 : WD Z I57 := by rw [eI57]; exact WD_putA w_I52 12 16 kv0 eb54 kb54 rfl rfl (by decide) trivial
        have f_I57 : FR [(12, 16)] Z I52 Z I57 := by rw [eI57]; exact FR_upA w_I52.2.1 kv0 eb54 kb54 rfl rfl List.mem_cons_self
        have q_I57 : FR Ws_X12_again Z I0 Z I57 := q_I52.trans w0.1 w0.2.1 (f_I57.mono (by decide))
        have u58 : (I57 v0 66).toInt = (I52 v0 66).toInt := by rw [f_I57.2.2.1 v0 12 66 kv0 (by decide) (by decide)]
        unfold f_X12_again_b167
        intro x59 ex59
        have rx59 := i_rng x59
        first | (have tx59 : x59.toInt = v2.toInt + (1) := by (rw [ex59]; exact (i_add rfl (show (1 : Int32).toInt = 1 from rfl) (by omega) (by omega)))) | skip
        exact ih x59 I57 L37 w_I57 q_I57   (by omega)  (by omega)
      · skip
        first | (have t60 : ¬ (v2.toInt < (I36 b39 v1.toNatClampNeg).toInt) := (not_congr (i_lt rfl rfl)).mp c42) | (have t60 : ¬ (v2.toInt < (I36 b39 v1.toNatClampNeg).toInt) := (not_congr (i_lt rfl rfl)).mp c42) | skip
        unfold f_X12_again_b167
        intro x61 ex61
        have rx61 := i_rng x61
        first | (have tx61 : x61.toInt = v2.toInt + (1) := by (rw [ex61]; exact (i_add rfl (show (1 : Int32).toInt = 1 from rfl) (by omega) (by omega)))) | skip
        exact ih x61 I36 L37 w_I36 q_I36   (by omega)  (by omega)
set_option maxHeartbeats 4000000 in
set_option maxRecDepth 100000 in
theorem l_X12_again_L83 {Z : jZ} {I0 : jI} {Q : Int32 → jI → jL → Prop} (w0 : WD Z I0) (v0 : Nat) (v1 : Int32) (kv0 : jk Z v0 12) (hQ : ∀ (r : Int32) (I' : jI) (L' : jL), WD Z I' → FR Ws_X12_again Z I0 Z I' → Q r I' L') : ∀ (n : Nat) (v2 : Int32) (I : jI) (L : jL), WD Z I → FR Ws_X12_again Z I0 Z I →   (0 ≤ v2.toInt ∧ v2.toInt ≤ 192 ∧ (I v0 66).toInt = 266 * v1.toInt + 48 + 1 * v2.toInt ∧ 0 ≤ v1.toInt ∧ v1.toInt ≤ 1) → 192 - v2.toInt < (n : Int) → f_X12_again_L83  Z Q n v0 v1 v2 I L := by
  intro n
  induction n with
  | zero =>
    intro v2 I L w_I q_I   li  me
    exfalso
    omega
  | succ n ih =>
    intro v2 I L w_I q_I   li  me
    unfold f_X12_again_L83
    have rv2 := i_rng v2
    have rv1 := i_rng v1
    refine ⟨fun c62 => ?_, fun c62 => ?_⟩
    · skip
      first | (have t63 : (192) ≤ v2.toInt := (i_le (show (192 : Int32).toInt = 192 from rfl) rfl).mp c62) | (have t63 : (192 : Int32).toInt ≤ v2.toInt := (i_le rfl rfl).mp c62) | skip
      have t64 : (0 : Int32).toInt = 0 := rfl
      exact ⟨(6 - (0 : Int32).toInt).toNat + 1, l_X12_again_L108 w0 v0 v1 kv0   hQ   _ (0 : Int32) I L w_I q_I   (by omega)  (by omega)⟩
    · skip
      first | (have t65 : ¬ ((192) ≤ v2.toInt) := (not_congr (i_le (show (192 : Int32).toInt = 192 from rfl) rfl)).mp c62) | (have t65 : ¬ ((192 : Int32).toInt ≤ v2.toInt) := (not_congr (i_le rfl rfl)).mp c62) | skip
      intro b66 eb66
      obtain ⟨x67, ex67, kb66, lb66⟩ := sh_f w_I.1 kv0 (j := 5) (k := 14) (m := 192) rfl
      cases eb66.symm.trans ex67
      refine s_X12_take w_I v0 kv0  (by omega) (fun r68 I70 L71 w_I70 f_I70 p69 => ?_)
      have q_I70 : FR Ws_X12_again Z I0 Z I70 := q_I.trans w0.1 w0.2.1 (f_I70.mono (by decide))
      have h72 := tkF (k := v1.toInt) (m := (I v0 66).toInt - 266 * v1.toInt) p69.2 (by omega) (by omega) (by omega)
      first | (have h721 := h72.1 (by omega) (by omega)) | (have h721 := h72.2.1 (by omega) (by omega)) | (have h721 := h72.2.2 (by omega) (by omega) (by omega)) | skip
      clear h72
      obtain ⟨p69_0, p69_1⟩ := p69
      have rr68 := i_rng r68
      have o73 : vp_in v2 192 := vi_of rfl (by omega) (by omega)
      refine ⟨o73, ?_⟩
      intro I74 eI74
      have w_I74 : WD Z I74 := by rw [eI74]; exact WD_putA w_I70 12 5 kv0 eb66 kb66 rfl rfl (by decide) trivial
      have f_I74 : FR [(12, 5)] Z I70 Z I74 := by rw [eI74]; exact FR_upA w_I70.2.1 kv0 eb66 kb66 rfl rfl List.mem_cons_self
      have q_I74 : FR Ws_X12_again Z I0 Z I74 := q_I70.trans w0.1 w0.2.1 (f_I74.mono (by decide))
      have u75 : (I74 v0 66).toInt = (I70 v0 66).toInt := by rw [f_I74.2.2.1 v0 12 66 kv0 (by decide) (by decide)]
      intro x76 ex76
      have rx76 := i_rng x76
      first | (have tx76 : x76.toInt = v2.toInt + (1) := by (rw [ex76]; exact (i_add rfl (show (1 : Int32).toInt = 1 from rfl) (by omega) (by omega)))) | skip
      exact ih x76 I74 L71 w_I74 q_I74   (by omega)  (by omega)
set_option maxHeartbeats 4000000 in
set_option maxRecDepth 100000 in
theorem l_X12_again_L49 {Z : jZ} {I0 : jI} {Q : Int32 → jI → jL → Prop} (w0 : WD Z I0) (v0 : Nat) (v1 : Int32) (kv0 : jk Z v0 12) (hQ : ∀ (r : Int32) (I' : jI) (L' : jL), WD Z I' → FR Ws_X12_again Z I0 Z I' → Q r I' L') : ∀ (n : Nat) (v2 : Int32) (I : jI) (L : jL), WD Z I → FR Ws_X12_again Z I0 Z I →   (0 ≤ v2.toInt ∧ v2.toInt ≤ 24 ∧ (I v0 66).toInt = 266 * v1.toInt + 0 + 2 * v2.toInt ∧ 0 ≤ v1.toInt ∧ v1.toInt ≤ 1) → 24 - v2.toInt < (n : Int) → f_X12_again_L49  Z Q n v0 v1 v2 I L := by
  intro n
  induction n with
  | zero =>
    intro v2 I L w_I q_I   li  me
    exfalso
    omega
  | succ n ih =>
    intro v2 I L w_I q_I   li  me
    unfold f_X12_again_L49
    have rv2 := i_rng v2
    have rv1 := i_rng v1
    refine ⟨fun c77 => ?_, fun c77 => ?_⟩
    · skip
      first | (have t78 : (24) ≤ v2.toInt := (i_le (show (24 : Int32).toInt = 24 from rfl) rfl).mp c77) | (have t78 : (24 : Int32).toInt ≤ v2.toInt := (i_le rfl rfl).mp c77) | skip
      have t79 : (0 : Int32).toInt = 0 := rfl
      exact ⟨(192 - (0 : Int32).toInt).toNat + 1, l_X12_again_L83 w0 v0 v1 kv0   hQ   _ (0 : Int32) I L w_I q_I   (by omega)  (by omega)⟩
    · skip
      first | (have t80 : ¬ ((24) ≤ v2.toInt) := (not_congr (i_le (show (24 : Int32).toInt = 24 from rfl) rfl)).mp c77) | (have t80 : ¬ ((24 : Int32).toInt ≤ v2.toInt) := (not_congr (i_le rfl rfl)).mp c77) | skip
      intro b81 eb81
      obtain ⟨x82, ex82, kb81, lb81⟩ := sh_f w_I.1 kv0 (j := 2) (k := 14) (m := 24) rfl
      cases eb81.symm.trans ex82
      refine s_X12_take w_I v0 kv0  (by omega) (fun r83 I85 L86 w_I85 f_I85 p84 => ?_)
      have q_I85 : FR Ws_X12_again Z I0 Z I85 := q_I.trans w0.1 w0.2.1 (f_I85.mono (by decide))
      have h87 := tkF (k := v1.toInt) (m := (I v0 66).toInt - 266 * v1.toInt) p84.2 (by omega) (by omega) (by omega)
      first | (have h871 := h87.1 (by omega) (by omega)) | (have h871 := h87.2.1 (by omega) (by omega)) | (have h871 := h87.2.2 (by omega) (by omega) (by omega)) | skip
      clear h87
      obtain ⟨p84_0, p84_1⟩ := p84
      have rr83 := i_rng r83
      have o88 : vp_in v2 24 := vi_of rfl (by omega) (by omega)
      refine ⟨o88, ?_⟩
      intro I89 eI89
      have w_I89 : WD Z I89 := by rw [eI89]; exact WD_putA w_I85 12 2 kv0 eb81 kb81 rfl rfl (by decide) (by constructor <;> omega)
      have f_I89 : FR [(12, 2)] Z I85 Z I89 := by rw [eI89]; exact FR_upA w_I85.2.1 kv0 eb81 kb81 rfl rfl List.mem_cons_self
      have q_I89 : FR Ws_X12_again Z I0 Z I89 := q_I85.trans w0.1 w0.2.1 (f_I89.mono (by decide))
      have u90 : (I89 v0 66).toInt = (I85 v0 66).toInt := by rw [f_I89.2.2.1 v0 12 66 kv0 (by decide) (by decide)]
      intro b91 eb91
      obtain ⟨x92, ex92, kb91, lb91⟩ := sh_f w_I89.1 kv0 (j := 3) (k := 14) (m := 24) rfl
      cases eb91.symm.trans ex92
      refine s_X12_take w_I89 v0 kv0  (by omega) (fun r93 I95 L96 w_I95 f_I95 p94 => ?_)
      have q_I95 : FR Ws_X12_again Z I0 Z I95 := q_I89.trans w0.1 w0.2.1 (f_I95.mono (by decide))
      have h97 := tkF (k := v1.toInt) (m := (I89 v0 66).toInt - 266 * v1.toInt) p94.2 (by omega) (by omega) (by omega)
      first | (have h971 := h97.1 (by omega) (by omega)) | (have h971 := h97.2.1 (by omega) (by omega)) | (have h971 := h97.2.2 (by omega) (by omega) (by omega)) | skip
      clear h97
      obtain ⟨p94_0, p94_1⟩ := p94
      have rr93 := i_rng r93
      have o98 : vp_in v2 24 := vi_of rfl (by omega) (by omega)
      refine ⟨o98, ?_⟩
      intro I99 eI99
      have w_I99 : WD Z I99 := by rw [eI99]; exact WD_putA w_I95 12 3 kv0 eb91 kb91 rfl rfl (by decide) (by constructor <;> omega)
      have f_I99 : FR [(12, 3)] Z I95 Z I99 := by rw [eI99]; exact FR_upA w_I95.2.1 kv0 eb91 kb91 rfl rfl List.mem_cons_self
      have q_I99 : FR Ws_X12_again Z I0 Z I99 := q_I95.trans w0.1 w0.2.1 (f_I99.mono (by decide))
      have u100 : (I99 v0 66).toInt = (I95 v0 66).toInt := by rw [f_I99.2.2.1 v0 12 66 kv0 (by decide) (by decide)]
      intro x101 ex101
      have rx101 := i_rng x101
      first | (have tx101 : x101.toInt = v2.toInt + (1) := by (rw [ex101]; exact (i_add rfl (show (1 : Int32).toInt = 1 from rfl) (by omega) (by omega)))) | skip
      exact ih x101 I99 L96 w_I99 q_I99   (by omega)  (by omega)
set_option maxHeartbeats 4000000 in
set_option maxRecDepth 100000 in
theorem s_X12_again {Z : jZ} {I : jI} {L : jL} (w_I : WD Z I) (v0 : Nat) (v1 : Int32) (kv0 : jk Z v0 12) {Q : Int32 → jI → jL → Prop} (hQ : ∀ (r : Int32) (I' : jI) (L' : jL), WD Z I' → FR Ws_X12_again Z I Z I' → Q r I' L') : f_X12_again v0 v1 Z I L Q := by
  unfold f_X12_again
  have q_I : FR Ws_X12_again Z I Z I := FR.rf
  have rv1 := i_rng v1
  intro I102 eI102
  have t103 : (0 : Int32).toInt = 0 := rfl
  have w_I102 : WD Z I102 := by rw [eI102]; exact WD_putF w_I 12 22 kv0 (by decide) (by decide) trivial
  have f_I102 : FR [(12, 22)] Z I Z I102 := by rw [eI102]; exact FR_putF kv0 (by decide) List.mem_cons_self
  have q_I102 : FR Ws_X12_again Z I Z I102 := q_I.trans w_I.1 w_I.2.1 (f_I102.mono (by decide))
  have u104 : (I102 v0 66).toInt = (I v0 66).toInt := by rw [f_I102.2.2.1 v0 12 66 kv0 (by decide) (by decide)]
  first | (have u105 : (I102 v0 22).toInt = (0) := by (rw [eI102, show jpI I v0 22 (0 : Int32) v0 22 = (0 : Int32) from jpI_at] <;> exact (show (0 : Int32).toInt = 0 from rfl))) | skip
  have t106 : (0 : Int32).toInt = 0 := rfl
  have t107 : (1 : Int32).toInt = 1 := rfl
  refine s_X12_in w_I102 v1 (0 : Int32) (1 : Int32)    (fun r108 p109 => ?_)
  have rr108 := i_rng r108
  refine ⟨fun c110 => ?_, fun c110 => ?_⟩
  · skip
    first | (have t111 : r108.toInt = (0) := (i_eq rfl (show (0 : Int32).toInt = 0 from rfl)).mp c110) | (have t111 : r108.toInt = (0 : Int32).toInt := (i_eq rfl rfl).mp c110) | skip
    have t112 : (0 : Int32).toInt = 0 := rfl
    exact hQ (0 : Int32) I102 L w_I102 q_I102 
  · skip
    first | (have t113 : ¬ (r108.toInt = (0)) := (not_congr (i_eq rfl (show (0 : Int32).toInt = 0 from rfl))).mp c110) | (have t113 : ¬ (r108.toInt = (0 : Int32).toInt) := (not_congr (i_eq rfl rfl)).mp c110) | skip
    intro b114 eb114
    obtain ⟨x115, ex115, kb114, lb114⟩ := sh_f w_I102.1 kv0 (j := 63) (k := 16) (m := 2) rfl
    cases eb114.symm.trans ex115
    have o116 : vp_in v1 2 := vi_of rfl (by omega) (by omega)
    refine ⟨o116, ?_⟩
    refine ⟨fun c117 => ?_, fun c117 => ?_⟩
    · skip
      first | (have t118 : (I102 b114 v1.toNatClampNeg).toInt = (0) := (i_eq rfl (show (0 : Int32).toInt = 0 from rfl)).mp c117) | (have t118 : (I102 b114 v1.toNatClampNeg).toInt = (0 : Int32).toInt := (i_eq rfl rfl).mp c117) | skip
      have t119 : (0 : Int32).toInt = 0 := rfl
      exact hQ (0 : Int32) I102 L w_I102 q_I102 
    · skip
      first | (have t120 : ¬ ((I102 b114 v1.toNatClampNeg).toInt = (0)) := (not_congr (i_eq rfl (show (0 : Int32).toInt = 0 from rfl))).mp c117) | (have t120 : ¬ ((I102 b114 v1.toNatClampNeg).toInt = (0 : Int32).toInt) := (not_congr (i_eq rfl rfl)).mp c117) | skip
      intro b121 eb121
      obtain ⟨x122, ex122, kb121, lb121⟩ := sh_f w_I102.1 kv0 (j := 64) (k := 14) (m := 2) rfl
      cases eb121.symm.trans ex122
      have o123 : vp_in v1 2 := vi_of rfl (by omega) (by omega)
      refine ⟨o123, ?_⟩
      refine ⟨fun c124 => ?_, fun c124 => ?_⟩
      · skip
        first | (have t125 : (I102 b121 v1.toNatClampNeg).toInt = (I102 v0 7).toInt := (i_eq rfl rfl).mp c124) | (have t125 : (I102 b121 v1.toNatClampNeg).toInt = (I102 v0 7).toInt := (i_eq rfl rfl).mp c124) | skip
        intro I126 eI126
        try (have t127 : ((266 : Int32) * v1).toInt = ((266) * v1.toInt) := (i_mul (show (266 : Int32).toInt = 266 from rfl) rfl (by omega) (by omega)))
        have w_I126 : WD Z I126 := by rw [eI126]; exact WD_putF w_I102 12 66 kv0 (by decide) (by decide) trivial
        have f_I126 : FR [(12, 66)] Z I102 Z I126 := by rw [eI126]; exact FR_putF kv0 (by decide) List.mem_cons_self
        have q_I126 : FR Ws_X12_again Z I Z I126 := q_I102.trans w_I.1 w_I.2.1 (f_I126.mono (by decide))
        have u128 : (I126 v0 22).toInt = (I102 v0 22).toInt := by rw [f_I126.2.2.1 v0 12 22 kv0 (by decide) (by decide)]
        have u129 : (I126 v0 7).toInt = (I102 v0 7).toInt := by rw [f_I126.2.2.1 v0 12 7 kv0 (by decide) (by decide)]
        first | (have u130 : (I126 v0 66).toInt = ((266) * v1.toInt) := by (rw [eI126, show jpI I102 v0 66 ((266 : Int32) * v1) v0 66 = ((266 : Int32) * v1) from jpI_at] <;> exact (i_mul (show (266 : Int32).toInt = 266 from rfl) rfl (by omega) (by omega)))) | skip
        have t131 : (0 : Int32).toInt = 0 := rfl
        exact ⟨(24 - (0 : Int32).toInt).toNat + 1, l_X12_again_L49 w_I v0 v1 kv0   hQ   _ (0 : Int32) I126 L w_I126 q_I126   (by omega)  (by omega)⟩
      · skip
        first | (have t132 : ¬ ((I102 b121 v1.toNatClampNeg).toInt = (I102 v0 7).toInt) := (not_congr (i_eq rfl rfl)).mp c124) | (have t132 : ¬ ((I102 b121 v1.toNatClampNeg).toInt = (I102 v0 7).toInt) := (not_congr (i_eq rfl rfl)).mp c124) | skip
        have t133 : (0 : Int32).toInt = 0 := rfl
        exact hQ (0 : Int32) I102 L w_I102 q_I102 
