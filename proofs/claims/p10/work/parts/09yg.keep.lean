def Wag : List (Nat × Nat) := [(12, 14), (12, 15), (12, 16), (12, 17), (12, 52), (12, 66)]
set_option maxHeartbeats 4000000 in
set_option maxRecDepth 100000 in
theorem l13_X12_again_L175 {Z : jZ} {I0 : jI} {Q : Int32 → jI → jL → Prop} (w0 : WD Z I0) (v0 : Nat) (v1 : Int32) (kv0 : jk Z v0 12) (hQ : ∀ (I' : jI) (L' : jL), WD Z I' → FR Wag Z I0 Z I' → (I' v0 52).toInt = 0 → Q (1 : Int32) I' L') : ∀ (n : Nat) (v2 : Int32) (I : jI) (L : jL), WD Z I → FR Wag Z I0 Z I →   (0 ≤ v2.toInt ∧ v2.toInt ≤ 8 ∧ (I v0 66).toInt = 266 * v1.toInt + 258 + 1 * v2.toInt ∧ 0 ≤ v1.toInt ∧ v1.toInt ≤ 1) → 8 - v2.toInt < (n : Int) → f_X12_again_L175  Z Q n v0 v2 I L := by
  intro n
  induction n with
  | zero =>
    intro v2 I L w_I q_I   li  me
    exfalso
    omega
  | succ n ih =>
    intro v2 I L w_I q_I   li  me
    unfold f_X12_again_L175
    have rv2 := i_rng v2
    have rv1 := i_rng v1
    refine ⟨fun c1 => ?_, fun c1 => ?_⟩
    · skip
      first | (have t2 : (8) ≤ v2.toInt := (i_le (show (8 : Int32).toInt = 8 from rfl) rfl).mp c1) | (have t2 : (8 : Int32).toInt ≤ v2.toInt := (i_le rfl rfl).mp c1) | skip
      intro I3 eI3
      have t4 : (0 : Int32).toInt = 0 := rfl
      have w_I3 : WD Z I3 := by rw [eI3]; exact WD_putF w_I 12 52 kv0 (by decide) (by decide) (by constructor <;> omega)
      have f_I3 : FR [(12, 52)] Z I Z I3 := by rw [eI3]; exact FR_putF kv0 (by decide) List.mem_cons_self
      have q_I3 : FR Wag Z I0 Z I3 := q_I.trans w0.1 w0.2.1 (f_I3.mono (by decide))
      have u5 : (I3 v0 66).toInt = (I v0 66).toInt := by rw [f_I3.2.2.1 v0 12 66 kv0 (by decide) (by decide)]
      first | (have u6 : (I3 v0 52).toInt = (0) := by (rw [eI3, show jpI I v0 52 (0 : Int32) v0 52 = (0 : Int32) from jpI_at] <;> exact (show (0 : Int32).toInt = 0 from rfl))) | skip
      have t7 : (1 : Int32).toInt = 1 := rfl
      exact hQ I3 L w_I3 q_I3 (by rw [eI3, jpI_at]; rfl)
    · skip
      first | (have t8 : ¬ ((8) ≤ v2.toInt) := (not_congr (i_le (show (8 : Int32).toInt = 8 from rfl) rfl)).mp c1) | (have t8 : ¬ ((8 : Int32).toInt ≤ v2.toInt) := (not_congr (i_le rfl rfl)).mp c1) | skip
      intro b9 eb9
      obtain ⟨x10, ex10, kb9, lb9⟩ := sh_f w_I.1 kv0 (j := 17) (k := 14) (m := 8) rfl
      cases eb9.symm.trans ex10
      refine s_X12_take w_I v0 kv0  (by omega) (fun r11 I13 L14 w_I13 f_I13 p12 => ?_)
      have q_I13 : FR Wag Z I0 Z I13 := q_I.trans w0.1 w0.2.1 (f_I13.mono (by decide))
      have h15 := tkF (k := v1.toInt) (m := (I v0 66).toInt - 266 * v1.toInt) p12.2 (by omega) (by omega) (by omega)
      first | (have h151 := h15.1 (by omega) (by omega)) | (have h151 := h15.2.1 (by omega) (by omega)) | (have h151 := h15.2.2 (by omega) (by omega) (by omega)) | skip
      clear h15
      obtain ⟨p12_0, p12_1⟩ := p12
      have rr11 := i_rng r11
      have o16 : vp_in v2 8 := vi_of rfl (by omega) (by omega)
      refine ⟨o16, ?_⟩
      intro I17 eI17
      have w_I17 : WD Z I17 := by rw [eI17]; exact WD_putA w_I13 12 17 kv0 eb9 kb9 rfl rfl (by decide) trivial
      have f_I17 : FR [(12, 17)] Z I13 Z I17 := by rw [eI17]; exact FR_upA w_I13.2.1 kv0 eb9 kb9 rfl rfl List.mem_cons_self
      have q_I17 : FR Wag Z I0 Z I17 := q_I13.trans w0.1 w0.2.1 (f_I17.mono (by decide))
      have u18 : (I17 v0 66).toInt = (I13 v0 66).toInt := by rw [f_I17.2.2.1 v0 12 66 kv0 (by decide) (by decide)]
      intro x19 ex19
      have rx19 := i_rng x19
      first | (have tx19 : x19.toInt = v2.toInt + (1) := by (rw [ex19]; exact (i_add rfl (show (1 : Int32).toInt = 1 from rfl) (by omega) (by omega)))) | skip
      exact ih x19 I17 L14 w_I17 q_I17   (by omega)  (by omega)
set_option maxHeartbeats 4000000 in
set_option maxRecDepth 100000 in
theorem l13_X12_again_L108 {Z : jZ} {I0 : jI} {Q : Int32 → jI → jL → Prop} (w0 : WD Z I0) (v0 : Nat) (v1 : Int32) (kv0 : jk Z v0 12) (hQ : ∀ (I' : jI) (L' : jL), WD Z I' → FR Wag Z I0 Z I' → (I' v0 52).toInt = 0 → Q (1 : Int32) I' L') : ∀ (n : Nat) (v2 : Int32) (I : jI) (L : jL), WD Z I → FR Wag Z I0 Z I →   (0 ≤ v2.toInt ∧ v2.toInt ≤ 6 ∧ (I v0 66).toInt = 266 * v1.toInt + 240 + 3 * v2.toInt ∧ 0 ≤ v1.toInt ∧ v1.toInt ≤ 1) → 6 - v2.toInt < (n : Int) → f_X12_again_L108  Z Q n v0 v1 v2 I L := by
  intro n
  induction n with
  | zero =>
    intro v2 I L w_I q_I   li  me
    exfalso
    omega
  | succ n ih =>
    intro v2 I L w_I q_I   li  me
    unfold f_X12_again_L108
    have rv2 := i_rng v2
    have rv1 := i_rng v1
    refine ⟨fun c20 => ?_, fun c20 => ?_⟩
    · skip
      first | (have t21 : (6) ≤ v2.toInt := (i_le (show (6 : Int32).toInt = 6 from rfl) rfl).mp c20) | (have t21 : (6 : Int32).toInt ≤ v2.toInt := (i_le rfl rfl).mp c20) | skip
      have t22 : (0 : Int32).toInt = 0 := rfl
      exact ⟨(8 - (0 : Int32).toInt).toNat + 1, l13_X12_again_L175 w0 v0 v1 kv0   hQ   _ (0 : Int32) I L w_I q_I   (by omega)  (by omega)⟩
    · skip
      first | (have t23 : ¬ ((6) ≤ v2.toInt) := (not_congr (i_le (show (6 : Int32).toInt = 6 from rfl) rfl)).mp c20) | (have t23 : ¬ ((6 : Int32).toInt ≤ v2.toInt) := (not_congr (i_le rfl rfl)).mp c20) | skip
      refine s_X12_take w_I v0 kv0  (by omega) (fun r24 I26 L27 w_I26 f_I26 p25 => ?_)
      have q_I26 : FR Wag Z I0 Z I26 := q_I.trans w0.1 w0.2.1 (f_I26.mono (by decide))
      have h28 := tkF (k := v1.toInt) (m := (I v0 66).toInt - 266 * v1.toInt) p25.2 (by omega) (by omega) (by omega)
      first | (have h281 := h28.1 (by omega) (by omega)) | (have h281 := h28.2.1 (by omega) (by omega)) | (have h281 := h28.2.2 (by omega) (by omega) (by omega)) | skip
      clear h28
      obtain ⟨p25_0, p25_1⟩ := p25
      have rr24 := i_rng r24
      refine s_X12_take w_I26 v0 kv0  (by omega) (fun r29 I31 L32 w_I31 f_I31 p30 => ?_)
      have q_I31 : FR Wag Z I0 Z I31 := q_I26.trans w0.1 w0.2.1 (f_I31.mono (by decide))
      have h33 := tkF (k := v1.toInt) (m := (I26 v0 66).toInt - 266 * v1.toInt) p30.2 (by omega) (by omega) (by omega)
      first | (have h331 := h33.1 (by omega) (by omega)) | (have h331 := h33.2.1 (by omega) (by omega)) | (have h331 := h33.2.2 (by omega) (by omega) (by omega)) | skip
      clear h33
      obtain ⟨p30_0, p30_1⟩ := p30
      have rr29 := i_rng r29
      refine s_X12_take w_I31 v0 kv0  (by omega) (fun r34 I36 L37 w_I36 f_I36 p35 => ?_)
      have q_I36 : FR Wag Z I0 Z I36 := q_I31.trans w0.1 w0.2.1 (f_I36.mono (by decide))
      have h38 := tkF (k := v1.toInt) (m := (I31 v0 66).toInt - 266 * v1.toInt) p35.2 (by omega) (by omega) (by omega)
      first | (have h381 := h38.1 (by omega) (by omega)) | (have h381 := h38.2.1 (by omega) (by omega)) | (have h381 := h38.2.2 (by omega) (by omega) (by omega)) | skip
      clear h38
      obtain ⟨p35_0, p35_1⟩ := p35
      have rr34 := i_rng r34
      intro b39 eb39
      obtain ⟨x40, ex40, kb39, lb39⟩ := sh_f w_I36.1 kv0 (j := 65) (k := 14) (m := 2) rfl
      cases eb39.symm.trans ex40
      have o41 : vp_in v1 2 := vi_of rfl (by omega) (by omega)
      refine ⟨o41, ?_⟩
      refine ⟨fun c42 => ?_, fun c42 => ?_⟩
      · skip
        first | (have t43 : v2.toInt < (I36 b39 v1.toNatClampNeg).toInt := (i_lt rfl rfl).mp c42) | (have t43 : v2.toInt < (I36 b39 v1.toNatClampNeg).toInt := (i_lt rfl rfl).mp c42) | skip
        intro b44 eb44
        obtain ⟨x45, ex45, kb44, lb44⟩ := sh_f w_I36.1 kv0 (j := 14) (k := 14) (m := 6) rfl
        cases eb44.symm.trans ex45
        have o46 : vp_in v2 6 := vi_of rfl (by omega) (by omega)
        refine ⟨o46, ?_⟩
        intro I47 eI47
        have w_I47 : WD Z I47 := by rw [eI47]; exact WD_putA w_I36 12 14 kv0 eb44 kb44 rfl rfl (by decide) (by constructor <;> omega)
        have f_I47 : FR [(12, 14)] Z I36 Z I47 := by rw [eI47]; exact FR_upA w_I36.2.1 kv0 eb44 kb44 rfl rfl List.mem_cons_self
        have q_I47 : FR Wag Z I0 Z I47 := q_I36.trans w0.1 w0.2.1 (f_I47.mono (by decide))
        have u48 : (I47 v0 66).toInt = (I36 v0 66).toInt := by rw [f_I47.2.2.1 v0 12 66 kv0 (by decide) (by decide)]
        intro b49 eb49
        obtain ⟨x50, ex50, kb49, lb49⟩ := sh_f w_I47.1 kv0 (j := 15) (k := 14) (m := 6) rfl
        cases eb49.symm.trans ex50
        have o51 : vp_in v2 6 := vi_of rfl (by omega) (by omega)
        refine ⟨o51, ?_⟩
        intro I52 eI52
        have w_I52 : WD Z I52 := by rw [eI52]; exact WD_putA w_I47 12 15 kv0 eb49 kb49 rfl rfl (by decide) trivial
        have f_I52 : FR [(12, 15)] Z I47 Z I52 := by rw [eI52]; exact FR_upA w_I47.2.1 kv0 eb49 kb49 rfl rfl List.mem_cons_self
        have q_I52 : FR Wag Z I0 Z I52 := q_I47.trans w0.1 w0.2.1 (f_I52.mono (by decide))
        have u53 : (I52 v0 66).toInt = (I47 v0 66).toInt := by rw [f_I52.2.2.1 v0 12 66 kv0 (by decide) (by decide)]
        intro b54 eb54
        obtain ⟨x55, ex55, kb54, lb54⟩ := sh_f w_I52.1 kv0 (j := 16) (k := 14) (m := 6) rfl
        cases eb54.symm.trans ex55
        have o56 : vp_in v2 6 := vi_of rfl (by omega) (by omega)
        refine ⟨o56, ?_⟩
        intro I57 eI57
        have w_I57 : WD Z I57 := by rw [eI57]; exact WD_putA w_I52 12 16 kv0 eb54 kb54 rfl rfl (by decide) trivial
        have f_I57 : FR [(12, 16)] Z I52 Z I57 := by rw [eI57]; exact FR_upA w_I52.2.1 kv0 eb54 kb54 rfl rfl List.mem_cons_self
        have q_I57 : FR Wag Z I0 Z I57 := q_I52.trans w0.1 w0.2.1 (f_I57.mono (by decide))
        have u58 : (I57 v0 66).toInt = (I52 v0 66).toInt := by rw [f_I57.2.2.1 v0 12 66 kv0 (by decide) (by decide)]
        unfold f_X12_again_b167
        intro x59 ex59
        have rx59 := i_rng x59
        first | (have tx59 : x59.toInt = v2.toInt + (1) := by (rw [ex59]; exact (i_add rfl (show (1 : Int32).toInt = 1 from rfl) (by omega) (by omega)))) | skip
        exact ih x59 I57 L37 w_I57 q_I57   (by omega)  (by omega)
      · skip
        first | (have t60 : ¬ (v2.toInt < (I36 b39 v1.toNatClampNeg).toInt) := (not_congr (i_lt rfl rfl)).mp c42) | (have t60 : ¬ (v2.toInt < (I36 b39 v1.toNatClampNeg).toInt) := (not_congr (i_lt rfl rfl)).mp c42) | skip
        unfold f_X12_again_b167
        intro x61 ex61
        have rx61 := i_rng x61
        first | (have tx61 : x61.toInt = v2.toInt + (1) := by (rw [ex61]; exact (i_add rfl (show (1 : Int32).toInt = 1 from rfl) (by omega) (by omega)))) | skip
        exact ih x61 I36 L37 w_I36 q_I36   (by omega)  (by omega)
set_option maxHeartbeats 4000000 in
set_option maxRecDepth 100000 in
theorem l13_X11_again_L59 {Z : jZ} {I0 : jI} {Q : Int32 → jI → jL → Prop} (w0 : WD Z I0) (v0 : Nat) (v1 : Int32) (kv0 : jk Z v0 11) (v2 : Nat) (kv2 : jk Z v2 2) (hQ : ∀ (I' : jI) (L' : jL), WD Z I' → FR Ws_X2_getPilgrim Z I0 Z I' → Q (1 : Int32) I' L') : ∀ (n : Nat) (v3 : Int32) (I : jI) (L : jL), WD Z I → FR Ws_X2_getPilgrim Z I0 Z I →   (0 ≤ v3.toInt ∧ v3.toInt ≤ 6) → 6 - v3.toInt < (n : Int) → f_X11_again_L59  Z Q n v0 v2 v3 I L := by
  intro n
  induction n with
  | zero =>
    intro v3 I L w_I q_I   li  me
    exfalso
    omega
  | succ n ih =>
    intro v3 I L w_I q_I   li  me
    unfold f_X11_again_L59
    have rv3 := i_rng v3
    have rv1 := i_rng v1
    refine ⟨fun c1 => ?_, fun c1 => ?_⟩
    · skip
      first | (have t2 : (I v2 7).toInt ≤ v3.toInt := (i_le rfl rfl).mp c1) | (have t2 : (I v2 7).toInt ≤ v3.toInt := (i_le rfl rfl).mp c1) | skip
      have t3 : (1 : Int32).toInt = 1 := rfl
      exact hQ I L w_I q_I 
    · skip
      first | (have t4 : ¬ ((I v2 7).toInt ≤ v3.toInt) := (not_congr (i_le rfl rfl)).mp c1) | (have t4 : ¬ ((I v2 7).toInt ≤ v3.toInt) := (not_congr (i_le rfl rfl)).mp c1) | skip
      have t6 : 0 ≤ (I v0 4).toInt ∧ (I v0 4).toInt ≤ 6 := w_I.fld 11 4 kv0 (by decide)
      refine ⟨fun c7 => ?_, fun c7 => ?_⟩
      · skip
        first | (have t8 : (I v0 4).toInt ≤ v3.toInt := (i_le rfl rfl).mp c7) | (have t8 : (I v0 4).toInt ≤ v3.toInt := (i_le rfl rfl).mp c7) | skip
        have t9 : (1 : Int32).toInt = 1 := rfl
        exact hQ I L w_I q_I 
      · skip
        first | (have t10 : ¬ ((I v0 4).toInt ≤ v3.toInt) := (not_congr (i_le rfl rfl)).mp c7) | (have t10 : ¬ ((I v0 4).toInt ≤ v3.toInt) := (not_congr (i_le rfl rfl)).mp c7) | skip
        refine s_X11_find w_I v0 v3 kv0   (fun r11 p12 => ?_)
        refine ⟨fun c14 => ?_, fun b13 c14 => ?_⟩
        · skip
          unfold f_X11_again_b94
          intro x15 ex15
          have rx15 := i_rng x15
          first | (have tx15 : x15.toInt = v3.toInt + (1) := by (rw [ex15]; exact (i_add rfl (show (1 : Int32).toInt = 1 from rfl) (by omega) (by omega)))) | skip
          exact ih x15 I L w_I q_I   (by omega)  (by omega)
        · skip
          have kb13 : jk Z b13 5 := by first | exact p12 b13 c14 | exact (p12 b13 c14).1 | exact (p12.1 b13 c14).1
          refine s_X2_getPilgrim w_I v2 v3 b13 kv2 kb13   (fun  I16 L17 w_I16 f_I16  => ?_)
          have q_I16 : FR Ws_X2_getPilgrim Z I0 Z I16 := q_I.trans w0.1 w0.2.1 (f_I16.mono (by decide))
          have u18 : (I16 v2 7).toInt = (I v2 7).toInt := by rw [f_I16.2.2.1 v2 2 7 kv2 (by decide) (by decide)]
          have u19 : (I16 v0 4).toInt = (I v0 4).toInt := by rw [f_I16.2.2.1 v0 11 4 kv0 (by decide) (by decide)]
          unfold f_X11_again_b94
          intro x20 ex20
          have rx20 := i_rng x20
          first | (have tx20 : x20.toInt = v3.toInt + (1) := by (rw [ex20]; exact (i_add rfl (show (1 : Int32).toInt = 1 from rfl) (by omega) (by omega)))) | skip
          exact ih x20 I16 L17 w_I16 q_I16   (by omega)  (by omega)
/-! ===== keep and again: the contents ===== -/
/-- what the reference keeps, by its place -/
def kSrc (st as pa wh kl pl ea : Nat → Int32) (z : Nat) : Int32 :=
  if z < 48 then (if z % 2 = 0 then st (z / 2) else as (z / 2))
  else if z < 240 then pa (z - 48)
  else if z < 258 then (if z % 3 = 0 then wh ((z - 240) / 3) else if z % 3 = 1 then kl ((z - 240) / 3) else pl ((z - 240) / 3))
  else ea (z - 258)
theorem kS_st {st as pa wh kl pl ea : Nat → Int32} {s : Nat} (h : s < 24) : kSrc st as pa wh kl pl ea (2 * s) = st s := by
  unfold kSrc
  rw [if_pos (by omega), if_pos (by omega), show 2 * s / 2 = s by omega]
theorem kS_as {st as pa wh kl pl ea : Nat → Int32} {s : Nat} (h : s < 24) : kSrc st as pa wh kl pl ea (2 * s + 1) = as s := by
  unfold kSrc
  rw [if_pos (by omega), if_neg (by omega), show (2 * s + 1) / 2 = s by omega]
theorem kS_pa {st as pa wh kl pl ea : Nat → Int32} {s : Nat} (h : s < 192) : kSrc st as pa wh kl pl ea (48 + s) = pa s := by
  unfold kSrc
  rw [if_neg (by omega), if_pos (by omega), show 48 + s - 48 = s by omega]
theorem kS_wh {st as pa wh kl pl ea : Nat → Int32} {s : Nat} (h : s < 6) : kSrc st as pa wh kl pl ea (240 + 3 * s) = wh s := by
  unfold kSrc
  rw [if_neg (by omega), if_neg (by omega), if_pos (by omega), if_pos (by omega), show (240 + 3 * s - 240) / 3 = s by omega]
theorem kS_kl {st as pa wh kl pl ea : Nat → Int32} {s : Nat} (h : s < 6) : kSrc st as pa wh kl pl ea (240 + 3 * s + 1) = kl s := by
  unfold kSrc
  rw [if_neg (by omega), if_neg (by omega), if_pos (by omega), if_neg (by omega), if_pos (by omega), show (240 + 3 * s + 1 - 240) / 3 = s by omega]
theorem kS_pl {st as pa wh kl pl ea : Nat → Int32} {s : Nat} (h : s < 6) : kSrc st as pa wh kl pl ea (240 + 3 * s + 2) = pl s := by
  unfold kSrc
  rw [if_neg (by omega), if_neg (by omega), if_pos (by omega), if_neg (by omega), if_neg (by omega), show (240 + 3 * s + 2 - 240) / 3 = s by omega]
theorem kS_ea {st as pa wh kl pl ea : Nat → Int32} {s : Nat} : kSrc st as pa wh kl pl ea (258 + s) = ea s := by
  unfold kSrc
  rw [if_neg (by omega), if_neg (by omega), if_neg (by omega), show 258 + s - 258 = s by omega]
/-- m of 266 numbers are kept under i -/
def KS (Z : jZ) (J : jI) (v0 u62 : Nat) (src : Nat → Int32) (i : Nat) (I : jI) (m : Nat) : Prop := WD Z I ∧ FR Ws_X12_put Z J Z I ∧ (I v0 66).toInt = 266 * (i : Int) + (m : Int) ∧ (∀ z, z < m → I u62 (266 * i + z) = src z) ∧ (∀ z, (z < 266 * i ∨ 266 * i + 266 ≤ z) → I u62 z = J u62 z)
theorem ks_put {Z : jZ} {J I : jI} {L : jL} {v0 u62 i m : Nat} {src : Nat → Int32} {v : Int32} {Q : jI → jL → Prop} (wJ : WD Z J) (k0 : jk Z v0 12) (h62 : jr Z v0 62 = some u62) (hi : i < 2) (hm : m < 266) (s : KS Z J v0 u62 src i I m) (hv : v = src m) (ok : okK m v) (hQ : ∀ (I' : jI) (L' : jL), KS Z J v0 u62 src i I' (m + 1) → Q I' L') : f_X12_put v0 v Z I L Q := by
  obtain ⟨x, ex, k62, l62⟩ := sh_f wJ.1 k0 (j := 62) (k := 14) (m := 532) rfl
  cases h62.symm.trans ex
  obtain ⟨w, f, t66, h1, h2⟩ := s
  have n66 := i_nat t66 (by omega)
  have n66 : (I v0 66).toNatClampNeg = 266 * i + m := by omega
  have ne : u62 ≠ v0 := ks_ne k62 k0 (by decide)
  unfold f_X12_put
  intro b1 e1
  cases h62.symm.trans e1
  refine ⟨vi_of t66 (by omega) (by omega), ?_⟩
  intro I3 e3 I4 e4
  rw [n66] at e3
  have ok' : okA 12 62 (266 * i + m) v := by
    show okK ((266 * i + m) % 266) v
    rw [show (266 * i + m) % 266 = m by omega]
    exact ok
  have w3 : WD Z I3 := by rw [e3]; exact WD_putA w 12 62 k0 h62 k62 rfl rfl (by decide) ok'
  have f3 : FR Ws_X12_put Z J Z I3 := f.trans wJ.1 wJ.2.1 (by rw [e3]; exact FR_upA w.2.1 k0 h62 k62 rfl rfl (by decide))
  have w4 : WD Z I4 := by rw [e4]; exact WD_putF w3 12 66 k0 (by decide) (by decide) trivial
  have f4 : FR Ws_X12_put Z J Z I4 := f3.trans wJ.1 wJ.2.1 (by rw [e4]; exact FR_putF k0 (by decide) (by decide))
  have t3 : I3 v0 66 = I v0 66 := by rw [e3, jpI_ne (fun e => ne e.symm)]
  refine hQ I4 L ⟨w4, f4, ?_, fun z hz => ?_, fun z hz => ?_⟩
  · rw [e4, jpI_at, t3]
    exact (i_add t66 (show (1 : Int32).toInt = 1 from rfl) (by omega) (by omega)).trans (by omega)
  · rw [e4, jpI_ne ne]
    by_cases q : z = m
    · rw [q, e3, jpI_at]; exact hv
    · rw [e3, jpI_off (by omega)]; exact h1 z (by omega)
  · rw [e4, jpI_ne ne, e3, jpI_off (by omega)]; exact h2 z hz
theorem ks_ar {Z : jZ} {J I : jI} {v0 u62 i m : Nat} {src : Nat → Int32} (s : KS Z J v0 u62 src i I m) (k0 : jk Z v0 12) {j u : Nat} (hu : jr Z v0 j = some u) (ku : jk Z u 14) (hs : jsr 12 j = false) (hn : (12, j) ∉ Ws_X12_put) : I u = J u := s.2.1.2.2.2 v0 12 j u k0 hu (by rw [ku.2]; rfl) hs hn
theorem kp_L157 {Z : jZ} {J : jI} {v0 u62 i : Nat} {st as pa wh kl pl : Nat → Int32} {u17 : Nat} (wJ : WD Z J) (k0 : jk Z v0 12) (h62 : jr Z v0 62 = some u62) (hi : i < 2) (h17 : jr Z v0 17 = some u17) (k17 : jk Z u17 14) {Q : Int32 → jI → jL → Prop}
    (hQ : ∀ (I : jI) (L : jL), KS Z J v0 u62 (kSrc st as pa wh kl pl (J u17)) i I 266 → Q (1 : Int32) I L) :
    ∀ (n f : Nat) (v2 : Int32) (I : jI) (L : jL), KS Z J v0 u62 (kSrc st as pa wh kl pl (J u17)) i I (258 + f) → v2.toInt = (f : Int) → f ≤ 8 → 9 ≤ n + f → f_X12_keep_L157 Z Q n v0 v2 I L := by
  intro n
  induction n with
  | zero => intro f v2 I L s e1 e2 e3; exfalso; omega
  | succ n ih =>
    intro f v2 I L s e1 e2 e3
    unfold f_X12_keep_L157
    refine ⟨fun c => ?_, fun c => ?_⟩
    · have c := (i_le (show (8 : Int32).toInt = 8 from rfl) e1).mp c
      rw [show 258 + f = 266 by omega] at s
      exact hQ I L s
    have c := (not_congr (i_le (show (8 : Int32).toInt = 8 from rfl) e1)).mp c
    have q := i_nat e1 (by omega)
    have q : v2.toNatClampNeg = f := by omega
    intro b2 e2'
    cases h17.symm.trans e2'
    refine ⟨vi_of e1 (by omega) (by omega), ?_⟩
    refine ks_put wJ k0 h62 hi (by omega) s (by rw [q, kS_ea, ks_ar s k0 h17 k17 rfl (by decide)]) ⟨fun h => absurd h (by omega), fun h => absurd h (by omega), fun _ h => absurd h (by omega)⟩ (fun I' L' s' => ?_)
    intro x10 e10
    exact ih (f + 1) x10 I' L' (by rw [show 258 + (f + 1) = 258 + f + 1 by omega]; exact s') (by rw [e10]; exact (i_add e1 (show (1 : Int32).toInt = 1 from rfl) (by omega) (by omega)).trans (by omega)) (by omega) (by omega)
theorem kp_L113 {Z : jZ} {J : jI} {v0 u62 i : Nat} {st as pa : Nat → Int32} {u14 u15 u16 u17 : Nat} (wJ : WD Z J) (k0 : jk Z v0 12) (h62 : jr Z v0 62 = some u62) (hi : i < 2) (h14 : jr Z v0 14 = some u14) (k14 : jk Z u14 14) (h15 : jr Z v0 15 = some u15) (k15 : jk Z u15 14) (h16 : jr Z v0 16 = some u16) (k16 : jk Z u16 14) (h17 : jr Z v0 17 = some u17) (k17 : jk Z u17 14) {Q : Int32 → jI → jL → Prop}
    (hQ : ∀ (I : jI) (L : jL), KS Z J v0 u62 (kSrc st as pa (J u14) (J u15) (J u16) (J u17)) i I 266 → Q (1 : Int32) I L) :
    ∀ (n p : Nat) (v2 : Int32) (I : jI) (L : jL), KS Z J v0 u62 (kSrc st as pa (J u14) (J u15) (J u16) (J u17)) i I (240 + 3 * p) → v2.toInt = (p : Int) → p ≤ 6 → 7 ≤ n + p → f_X12_keep_L113 Z Q n v0 v2 I L := by
  intro n
  induction n with
  | zero => intro p v2 I L s e1 e2 e3; exfalso; omega
  | succ n ih =>
    intro p v2 I L s e1 e2 e3
    unfold f_X12_keep_L113
    refine ⟨fun c => ?_, fun c => ?_⟩
    · have c := (i_le (show (6 : Int32).toInt = 6 from rfl) e1).mp c
      rw [show 240 + 3 * p = 258 + 0 by omega] at s
      exact ⟨9, kp_L157 wJ k0 h62 hi h17 k17 hQ 9 0 0 I L s rfl (by omega) (by omega)⟩
    have c := (not_congr (i_le (show (6 : Int32).toInt = 6 from rfl) e1)).mp c
    have q := i_nat e1 (by omega)
    have q : v2.toNatClampNeg = p := by omega
    intro b13 e13
    cases h14.symm.trans e13
    refine ⟨vi_of e1 (by omega) (by omega), ?_⟩
    have r14 : rg (-1) 23 (J u14 p) := wJ.arr 12 14 k0 h14 k14 rfl rfl p
    have y14 : I u14 = J u14 := ks_ar s k0 h14 k14 rfl (by decide)
    refine ks_put wJ k0 h62 hi (by omega) s (by rw [q, kS_wh (by omega), y14]) ⟨fun h => absurd h (by omega), fun h => absurd h (by omega), fun _ _ _ => by rw [q, y14]; exact r14⟩ (fun I1 L1 s1 => ?_)
    intro b21 e21
    cases h15.symm.trans e21
    refine ⟨vi_of e1 (by omega) (by omega), ?_⟩
    refine ks_put wJ k0 h62 hi (by omega) s1 (by rw [q, kS_kl (by omega), ks_ar s1 k0 h15 k15 rfl (by decide)]) ⟨fun h => absurd h (by omega), fun h => absurd h (by omega), fun _ _ h => absurd h (by omega)⟩ (fun I2 L2 s2 => ?_)
    intro b29 e29
    cases h16.symm.trans e29
    refine ⟨vi_of e1 (by omega) (by omega), ?_⟩
    refine ks_put wJ k0 h62 hi (by omega) s2 (by rw [q, kS_pl (by omega), ks_ar s2 k0 h16 k16 rfl (by decide)]) ⟨fun h => absurd h (by omega), fun h => absurd h (by omega), fun _ _ h => absurd h (by omega)⟩ (fun I3 L3 s3 => ?_)
    intro x37 e37
    exact ih (p + 1) x37 I3 L3 (by rw [show 240 + 3 * (p + 1) = 240 + 3 * p + 1 + 1 + 1 by omega]; exact s3) (by rw [e37]; exact (i_add e1 (show (1 : Int32).toInt = 1 from rfl) (by omega) (by omega)).trans (by omega)) (by omega) (by omega)
theorem kp_L88 {Z : jZ} {J : jI} {v0 u62 i : Nat} {st as : Nat → Int32} {u5 u14 u15 u16 u17 : Nat} (wJ : WD Z J) (k0 : jk Z v0 12) (h62 : jr Z v0 62 = some u62) (hi : i < 2) (h5 : jr Z v0 5 = some u5) (k5 : jk Z u5 14) (h14 : jr Z v0 14 = some u14) (k14 : jk Z u14 14) (h15 : jr Z v0 15 = some u15) (k15 : jk Z u15 14) (h16 : jr Z v0 16 = some u16) (k16 : jk Z u16 14) (h17 : jr Z v0 17 = some u17) (k17 : jk Z u17 14) {Q : Int32 → jI → jL → Prop}
    (hQ : ∀ (I : jI) (L : jL), KS Z J v0 u62 (kSrc st as (J u5) (J u14) (J u15) (J u16) (J u17)) i I 266 → Q (1 : Int32) I L) :
    ∀ (n p : Nat) (v2 : Int32) (I : jI) (L : jL), KS Z J v0 u62 (kSrc st as (J u5) (J u14) (J u15) (J u16) (J u17)) i I (48 + p) → v2.toInt = (p : Int) → p ≤ 192 → 193 ≤ n + p → f_X12_keep_L88 Z Q n v0 v2 I L := by
  intro n
  induction n with
  | zero => intro p v2 I L s e1 e2 e3; exfalso; omega
  | succ n ih =>
    intro p v2 I L s e1 e2 e3
    unfold f_X12_keep_L88
    refine ⟨fun c => ?_, fun c => ?_⟩
    · have c := (i_le (show (192 : Int32).toInt = 192 from rfl) e1).mp c
      rw [show 48 + p = 240 + 3 * 0 by omega] at s
      exact ⟨7, kp_L113 wJ k0 h62 hi h14 k14 h15 k15 h16 k16 h17 k17 hQ 7 0 0 I L s rfl (by omega) (by omega)⟩
    have c := (not_congr (i_le (show (192 : Int32).toInt = 192 from rfl) e1)).mp c
    have q := i_nat e1 (by omega)
    have q : v2.toNatClampNeg = p := by omega
    intro b40 e40
    cases h5.symm.trans e40
    refine ⟨vi_of e1 (by omega) (by omega), ?_⟩
    refine ks_put wJ k0 h62 hi (by omega) s (by rw [q, kS_pa (by omega), ks_ar s k0 h5 k5 rfl (by decide)]) ⟨fun h => absurd h (by omega), fun h => absurd h (by omega), fun h => absurd h (by omega)⟩ (fun I1 L1 s1 => ?_)
    intro x48 e48
    exact ih (p + 1) x48 I1 L1 (by rw [show 48 + (p + 1) = 48 + p + 1 by omega]; exact s1) (by rw [e48]; exact (i_add e1 (show (1 : Int32).toInt = 1 from rfl) (by omega) (by omega)).trans (by omega)) (by omega) (by omega)
theorem kp_L54 {Z : jZ} {J : jI} {v0 u62 i : Nat} {u2 u3 u5 u14 u15 u16 u17 : Nat} (wJ : WD Z J) (k0 : jk Z v0 12) (h62 : jr Z v0 62 = some u62) (hi : i < 2) (h2 : jr Z v0 2 = some u2) (k2 : jk Z u2 14) (h3 : jr Z v0 3 = some u3) (k3 : jk Z u3 14) (h5 : jr Z v0 5 = some u5) (k5 : jk Z u5 14) (h14 : jr Z v0 14 = some u14) (k14 : jk Z u14 14) (h15 : jr Z v0 15 = some u15) (k15 : jk Z u15 14) (h16 : jr Z v0 16 = some u16) (k16 : jk Z u16 14) (h17 : jr Z v0 17 = some u17) (k17 : jk Z u17 14) {Q : Int32 → jI → jL → Prop}
    (hQ : ∀ (I : jI) (L : jL), KS Z J v0 u62 (kSrc (J u2) (J u3) (J u5) (J u14) (J u15) (J u16) (J u17)) i I 266 → Q (1 : Int32) I L) :
    ∀ (n p : Nat) (v2 : Int32) (I : jI) (L : jL), KS Z J v0 u62 (kSrc (J u2) (J u3) (J u5) (J u14) (J u15) (J u16) (J u17)) i I (2 * p) → v2.toInt = (p : Int) → p ≤ 24 → 25 ≤ n + p → f_X12_keep_L54 Z Q n v0 v2 I L := by
  intro n
  induction n with
  | zero => intro p v2 I L s e1 e2 e3; exfalso; omega
  | succ n ih =>
    intro p v2 I L s e1 e2 e3
    unfold f_X12_keep_L54
    refine ⟨fun c => ?_, fun c => ?_⟩
    · have c := (i_le (show (24 : Int32).toInt = 24 from rfl) e1).mp c
      rw [show 2 * p = 48 + 0 by omega] at s
      exact ⟨193, kp_L88 wJ k0 h62 hi h5 k5 h14 k14 h15 k15 h16 k16 h17 k17 hQ 193 0 0 I L s rfl (by omega) (by omega)⟩
    have c := (not_congr (i_le (show (24 : Int32).toInt = 24 from rfl) e1)).mp c
    have q := i_nat e1 (by omega)
    have q : v2.toNatClampNeg = p := by omega
    intro b51 e51
    cases h2.symm.trans e51
    refine ⟨vi_of e1 (by omega) (by omega), ?_⟩
    have r2 : rg 0 9 (J u2 p) := wJ.arr 12 2 k0 h2 k2 rfl rfl p
    have r3 : rg 0 20 (J u3 p) := wJ.arr 12 3 k0 h3 k3 rfl rfl p
    have y2 : I u2 = J u2 := ks_ar s k0 h2 k2 rfl (by decide)
    refine ks_put wJ k0 h62 hi (by omega) s (by rw [q, kS_st (by omega), y2]) ⟨fun _ _ => by rw [q, y2]; exact r2, fun _ h => absurd h (by omega), fun h => absurd h (by omega)⟩ (fun I1 L1 s1 => ?_)
    intro b59 e59
    cases h3.symm.trans e59
    refine ⟨vi_of e1 (by omega) (by omega), ?_⟩
    have y3 : I1 u3 = J u3 := ks_ar s1 k0 h3 k3 rfl (by decide)
    refine ks_put wJ k0 h62 hi (by omega) s1 (by rw [q, kS_as (by omega), y3]) ⟨fun _ h => absurd h (by omega), fun _ _ => by rw [q, y3]; exact r3, fun h => absurd h (by omega)⟩ (fun I2 L2 s2 => ?_)
    intro x67 e67
    exact ih (p + 1) x67 I2 L2 (by rw [show 2 * (p + 1) = 2 * p + 1 + 1 by omega]; exact s2) (by rw [e67]; exact (i_add e1 (show (1 : Int32).toInt = 1 from rfl) (by omega) (by omega)).trans (by omega)) (by omega) (by omega)
/-- keep of the reference -/
def KPM (Z : jZ) (v0 : Nat) (v : Int32) (r : Int) (I I' : jI) : Prop := ∀ u62 u65 u2 u3 u5 u14 u15 u16 u17, jr Z v0 62 = some u62 → jr Z v0 65 = some u65 → jr Z v0 2 = some u2 → jr Z v0 3 = some u3 → jr Z v0 5 = some u5 → jr Z v0 14 = some u14 → jr Z v0 15 = some u15 → jr Z v0 16 = some u16 → jr Z v0 17 = some u17 →
  (r = 1 → (∀ z, z < 266 → I' u62 (266 * v.toNatClampNeg + z) = kSrc (I u2) (I u3) (I u5) (I u14) (I u15) (I u16) (I u17) z) ∧ (∀ z, (z < 266 * v.toNatClampNeg ∨ 266 * v.toNatClampNeg + 266 ≤ z) → I' u62 z = I u62 z) ∧ I' u65 v.toNatClampNeg = I v0 8 ∧ ∀ k, k ≠ v.toNatClampNeg → I' u65 k = I u65 k) ∧ (r = 0 → I' u62 = I u62 ∧ I' u65 = I u65)
set_option maxHeartbeats 1000000 in
theorem s14_X12_keep {Z : jZ} {I : jI} {L : jL} (w : WD Z I) (v0 : Nat) (v1 : Int32) (kv0 : jk Z v0 12) (uK : Nat) (huK : jr Z v0 63 = some uK) (uC : Nat) (huC : jr Z v0 64 = some uC) {Q : Int32 → jI → jL → Prop} (hQ : ∀ (r : Int32) (I' : jI) (L' : jL), WD Z I' → FR Ws_X12_keep Z I Z I' → KP12 v0 uK uC v1 r.toInt I I' → KPM Z v0 v1 r.toInt I I' → Q r I' L') : f_X12_keep v0 v1 Z I L Q := by
  obtain ⟨x, ex, kK, lK⟩ := sh_f w.1 kv0 (j := 63) (k := 16) (m := 2) rfl
  cases huK.symm.trans ex
  obtain ⟨y, ey, kC, lC⟩ := sh_f w.1 kv0 (j := 64) (k := 14) (m := 2) rfl
  cases huC.symm.trans ey
  obtain ⟨uP, hP, kP, lP⟩ := sh_f w.1 kv0 (j := 65) (k := 14) (m := 2) rfl
  obtain ⟨u62, h62, k62, -⟩ := sh_f w.1 kv0 (j := 62) (k := 14) (m := 532) rfl
  obtain ⟨u2, h2, k2, -⟩ := sh_f w.1 kv0 (j := 2) (k := 14) (m := 24) rfl
  obtain ⟨u3, h3, k3, -⟩ := sh_f w.1 kv0 (j := 3) (k := 14) (m := 24) rfl
  obtain ⟨u5, h5, k5, -⟩ := sh_f w.1 kv0 (j := 5) (k := 14) (m := 192) rfl
  obtain ⟨u14, h14, k14, -⟩ := sh_f w.1 kv0 (j := 14) (k := 14) (m := 6) rfl
  obtain ⟨u15, h15, k15, -⟩ := sh_f w.1 kv0 (j := 15) (k := 14) (m := 6) rfl
  obtain ⟨u16, h16, k16, -⟩ := sh_f w.1 kv0 (j := 16) (k := 14) (m := 6) rfl
  obtain ⟨u17, h17, k17, -⟩ := sh_f w.1 kv0 (j := 17) (k := 14) (m := 8) rfl
  have d : ∀ {j j' b b'}, jr Z v0 j = some b → jr Z v0 j' = some b' → jsr 12 j = false → jsr 12 j' = false → j ≠ j' → b ≠ b' := fun h h' s s' n => ds_ne w.2.1 kv0 h h' s s' n
  have z0 : (0 : Int32).toInt = 0 := rfl
  have z1 : (1 : Int32).toInt = 1 := rfl
  have km : ∀ (r : Int) (A : jI), ((r = 1 → (∀ z, z < 266 → A u62 (266 * v1.toNatClampNeg + z) = kSrc (I u2) (I u3) (I u5) (I u14) (I u15) (I u16) (I u17) z) ∧ (∀ z, (z < 266 * v1.toNatClampNeg ∨ 266 * v1.toNatClampNeg + 266 ≤ z) → A u62 z = I u62 z) ∧ A uP v1.toNatClampNeg = I v0 8 ∧ ∀ k, k ≠ v1.toNatClampNeg → A uP k = I uP k) ∧ (r = 0 → A u62 = I u62 ∧ A uP = I uP)) → KPM Z v0 v1 r I A := by
    intro r A h a1 a2 a3 a4 a5 a6 a7 a8 a9 g1 g2 g3 g4 g5 g6 g7 g8 g9
    cases h62.symm.trans g1; cases hP.symm.trans g2; cases h2.symm.trans g3; cases h3.symm.trans g4; cases h5.symm.trans g5; cases h14.symm.trans g6; cases h15.symm.trans g7; cases h16.symm.trans g8; cases h17.symm.trans g9
    exact h
  unfold f_X12_keep
  intro I68 e68
  have w68 : WD Z I68 := by rw [e68]; exact WD_putF w 12 22 kv0 (by decide) (by decide) trivial
  have f68 : FR Ws_X12_keep Z I Z I68 := by rw [e68]; exact FR_putF kv0 (by decide) (by decide)
  have o68 : ∀ a, a ≠ v0 → I68 a = I a := fun a ha => by rw [e68]; exact jpI_ne ha
  refine s_X12_in w68 _ _ _ (fun r p => ⟨fun c => ?_, fun c => ?_⟩)
  · have c := nz c
    have hv : 0 ≤ v1.toInt ∧ v1.toInt ≤ 1 := by omega
    have n1 := i_nat (x := v1) rfl (by omega)
    intro b77 e77
    cases huK.symm.trans e77
    refine ⟨vi_of rfl (by omega) (by omega), ?_⟩
    intro I79 e79 b80 e80
    cases huC.symm.trans e80
    refine ⟨vi_of rfl (by omega) (by omega), ?_⟩
    intro I82 e82 b83 e83
    cases hP.symm.trans e83
    refine ⟨vi_of rfl (by omega) (by omega), ?_⟩
    intro I85 e85 I86 e86
    have w79 : WD Z I79 := by rw [e79]; exact WD_putA w68 12 63 kv0 huK kK rfl rfl (by decide) trivial
    have f79 : FR Ws_X12_keep Z I68 Z I79 := by rw [e79]; exact FR_upA w68.2.1 kv0 huK kK rfl rfl (by decide)
    have w82 : WD Z I82 := by rw [e82]; exact WD_putA w79 12 64 kv0 huC kC rfl rfl (by decide) trivial
    have f82 : FR Ws_X12_keep Z I79 Z I82 := by rw [e82]; exact FR_upA w79.2.1 kv0 huC kC rfl rfl (by decide)
    have w85 : WD Z I85 := by rw [e85]; exact WD_putA w82 12 65 kv0 hP kP rfl rfl (by decide) trivial
    have f85 : FR Ws_X12_keep Z I82 Z I85 := by rw [e85]; exact FR_upA w82.2.1 kv0 hP kP rfl rfl (by decide)
    have w86 : WD Z I86 := by rw [e86]; exact WD_putF w85 12 66 kv0 (by decide) (by decide) trivial
    have f86 : FR Ws_X12_keep Z I85 Z I86 := by rw [e86]; exact FR_putF kv0 (by decide) (by decide)
    have g86 : FR Ws_X12_keep Z I Z I86 := (((f68.trans w.1 w.2.1 f79).trans w.1 w.2.1 f82).trans w.1 w.2.1 f85).trans w.1 w.2.1 f86
    have o86 : ∀ a, a ≠ v0 → a ≠ uK → a ≠ uC → a ≠ uP → I86 a = I a := fun a h0 h1 h2 h3 => by rw [e86, jpI_ne h0, e85, jpI_ne h3, e82, jpI_ne h2, e79, jpI_ne h1, o68 a h0]
    have nK0 : uK ≠ v0 := ks_ne kK kv0 (by decide)
    have nC0 : uC ≠ v0 := ks_ne kC kv0 (by decide)
    have nP0 : uP ≠ v0 := ks_ne kP kv0 (by decide)
    have ar : ∀ {j u}, jr Z v0 j = some u → jk Z u 14 → jsr 12 j = false → j ≠ 63 → j ≠ 64 → j ≠ 65 → I86 u = I u := fun hu ku hs h1 h2 h3 => o86 _ (ks_ne ku kv0 (by decide)) (d hu huK hs rfl h1) (d hu huC hs rfl h2) (d hu hP hs rfl h3)
    have y7 : I79 v0 7 = I v0 7 := by rw [e79, jpI_ne (fun e => nK0 e.symm), e68, jpI_o (by decide)]
    have y8 : I82 v0 8 = I v0 8 := by rw [e82, jpI_ne (fun e => nC0 e.symm), e79, jpI_ne (fun e => nK0 e.symm), e68, jpI_o (by decide)]
    have kK1 : I86 uK = I79 uK := by rw [e86, jpI_ne nK0, e85, jpI_ne (d huK hP rfl rfl (by decide)), e82, jpI_ne (d huK huC rfl rfl (by decide))]
    have kC1 : I86 uC = I82 uC := by rw [e86, jpI_ne nC0, e85, jpI_ne (d huC hP rfl rfl (by decide))]
    have kP1 : I86 uP = I85 uP := by rw [e86, jpI_ne nP0]
    have t66 : (I86 v0 66).toInt = 266 * (v1.toNatClampNeg : Int) + ((2 * 0 : Nat) : Int) := by
      rw [e86, jpI_at]
      exact (i_mul (show (266 : Int32).toInt = 266 from rfl) rfl (by omega) (by omega)).trans (by omega)
    have s86 : KS Z I86 v0 u62 (kSrc (I86 u2) (I86 u3) (I86 u5) (I86 u14) (I86 u15) (I86 u16) (I86 u17)) v1.toNatClampNeg I86 (2 * 0) := ⟨w86, FR.rf, t66, fun z hz => absurd hz (by omega), fun _ _ => rfl⟩
    refine ⟨25, kp_L54 w86 kv0 h62 (by omega) h2 k2 h3 k3 h5 k5 h14 k14 h15 k15 h16 k16 h17 k17 (fun I' L' s' => ?_) 25 0 0 I86 L s86 rfl (by omega) (by omega)⟩
    obtain ⟨w', f', -, q1, q2⟩ := s'
    rw [ar h2 k2 rfl (by decide) (by decide) (by decide), ar h3 k3 rfl (by decide) (by decide) (by decide), ar h5 k5 rfl (by decide) (by decide) (by decide), ar h14 k14 rfl (by decide) (by decide) (by decide), ar h15 k15 rfl (by decide) (by decide) (by decide), ar h16 k16 rfl (by decide) (by decide) (by decide), ar h17 k17 rfl (by decide) (by decide) (by decide)] at q1
    rw [ar h62 k62 rfl (by decide) (by decide) (by decide)] at q2
    have kk : I' uK = I86 uK := f'.2.2.2 v0 12 63 uK kv0 huK (by rw [kK.2]; rfl) rfl (by decide)
    have cc : I' uC = I86 uC := f'.2.2.2 v0 12 64 uC kv0 huC (by rw [kC.2]; rfl) rfl (by decide)
    have pp : I' uP = I86 uP := f'.2.2.2 v0 12 65 uP kv0 hP (by rw [kP.2]; rfl) rfl (by decide)
    refine hQ _ I' L' w' (g86.trans w.1 w.2.1 (f'.mono (by decide))) (Or.inl ⟨rfl, hv, ?_, ?_, fun i hi => ⟨?_, ?_⟩⟩) (km _ _ ⟨fun _ => ⟨q1, q2, ?_, fun k hk => ?_⟩, fun h => absurd h (by decide)⟩)
    · rw [kk, kK1, e79, jpI_at]; decide
    · rw [cc, kC1, e82, jpI_at]; exact y7
    · rw [kk, kK1, e79, jpI_off hi, o68 uK nK0]
    · rw [cc, kC1, e82, jpI_off hi, e79, jpI_ne (d huC huK rfl rfl (by decide)), o68 uC nC0]
    · rw [pp, kP1, e85, jpI_at]; exact y8
    · rw [pp, kP1, e85, jpI_off hk, e82, jpI_ne (d hP huC rfl rfl (by decide)), e79, jpI_ne (d hP huK rfl rfl (by decide)), o68 uP nP0]
  · have c := yz c
    exact hQ _ I68 L w68 f68 (Or.inr ⟨rfl, by omega, o68 uK (ks_ne kK kv0 (by decide)), o68 uC (ks_ne kC kv0 (by decide))⟩) (km _ _ ⟨fun h => absurd h (by decide), fun _ => ⟨o68 u62 (ks_ne k62 kv0 (by decide)), o68 uP (ks_ne kP kv0 (by decide))⟩⟩)
/-- keep of the class: STATES, ASKS, PARTS and EARNED of a box -/
theorem pu_stairs {Z : jZ} {I : jI} {L : jL} (w : WD Z I) (v0 v1 : Nat) (kv0 : jk Z v0 2) (kv1 : jk Z v1 8) (a0 a1 a2 x1 x2 uP x0 : Nat) (h0 : jr Z v0 0 = some a0) (h1 : jr Z v0 1 = some a1) (h2 : jr Z v0 2 = some a2) (g1 : jr Z v1 1 = some x1) (g2 : jr Z v1 2 = some x2) (gP : jr Z v1 4 = some uP) (g0 : jr Z uP 0 = some x0) {Q : jI → jL → Prop}
    (hQ : ∀ (I' : jI) (L' : jL), WD Z I' → FR Ws_X2_putStairs Z I Z I' → (∀ a, a ≠ a0 → a ≠ a1 → a ≠ a2 → I' a = I a) → (∀ s, s < 24 → I' a0 s = I x1 s) → (∀ s, s < 24 → I' a1 s = I x2 s) → (∀ s, s < 192 → I' a2 s = I x0 s) → Q I' L') : f_X2_putStairs v0 v1 Z I L Q := by
  obtain ⟨x, ex, k0, -⟩ := sh_f w.1 kv0 (j := 0) (k := 14) (m := 24) rfl
  cases h0.symm.trans ex
  obtain ⟨x, ex, k1, -⟩ := sh_f w.1 kv0 (j := 1) (k := 14) (m := 24) rfl
  cases h1.symm.trans ex
  obtain ⟨x, ex, k2, -⟩ := sh_f w.1 kv0 (j := 2) (k := 14) (m := 192) rfl
  cases h2.symm.trans ex
  obtain ⟨x, ex, kx1, -⟩ := sh_f w.1 kv1 (j := 1) (k := 14) (m := 24) rfl
  cases g1.symm.trans ex
  obtain ⟨x, ex, kx2, -⟩ := sh_f w.1 kv1 (j := 2) (k := 14) (m := 24) rfl
  cases g2.symm.trans ex
  obtain ⟨x, ex, kP⟩ := sh_o w.1 kv1 (j := 4) (k := 4) rfl
  cases gP.symm.trans ex
  obtain ⟨x, ex, kx0, -⟩ := sh_f w.1 kP (j := 0) (k := 14) (m := 192) rfl
  cases g0.symm.trans ex
  have dd : ∀ {a c j b a' c' j' b'}, jk Z a c → jk Z a' c' → jr Z a j = some b → jr Z a' j' = some b' → jsr c j = false → jsr c' j' = false → ¬ (c = c' ∧ j = j') → b ≠ b' := fun ka ka' h h' s s' n e => by
    subst e
    obtain ⟨rfl, rfl⟩ := w.2.1.2.2 _ _ _ _ _ _ _ ka ka' h h' s s'
    exact n ⟨ka.2.symm.trans ka'.2, rfl⟩
  unfold f_X2_putStairs
  intro b1 e1
  cases g1.symm.trans e1
  intro b2 e2
  cases h0.symm.trans e2
  refine ⟨by decide, ?_⟩
  intro I4 e4
  have w4 : WD Z I4 := by rw [e4]; exact WD_cpy w 2 0 kv0 h0 k0 rfl rfl (by decide) (fun _ _ _ => trivial)
  have f4 : FR Ws_X2_putStairs Z I Z I4 := by rw [e4]; exact FR_upA w.2.1 kv0 h0 k0 rfl rfl (by decide)
  have o4 : ∀ a, a ≠ a0 → I4 a = I a := fun a ha => by rw [e4]; exact va_up_ne _ _ ha
  intro b5 e5
  cases g2.symm.trans e5
  intro b6 e6
  cases h1.symm.trans e6
  refine ⟨by decide, ?_⟩
  intro I8 e8
  have r2 : ∀ q, rg 0 20 (I4 x2 q) := fun q => w4.arr 8 2 kv1 g2 kx2 rfl rfl q
  have w8 : WD Z I8 := by rw [e8]; exact WD_cpy w4 2 1 kv0 h1 k1 rfl rfl (by decide) (fun q _ _ => r2 _)
  have f8 : FR Ws_X2_putStairs Z I Z I8 := f4.trans w.1 w.2.1 (by rw [e8]; exact FR_upA w4.2.1 kv0 h1 k1 rfl rfl (by decide))
  have o8 : ∀ a, a ≠ a1 → I8 a = I4 a := fun a ha => by rw [e8]; exact va_up_ne _ _ ha
  intro b9 e9
  cases gP.symm.trans e9
  intro b10 e10
  cases g0.symm.trans e10
  intro b11 e11
  cases h2.symm.trans e11
  refine ⟨by decide, ?_⟩
  intro I13 e13
  have w13 : WD Z I13 := by rw [e13]; exact WD_cpy w8 2 2 kv0 h2 k2 rfl rfl (by decide) (fun _ _ _ => trivial)
  have f13 : FR Ws_X2_putStairs Z I Z I13 := f8.trans w.1 w.2.1 (by rw [e13]; exact FR_upA w8.2.1 kv0 h2 k2 rfl rfl (by decide))
  have o13 : ∀ a, a ≠ a2 → I13 a = I8 a := fun a ha => by rw [e13]; exact va_up_ne _ _ ha
  refine hQ I13 L w13 f13 (fun a q0 q1 q2 => ?_) (fun s hs => ?_) (fun s hs => ?_) (fun s hs => ?_)
  · rw [o13 a q2, o8 a q1, o4 a q0]
  · rw [o13 a0 (ds_ne w.2.1 kv0 h0 h2 rfl rfl (by decide)), o8 a0 (ds_ne w.2.1 kv0 h0 h1 rfl rfl (by decide)), e4, va_up_self, z24, cpy_all hs]
  · rw [o13 a1 (ds_ne w.2.1 kv0 h1 h2 rfl rfl (by decide)), e8, va_up_self, z24, cpy_all hs, o4 x2 (dd kv1 kv0 g2 h0 rfl rfl (by decide))]
  · rw [e13, va_up_self, z192, cpy_all hs, o8 x0 (dd kP kv0 g0 h1 rfl rfl (by decide)), o4 x0 (dd kP kv0 g0 h0 rfl rfl (by decide))]
def KBC (Z : jZ) (v0 uS : Nat) (v : Int32) (r : Int) (I I' : jI) : Prop := ∀ uF uP x0 x1 x2 x5, jr Z v0 2 = some uF → jr Z uF 4 = some uP → jr Z uP 0 = some x0 → jr Z uF 1 = some x1 → jr Z uF 2 = some x2 → jr Z v0 5 = some x5 → ∀ i b a0 a1 a2 a3, i < 2 → jr Z uS i = some b → jr Z b 0 = some a0 → jr Z b 1 = some a1 → jr Z b 2 = some a2 → jr Z b 3 = some a3 →
  ((r = 1 ∧ i = v.toNatClampNeg) → (∀ s, s < 24 → I' a0 s = I x1 s) ∧ (∀ s, s < 24 → I' a1 s = I x2 s) ∧ (∀ s, s < 192 → I' a2 s = I x0 s) ∧ (∀ s, s < 8 → I' a3 s = I x5 s)) ∧ (¬ (r = 1 ∧ i = v.toNatClampNeg) → I' a0 = I a0 ∧ I' a1 = I a1 ∧ I' a2 = I a2 ∧ I' a3 = I a3)
set_option maxHeartbeats 1000000 in
theorem s14_X11_keep {Z : jZ} {I : jI} {L : jL} (w : WD Z I) (v0 : Nat) (v1 : Int32) (kv0 : jk Z v0 11) (uS : Nat) (huS : jr Z v0 8 = some uS) {Q : Int32 → jI → jL → Prop} (hQ : ∀ (r : Int32) (I' : jI) (L' : jL), WD Z I' → FR Ws_X11_keep Z I Z I' → KP11 Z uS v1 r.toInt I I' → KBC Z v0 uS v1 r.toInt I I' → Q r I' L') : f_X11_keep v0 v1 Z I L Q := by
  obtain ⟨x, ex, kS, lS⟩ := sh_f w.1 kv0 (j := 8) (k := 17) (m := 2) rfl
  cases huS.symm.trans ex
  obtain ⟨uF, huF, kF⟩ := sh_o w.1 kv0 (j := 2) (k := 8) rfl
  obtain ⟨uP, huP, kP⟩ := sh_o w.1 kF (j := 4) (k := 4) rfl
  obtain ⟨x0, hx0, kx0, -⟩ := sh_f w.1 kP (j := 0) (k := 14) (m := 192) rfl
  obtain ⟨x1, hx1, kx1, -⟩ := sh_f w.1 kF (j := 1) (k := 14) (m := 24) rfl
  obtain ⟨x2, hx2, kx2, -⟩ := sh_f w.1 kF (j := 2) (k := 14) (m := 24) rfl
  obtain ⟨uE, hE, kE, lE⟩ := sh_f w.1 kv0 (j := 5) (k := 14) (m := 8) rfl
  have bad : ¬ (0 ≤ v1.toInt ∧ v1.toInt ≤ 1) → Q (0 : Int32) I L := fun h => hQ _ I L w FR.rf (Or.inr ⟨rfl, h, fun _ _ => rfl⟩) (fun _ _ _ _ _ _ _ _ _ _ _ _ _ _ _ _ _ _ _ _ _ _ _ _ => ⟨fun q => absurd q.1 (by decide), fun _ => ⟨rfl, rfl, rfl, rfl⟩⟩)
  unfold f_X11_keep
  refine ⟨fun c => bad (by have c := (i_lt (x := v1) (y := 0) rfl (show (0 : Int32).toInt = 0 from rfl)).mp c; omega), fun c => ?_⟩
  have c := (not_congr (i_lt (x := v1) (y := 0) rfl (show (0 : Int32).toInt = 0 from rfl))).mp c
  intro b20 e20
  cases huS.symm.trans e20
  refine ⟨fun c2 => ?_, fun c2 => bad (by have c2 := (not_congr (i_lt (x := v1) (y := 2) rfl (show (2 : Int32).toInt = 2 from rfl))).mp c2; omega)⟩
  have c2 := (i_lt (x := v1) (y := 2) rfl (show (2 : Int32).toInt = 2 from rfl)).mp c2
  have n1 := i_nat (x := v1) rfl (by omega)
  intro b22 e22
  cases huS.symm.trans e22
  refine ⟨vi_of rfl (by omega) (by omega), ?_⟩
  intro b24 e24
  obtain ⟨y, ey, ky⟩ := w.1.2.2.1 uS kS v1.toNatClampNeg (by rw [lS]; omega)
  cases e24.symm.trans ey
  obtain ⟨a0, ha0, ka0, -⟩ := sh_f w.1 ky (j := 0) (k := 14) (m := 24) rfl
  obtain ⟨a1, ha1, ka1, -⟩ := sh_f w.1 ky (j := 1) (k := 14) (m := 24) rfl
  obtain ⟨a2, ha2, ka2, -⟩ := sh_f w.1 ky (j := 2) (k := 14) (m := 192) rfl
  obtain ⟨uG, hG, kG, lG⟩ := sh_f w.1 ky (j := 3) (k := 14) (m := 8) rfl
  intro b25 e25
  cases huF.symm.trans e25
  refine pu_stairs w b24 uF ky kF a0 a1 a2 x1 x2 uP x0 ha0 ha1 ha2 hx1 hx2 huP hx0 (fun I1 L1 w1 f1 o1 p0 p1 p2 => ?_)
  intro b32 e32
  cases hE.symm.trans e32
  intro b33 e33
  cases hG.symm.trans e33
  refine ⟨by decide, ?_⟩
  intro I35 e35 I36 e36
  have w35 : WD Z I35 := by rw [e35]; exact WD_cpy w1 2 3 ky hG kG rfl rfl (by decide) (fun _ _ _ => trivial)
  have f35 : FR [(2, 3)] Z I1 Z I35 := by rw [e35]; exact FR_upA w1.2.1 ky hG kG rfl rfl List.mem_cons_self
  have o35 : ∀ a, a ≠ uG → I35 a = I1 a := fun a ha => by rw [e35]; exact va_up_ne _ _ ha
  have w36 : WD Z I36 := by rw [e36]; exact WD_putF w35 2 7 ky (by decide) (by decide) trivial
  have f36 : FR [(2, 7)] Z I35 Z I36 := by rw [e36]; exact FR_putF ky (by decide) List.mem_cons_self
  have g36 : FR Ws_X11_keep Z I Z I36 := ((f1.mono (by decide)).trans w.1 w.2.1 (f35.mono (by decide))).trans w.1 w.2.1 (f36.mono (by decide))
  have dd : ∀ {a c j b a' c' j' b'}, jk Z a c → jk Z a' c' → jr Z a j = some b → jr Z a' j' = some b' → jsr c j = false → jsr c' j' = false → ¬ (c = c' ∧ j = j') → b ≠ b' := fun ka ka' h h' s s' n e => by
    subst e
    obtain ⟨rfl, rfl⟩ := w.2.1.2.2 _ _ _ _ _ _ _ ka ka' h h' s s'
    exact n ⟨ka.2.symm.trans ka'.2, rfl⟩
  have de : ∀ {a c j b a' c' j' b'}, jk Z a c → jk Z a' c' → jr Z a j = some b → jr Z a' j' = some b' → jsr c j = false → jsr c' j' = false → a ≠ a' → b ≠ b' := fun ka ka' h h' s s' n e => by
    subst e
    exact n (w.2.1.2.2 _ _ _ _ _ _ _ ka ka' h h' s s').1
  refine ⟨7, kp_L55 w36 v0 kv0 b24 ky (fun I4 I5 L4 w4 f4 e5 => ?_) 7 0 I36 L1 w36 FR.rf (by decide) (by decide) (by decide)⟩
  have w5 : WD Z I5 := by rw [e5]; exact WD_putF w4 2 8 ky (by decide) (by decide) trivial
  have f5 : FR [(2, 8)] Z I4 Z I5 := by rw [e5]; exact FR_putF ky (by decide) List.mem_cons_self
  have arr : ∀ {b j a}, jk Z b 2 → jr Z b j = some a → jk Z a 14 → j < 4 → I5 a = I35 a := fun {b j a} kb ha ka hj => by
    have n4 : (2, j) ∉ Ws_X2_putPilgrim := by
      have hj : j = 0 ∨ j = 1 ∨ j = 2 ∨ j = 3 := by omega
      rcases hj with rfl | rfl | rfl | rfl <;> decide
    rw [e5, jpI_ne (ks_ne ka ky (by decide)), f4.2.2.2 b 2 j a kb ha (by rw [ka.2]; rfl) (by unfold jsr; simp) n4, e36, jpI_ne (ks_ne ka ky (by decide))]
  have hs2 : ∀ j, jsr 2 j = false := fun j => by unfold jsr; simp
  refine hQ _ I5 L4 w5 ((g36.trans w.1 w.2.1 (f4.mono (by decide))).trans w.1 w.2.1 (f5.mono (by decide))) (Or.inl ⟨rfl, by omega, fun i b hi hb => ⟨fun hv => ?_, fun hv => ?_⟩⟩) ?_
  · rw [hv, e24] at hb
    cases hb
    rw [e5, jpI_at]
    decide
  · obtain ⟨y2, ey2, kb⟩ := w.1.2.2.1 uS kS i (by rw [lS]; exact hi)
    cases hb.symm.trans ey2
    have hne : b ≠ b24 := fun e => hv (by rw [e] at hb; exact (w.2.1.2.2 uS 17 i uS 17 v1.toNatClampNeg b24 kS kS hb e24 (by simp [jsr]) (by simp [jsr])).2)
    rw [e5, jpI_ne hne, f4.2.2.1 b 2 8 kb (by decide) (by decide), f36.2.2.1 b 2 8 kb (by decide) (by decide), f35.2.2.1 b 2 8 kb (by decide) (by decide), f1.2.2.1 b 2 8 kb (by decide) (by decide)]
  · intro yF yP y0 y1 y2 y5 g1 g2 g3 g4 g5 g6 i b c0 c1 c2 c3 hi hb q0 q1 q2 q3
    cases huF.symm.trans g1; cases huP.symm.trans g2; cases hx0.symm.trans g3; cases hx1.symm.trans g4; cases hx2.symm.trans g5; cases hE.symm.trans g6
    refine ⟨fun hv => ?_, fun hv => ?_⟩
    · rw [hv.2, e24] at hb
      cases hb
      cases ha0.symm.trans q0; cases ha1.symm.trans q1; cases ha2.symm.trans q2; cases hG.symm.trans q3
      refine ⟨fun s hs => ?_, fun s hs => ?_, fun s hs => ?_, fun s hs => ?_⟩
      · rw [arr ky ha0 ka0 (by omega), o35 a0 (ds_ne w.2.1 ky ha0 hG rfl rfl (by decide))]; exact p0 s hs
      · rw [arr ky ha1 ka1 (by omega), o35 a1 (ds_ne w.2.1 ky ha1 hG rfl rfl (by decide))]; exact p1 s hs
      · rw [arr ky ha2 ka2 (by omega), o35 a2 (ds_ne w.2.1 ky ha2 hG rfl rfl (by decide))]; exact p2 s hs
      · rw [arr ky hG kG (by omega), e35, va_up_self, z8, cpy_all hs, o1 uE (dd kv0 ky hE ha0 rfl rfl (by decide)) (dd kv0 ky hE ha1 rfl rfl (by decide)) (dd kv0 ky hE ha2 rfl rfl (by decide))]
    · have hv : ¬ i = v1.toNatClampNeg := fun e => hv ⟨rfl, e⟩
      obtain ⟨yb, eyb, kb⟩ := w.1.2.2.1 uS kS i (by rw [lS]; exact hi)
      cases hb.symm.trans eyb
      have hne : b ≠ b24 := fun e => hv (by rw [e] at hb; exact (w.2.1.2.2 uS 17 i uS 17 v1.toNatClampNeg b24 kS kS hb e24 (by simp [jsr]) (by simp [jsr])).2)
      have kk : ∀ {j c m}, jr Z b j = some c → jsh 2 j = some (14, some m) → jk Z c 14 := fun {j c m} hq hsh => by
        obtain ⟨b9, e9, k9, -⟩ := sh_f w.1 kb (j := j) (k := 14) (m := m) hsh
        cases hq.symm.trans e9
        exact k9
      have off : ∀ {j c}, jr Z b j = some c → jk Z c 14 → j < 4 → I5 c = I c := fun {j c} hq kc hj => by
        rw [arr kb hq kc hj, o35 c (de kb ky hq hG (hs2 j) rfl hne), o1 c (de kb ky hq ha0 (hs2 j) rfl hne) (de kb ky hq ha1 (hs2 j) rfl hne) (de kb ky hq ha2 (hs2 j) rfl hne)]
      exact ⟨off q0 (kk q0 rfl) (by omega), off q1 (kk q1 rfl) (by omega), off q2 (kk q2 rfl) (by omega), off q3 (kk q3 rfl) (by omega)⟩
/-- again of the class -/
theorem ge_stairs {Z : jZ} {I : jI} {L : jL} (w : WD Z I) (v0 v1 : Nat) (kv0 : jk Z v0 2) (kv1 : jk Z v1 8) (a0 a1 a2 x1 x2 uP x0 : Nat) (h0 : jr Z v0 0 = some a0) (h1 : jr Z v0 1 = some a1) (h2 : jr Z v0 2 = some a2) (g1 : jr Z v1 1 = some x1) (g2 : jr Z v1 2 = some x2) (gP : jr Z v1 4 = some uP) (g0 : jr Z uP 0 = some x0) {Q : jI → jL → Prop}
    (hQ : ∀ (I' : jI) (L' : jL), WD Z I' → FR Ws_X2_getStairs Z I Z I' → (∀ s, s < 24 → I' x1 s = I a0 s) → (∀ s, s < 24 → I' x2 s = I a1 s) → (∀ s, s < 192 → I' x0 s = I a2 s) → (I' uP 4).toInt = 0 → Q I' L') : f_X2_getStairs v0 v1 Z I L Q := by
  obtain ⟨x, ex, k0, -⟩ := sh_f w.1 kv0 (j := 0) (k := 14) (m := 24) rfl
  cases h0.symm.trans ex
  obtain ⟨x, ex, k1, -⟩ := sh_f w.1 kv0 (j := 1) (k := 14) (m := 24) rfl
  cases h1.symm.trans ex
  obtain ⟨x, ex, k2, l2⟩ := sh_f w.1 kv0 (j := 2) (k := 14) (m := 192) rfl
  cases h2.symm.trans ex
  obtain ⟨x, ex, kx1, -⟩ := sh_f w.1 kv1 (j := 1) (k := 14) (m := 24) rfl
  cases g1.symm.trans ex
  obtain ⟨x, ex, kx2, -⟩ := sh_f w.1 kv1 (j := 2) (k := 14) (m := 24) rfl
  cases g2.symm.trans ex
  obtain ⟨x, ex, kP⟩ := sh_o w.1 kv1 (j := 4) (k := 4) rfl
  cases gP.symm.trans ex
  obtain ⟨x, ex, kx0, -⟩ := sh_f w.1 kP (j := 0) (k := 14) (m := 192) rfl
  cases g0.symm.trans ex
  have dd : ∀ {a c j b a' c' j' b'}, jk Z a c → jk Z a' c' → jr Z a j = some b → jr Z a' j' = some b' → jsr c j = false → jsr c' j' = false → ¬ (c = c' ∧ j = j') → b ≠ b' := fun ka ka' h h' s s' n e => by
    subst e
    obtain ⟨rfl, rfl⟩ := w.2.1.2.2 _ _ _ _ _ _ _ ka ka' h h' s s'
    exact n ⟨ka.2.symm.trans ka'.2, rfl⟩
  unfold f_X2_getStairs
  intro b1 e1
  cases h0.symm.trans e1
  intro b2 e2
  cases g1.symm.trans e2
  refine ⟨by decide, ?_⟩
  intro I4 e4
  have w4 : WD Z I4 := by rw [e4]; exact WD_cpy w 8 1 kv1 g1 kx1 rfl rfl (by decide) (fun _ _ _ => trivial)
  have f4 : FR Ws_X2_getStairs Z I Z I4 := by rw [e4]; exact FR_upA w.2.1 kv1 g1 kx1 rfl rfl (by decide)
  have o4 : ∀ a, a ≠ x1 → I4 a = I a := fun a ha => by rw [e4]; exact va_up_ne _ _ ha
  intro b5 e5
  cases h1.symm.trans e5
  intro b6 e6
  cases g2.symm.trans e6
  refine ⟨by decide, ?_⟩
  intro I8 e8
  have r1 : ∀ q, rg 0 20 (I4 a1 q) := fun q => w4.arr 2 1 kv0 h1 k1 rfl rfl q
  have w8 : WD Z I8 := by rw [e8]; exact WD_cpy w4 8 2 kv1 g2 kx2 rfl rfl (by decide) (fun q _ _ => r1 _)
  have f8 : FR Ws_X2_getStairs Z I Z I8 := f4.trans w.1 w.2.1 (by rw [e8]; exact FR_upA w4.2.1 kv1 g2 kx2 rfl rfl (by decide))
  have o8 : ∀ a, a ≠ x2 → I8 a = I4 a := fun a ha => by rw [e8]; exact va_up_ne _ _ ha
  intro b9 e9
  cases gP.symm.trans e9
  intro b10 e10
  cases h2.symm.trans e10
  unfold f_X4_restore
  intro b11 e11
  cases g0.symm.trans e11
  refine ⟨⟨by decide, by decide, by decide, by rw [l2]; decide, by decide⟩, ?_⟩
  intro I13 e13 I14 e14
  have w13 : WD Z I13 := by rw [e13]; exact WD_cpy w8 4 0 kP g0 kx0 rfl rfl (by decide) (fun _ _ _ => trivial)
  have f13 : FR Ws_X2_getStairs Z I Z I13 := f8.trans w.1 w.2.1 (by rw [e13]; exact FR_upA w8.2.1 kP g0 kx0 rfl rfl (by decide))
  have o13 : ∀ a, a ≠ x0 → I13 a = I8 a := fun a ha => by rw [e13]; exact va_up_ne _ _ ha
  have w14 : WD Z I14 := by rw [e14]; exact WD_putF w13 4 4 kP (by decide) (by decide) (show rg 0 8 _ from ⟨by decide, by decide⟩)
  have f14 : FR Ws_X2_getStairs Z I Z I14 := f13.trans w.1 w.2.1 (by rw [e14]; exact FR_putF kP (by decide) (by decide))
  refine s_X4_findMains w14 uP kP (fun I15 L15 w15 f15 => ?_)
  have a1' : I15 x1 = I13 x1 := by rw [f15.2.2.2 v1 8 1 x1 kv1 g1 (by rw [kx1.2]; rfl) rfl (by decide), e14, jpI_ne (ks_ne kx1 kP (by decide))]
  have a2' : I15 x2 = I13 x2 := by rw [f15.2.2.2 v1 8 2 x2 kv1 g2 (by rw [kx2.2]; rfl) rfl (by decide), e14, jpI_ne (ks_ne kx2 kP (by decide))]
  have a0' : I15 x0 = I13 x0 := by rw [f15.2.2.2 uP 4 0 x0 kP g0 (by rw [kx0.2]; rfl) rfl (by decide), e14, jpI_ne (ks_ne kx0 kP (by decide))]
  refine hQ I15 L15 w15 (f14.trans w.1 w.2.1 (f15.mono (by decide))) (fun s hs => ?_) (fun s hs => ?_) (fun s hs => ?_) ?_
  · rw [a1', o13 x1 (dd kv1 kP g1 g0 rfl rfl (by decide)), o8 x1 (ds_ne w.2.1 kv1 g1 g2 rfl rfl (by decide)), e4, va_up_self, z24, cpy_all hs]
  · rw [a2', o13 x2 (dd kv1 kP g2 g0 rfl rfl (by decide)), e8, va_up_self, z24, cpy_all hs, o4 a1 (dd kv0 kv1 h1 g1 rfl rfl (by decide))]
  · rw [a0', e13, va_up_self, z192, cpy_all hs, o8 a2 (dd kv0 kv1 h2 g2 rfl rfl (by decide)), o4 a2 (dd kv0 kv1 h2 g1 rfl rfl (by decide))]
  · rw [f15.2.2.1 uP 4 4 kP (by decide) (by decide), e14, jpI_at]; rfl
def AGC (Z : jZ) (v0 uS : Nat) (v : Int32) (r : Int) (I I' : jI) : Prop := ∀ uF uP x0 x1 x2 x5, jr Z v0 2 = some uF → jr Z uF 4 = some uP → jr Z uP 0 = some x0 → jr Z uF 1 = some x1 → jr Z uF 2 = some x2 → jr Z v0 5 = some x5 →
  (r = 1 → ∀ b a0 a1 a2 a3, jr Z uS v.toNatClampNeg = some b → jr Z b 0 = some a0 → jr Z b 1 = some a1 → jr Z b 2 = some a2 → jr Z b 3 = some a3 → (∀ s, s < 24 → I' x1 s = I a0 s) ∧ (∀ s, s < 24 → I' x2 s = I a1 s) ∧ (∀ s, s < 192 → I' x0 s = I a2 s) ∧ (∀ s, s < 8 → I' x5 s = I a3 s) ∧ (I' uP 4).toInt = 0) ∧ (r = 0 → I' = I)
theorem s14_X11_again {Z : jZ} {I : jI} {L : jL} (w : WD Z I) (v0 : Nat) (v1 : Int32) (kv0 : jk Z v0 11) (uS : Nat) (huS : jr Z v0 8 = some uS) {Q : Int32 → jI → jL → Prop} (hQ : ∀ (r : Int32) (I' : jI) (L' : jL), WD Z I' → FR Ws_X11_again Z I Z I' → YN r.toInt (AG11 Z I uS v1) → AGC Z v0 uS v1 r.toInt I I' → Q r I' L') : f_X11_again v0 v1 Z I L Q := by
  obtain ⟨x, ex, kS, lS⟩ := sh_f w.1 kv0 (j := 8) (k := 17) (m := 2) rfl
  cases huS.symm.trans ex
  obtain ⟨uF, huF, kF⟩ := sh_o w.1 kv0 (j := 2) (k := 8) rfl
  obtain ⟨uP, huP, kP⟩ := sh_o w.1 kF (j := 4) (k := 4) rfl
  obtain ⟨x0, hx0, kx0, -⟩ := sh_f w.1 kP (j := 0) (k := 14) (m := 192) rfl
  obtain ⟨x1, hx1, kx1, -⟩ := sh_f w.1 kF (j := 1) (k := 14) (m := 24) rfl
  obtain ⟨x2, hx2, kx2, -⟩ := sh_f w.1 kF (j := 2) (k := 14) (m := 24) rfl
  obtain ⟨uE, hE, kE, lE⟩ := sh_f w.1 kv0 (j := 5) (k := 14) (m := 8) rfl
  have same : AGC Z v0 uS v1 (0 : Int32).toInt I I := fun _ _ _ _ _ _ _ _ _ _ _ _ => ⟨fun h => absurd h (by decide), fun _ => rfl⟩
  have bad : ¬ (0 ≤ v1.toInt ∧ v1.toInt ≤ 1) → Q (0 : Int32) I L := fun h => hQ _ I L w FR.rf (Or.inr ⟨rfl, fun g => h g.1⟩) same
  unfold f_X11_again
  refine ⟨fun c => bad (by have c := (i_lt (x := v1) (y := 0) rfl (show (0 : Int32).toInt = 0 from rfl)).mp c; omega), fun c => ?_⟩
  have c := (not_congr (i_lt (x := v1) (y := 0) rfl (show (0 : Int32).toInt = 0 from rfl))).mp c
  intro b20 e20
  cases huS.symm.trans e20
  refine ⟨fun c2 => bad (by have c2 := (i_le (x := 2) (y := v1) (show (2 : Int32).toInt = 2 from rfl) rfl).mp c2; omega), fun c2 => ?_⟩
  have c2 := (not_congr (i_le (x := 2) (y := v1) (show (2 : Int32).toInt = 2 from rfl) rfl)).mp c2
  have n1 := i_nat (x := v1) rfl (by omega)
  intro b22 e22
  cases huS.symm.trans e22
  refine ⟨vi_of rfl (by omega) (by omega), ?_⟩
  intro b24 e24
  obtain ⟨y, ey, ky⟩ := w.1.2.2.1 uS kS v1.toNatClampNeg (by rw [lS]; omega)
  cases e24.symm.trans ey
  refine ⟨fun c8 => ?_, fun c8 => hQ _ I L w FR.rf (Or.inr ⟨rfl, fun g => ?_⟩) same⟩
  · obtain ⟨a0, ha0, ka0, -⟩ := sh_f w.1 ky (j := 0) (k := 14) (m := 24) rfl
    obtain ⟨a1, ha1, ka1, -⟩ := sh_f w.1 ky (j := 1) (k := 14) (m := 24) rfl
    obtain ⟨a2, ha2, ka2, -⟩ := sh_f w.1 ky (j := 2) (k := 14) (m := 192) rfl
    obtain ⟨uG, hG, kG, lG⟩ := sh_f w.1 ky (j := 3) (k := 14) (m := 8) rfl
    intro b26 e26
    cases huS.symm.trans e26
    refine ⟨vi_of rfl (by omega) (by omega), ?_⟩
    intro b28 e28
    cases e24.symm.trans e28
    intro b29 e29
    cases huF.symm.trans e29
    refine ge_stairs w b24 uF ky kF a0 a1 a2 x1 x2 uP x0 ha0 ha1 ha2 hx1 hx2 huP hx0 (fun I1 L1 w1 f1 p1 p2 p0 p4 => ?_)
    intro b36 e36
    cases hG.symm.trans e36
    intro b37 e37
    cases hE.symm.trans e37
    refine ⟨by decide, ?_⟩
    intro I39 e39
    have w39 : WD Z I39 := by rw [e39]; exact WD_cpy w1 11 5 kv0 hE kE rfl rfl (by decide) (fun _ _ _ => trivial)
    have f39 : FR [(11, 5)] Z I1 Z I39 := by rw [e39]; exact FR_upA w1.2.1 kv0 hE kE rfl rfl List.mem_cons_self
    have g39 : FR Ws_X11_again Z I Z I39 := (f1.mono (by decide)).trans w.1 w.2.1 (f39.mono (by decide))
    have z0 : (0 : Int32).toInt = 0 := rfl
    have gG : I1 uG = I uG := f1.2.2.2 b24 2 3 uG ky hG (by rw [kG.2]; rfl) rfl (by decide)
    refine ⟨7, l13_X11_again_L59 w39 v0 v1 kv0 b24 ky (fun I' L' w' f' => ?_) 7 0 I39 L1 w39 FR.rf (by rw [z0]; omega) (by rw [z0]; omega)⟩
    refine hQ _ I' L' w' (g39.trans w.1 w.2.1 (f'.mono (by decide))) (Or.inl ⟨rfl, by omega, b24, e24, c8⟩) ?_
    intro yF yP y0 y1 y2 y5 g1 g2 g3 g4 g5 g6
    cases huF.symm.trans g1; cases huP.symm.trans g2; cases hx0.symm.trans g3; cases hx1.symm.trans g4; cases hx2.symm.trans g5; cases hE.symm.trans g6
    refine ⟨fun _ b c0 c1 c2 c3 hb q0 q1 q2 q3 => ?_, fun h => absurd h (by decide)⟩
    cases e24.symm.trans hb
    cases ha0.symm.trans q0; cases ha1.symm.trans q1; cases ha2.symm.trans q2; cases hG.symm.trans q3
    refine ⟨fun s hs => ?_, fun s hs => ?_, fun s hs => ?_, fun s hs => ?_, ?_⟩
    · rw [f'.2.2.2 uF 8 1 x1 kF hx1 (by rw [kx1.2]; rfl) rfl (by decide), f39.2.2.2 uF 8 1 x1 kF hx1 (by rw [kx1.2]; rfl) rfl (by decide)]; exact p1 s hs
    · rw [f'.2.2.2 uF 8 2 x2 kF hx2 (by rw [kx2.2]; rfl) rfl (by decide), f39.2.2.2 uF 8 2 x2 kF hx2 (by rw [kx2.2]; rfl) rfl (by decide)]; exact p2 s hs
    · rw [f'.2.2.2 uP 4 0 x0 kP hx0 (by rw [kx0.2]; rfl) rfl (by decide), f39.2.2.2 uP 4 0 x0 kP hx0 (by rw [kx0.2]; rfl) rfl (by decide)]; exact p0 s hs
    · rw [f'.2.2.2 v0 11 5 uE kv0 hE (by rw [kE.2]; rfl) rfl (by decide), e39, va_up_self, z8, cpy_all hs, gG]
    · rw [f'.2.2.1 uP 4 4 kP (by decide) (by decide), f39.2.2.1 uP 4 4 kP (by decide) (by decide)]; exact p4
  · obtain ⟨-, b', hb', hn⟩ := g
    cases e24.symm.trans hb'
    exact hn c8
/-- again of the reference -/
theorem ag_take {Z : jZ} {I : jI} {L : jL} {v0 u62 i m : Nat} {Q : Int32 → jI → jL → Prop} (w : WD Z I) (k0 : jk Z v0 12) (h62 : jr Z v0 62 = some u62) (hi : i < 2) (hm : m < 266) (t : (I v0 66).toInt = 266 * (i : Int) + (m : Int)) (hQ : ∀ (I' : jI) (L' : jL), WD Z I' → FR [(12, 66)] Z I Z I' → (I' v0 66).toInt = 266 * (i : Int) + ((m + 1 : Nat) : Int) → okK m (I u62 (266 * i + m)) → Q (I u62 (266 * i + m)) I' L') : f_X12_take v0 Z I L Q := by
  obtain ⟨x, ex, k62, l62⟩ := sh_f w.1 k0 (j := 62) (k := 14) (m := 532) rfl
  cases h62.symm.trans ex
  have ne : u62 ≠ v0 := ks_ne k62 k0 (by decide)
  have z1 : (1 : Int32).toInt = 1 := rfl
  unfold f_X12_take
  intro I1 e1 b2 e2
  cases h62.symm.trans e2
  have t1 : (I1 v0 66).toInt = 266 * (i : Int) + (m : Int) + 1 := by rw [e1, jpI_at]; exact i_add t z1 (by omega) (by omega)
  have t2 : ((I1 v0 66) - (1 : Int32)).toInt = 266 * (i : Int) + (m : Int) := (i_sub t1 z1 (by omega) (by omega)).trans (by omega)
  have n2 := i_nat t2 (by omega)
  have n2 : ((I1 v0 66) - (1 : Int32)).toNatClampNeg = 266 * i + m := by omega
  refine ⟨vi_of t2 (by omega) (by omega), ?_⟩
  rw [n2, show I1 u62 = I u62 by rw [e1, jpI_ne ne]]
  have ok : okK ((266 * i + m) % 266) (I u62 (266 * i + m)) := w.arr 12 62 k0 h62 k62 rfl rfl (266 * i + m)
  rw [show (266 * i + m) % 266 = m by omega] at ok
  refine hQ I1 L ?_ ?_ (by omega) ok
  · rw [e1]; exact WD_putF w 12 66 k0 (by decide) (by decide) trivial
  · rw [e1]; exact FR_putF k0 (by decide) List.mem_cons_self
theorem ag_L83 {Z : jZ} {J : jI} (wJ : WD Z J) (v0 : Nat) (v1 : Int32) (k0 : jk Z v0 12) (u62 : Nat) (h62 : jr Z v0 62 = some u62) (k62 : jk Z u62 14) (u5 : Nat) (h5 : jr Z v0 5 = some u5) (k5 : jk Z u5 14) (i : Nat) (hi : i < 2) (ev : v1.toInt = (i : Int)) {Q : Int32 → jI → jL → Prop}
    (hQ : ∀ (I : jI) (L : jL), WD Z I → FR ((12, 5) :: Wag) Z J Z I → (∀ s, s < 192 → I u5 s = J u62 (266 * i + 48 + s)) → (I v0 52).toInt = 0 → Q (1 : Int32) I L) :
    ∀ (n p : Nat) (v2 : Int32) (I : jI) (L : jL), WD Z I → FR ((12, 5) :: Wag) Z J Z I → (I v0 66).toInt = 266 * (i : Int) + ((48 + p : Nat) : Int) → v2.toInt = (p : Int) → p ≤ 192 → (∀ s, s < p → I u5 s = J u62 (266 * i + 48 + s)) → 193 ≤ n + p → f_X12_again_L83 Z Q n v0 v1 v2 I L := by
  have z1 : (1 : Int32).toInt = 1 := rfl
  intro n
  induction n with
  | zero => intro p v2 I L w f t e1 e2 e3 e4; exfalso; omega
  | succ n ih =>
    intro p v2 I L w f t e1 e2 e3 e4
    have y62 : I u62 = J u62 := f.2.2.2 v0 12 62 u62 k0 h62 (by rw [k62.2]; rfl) rfl (by decide)
    unfold f_X12_again_L83
    refine ⟨fun c => ?_, fun c => ?_⟩
    · have c := (i_le (show (192 : Int32).toInt = 192 from rfl) e1).mp c
      have z0 : (0 : Int32).toInt = 0 := rfl
      refine ⟨7, l13_X12_again_L108 w v0 v1 k0 (fun I' L' w' f' h52 => ?_) 7 0 I L w FR.rf (by rw [z0]; omega) (by rw [z0]; omega)⟩
      refine hQ I' L' w' (f.trans wJ.1 wJ.2.1 (f'.mono (fun p hp => List.mem_cons_of_mem _ hp))) (fun s hs => ?_) h52
      rw [f'.2.2.2 v0 12 5 u5 k0 h5 (by rw [k5.2]; rfl) rfl (by decide)]
      exact e3 s (by omega)
    have c := (not_congr (i_le (show (192 : Int32).toInt = 192 from rfl) e1)).mp c
    have q := i_nat e1 (by omega)
    have q : v2.toNatClampNeg = p := by omega
    intro b52 e52
    cases h5.symm.trans e52
    refine ag_take w k0 h62 hi (by omega) t (fun I1 L1 w1 f1 t1 _ => ?_)
    refine ⟨vi_of e1 (by omega) (by omega), ?_⟩
    intro I61 e61 x62 e62
    rw [q, y62] at e61
    have w61 : WD Z I61 := by rw [e61]; exact WD_putA w1 12 5 k0 h5 k5 rfl rfl (by decide) trivial
    have f61 : FR ((12, 5) :: Wag) Z J Z I61 := (f.trans wJ.1 wJ.2.1 (f1.mono (by decide))).trans wJ.1 wJ.2.1 (by rw [e61]; exact FR_upA w1.2.1 k0 h5 k5 rfl rfl (by decide))
    refine ih (p + 1) x62 I61 L1 w61 f61 ?_ ?_ (by omega) (fun s hs => ?_) (by omega)
    · rw [e61, jpI_ne (ks_ne k0 k5 (by decide)), t1]; omega
    · rw [e62]; exact (i_add e1 z1 (by omega) (by omega)).trans (by omega)
    · by_cases hq : s = p
      · rw [hq, e61, jpI_at, show 266 * i + 48 + p = 266 * i + (48 + p) by omega]
      · rw [e61, jpI_off hq, f1.2.2.2 v0 12 5 u5 k0 h5 (by rw [k5.2]; rfl) rfl (by decide)]
        exact e3 s (by omega)
theorem ag_L49 {Z : jZ} {J : jI} (wJ : WD Z J) (v0 : Nat) (v1 : Int32) (k0 : jk Z v0 12) (u62 : Nat) (h62 : jr Z v0 62 = some u62) (k62 : jk Z u62 14) (u2 : Nat) (h2 : jr Z v0 2 = some u2) (k2 : jk Z u2 14) (u3 : Nat) (h3 : jr Z v0 3 = some u3) (k3 : jk Z u3 14) (u5 : Nat) (h5 : jr Z v0 5 = some u5) (k5 : jk Z u5 14) (i : Nat) (hi : i < 2) (ev : v1.toInt = (i : Int)) {Q : Int32 → jI → jL → Prop}
    (hQ : ∀ (I : jI) (L : jL), WD Z I → FR ((12, 2) :: (12, 3) :: (12, 5) :: Wag) Z J Z I → (∀ s, s < 24 → I u2 s = J u62 (266 * i + 2 * s)) → (∀ s, s < 24 → I u3 s = J u62 (266 * i + 2 * s + 1)) → (∀ s, s < 192 → I u5 s = J u62 (266 * i + 48 + s)) → (I v0 52).toInt = 0 → Q (1 : Int32) I L) :
    ∀ (n p : Nat) (v2 : Int32) (I : jI) (L : jL), WD Z I → FR ((12, 2) :: (12, 3) :: (12, 5) :: Wag) Z J Z I → (I v0 66).toInt = 266 * (i : Int) + ((2 * p : Nat) : Int) → v2.toInt = (p : Int) → p ≤ 24 → (∀ s, s < p → I u2 s = J u62 (266 * i + 2 * s) ∧ I u3 s = J u62 (266 * i + 2 * s + 1)) → 25 ≤ n + p → f_X12_again_L49 Z Q n v0 v1 v2 I L := by
  have z1 : (1 : Int32).toInt = 1 := rfl
  have z0 : (0 : Int32).toInt = ((0 : Nat) : Int) := rfl
  intro n
  induction n with
  | zero => intro p v2 I L w f t e1 e2 e3 e4; exfalso; omega
  | succ n ih =>
    intro p v2 I L w f t e1 e2 e3 e4
    have y62 : I u62 = J u62 := f.2.2.2 v0 12 62 u62 k0 h62 (by rw [k62.2]; rfl) rfl (by decide)
    unfold f_X12_again_L49
    refine ⟨fun c => ?_, fun c => ?_⟩
    · have c := (i_le (show (24 : Int32).toInt = 24 from rfl) e1).mp c
      refine ⟨193, ag_L83 w v0 v1 k0 u62 h62 k62 u5 h5 k5 i hi ev (fun I' L' w' f' g5 g52 => ?_) 193 0 0 I L w FR.rf (by rw [t]; omega) z0 (by omega) (fun s hs => absurd hs (by omega)) (by omega)⟩
      refine hQ I' L' w' (f.trans wJ.1 wJ.2.1 (f'.mono (fun p hp => List.mem_cons_of_mem _ (List.mem_cons_of_mem _ hp)))) (fun s hs => ?_) (fun s hs => ?_) (fun s hs => ?_) g52
      · rw [f'.2.2.2 v0 12 2 u2 k0 h2 (by rw [k2.2]; rfl) rfl (by decide)]; exact (e3 s (by omega)).1
      · rw [f'.2.2.2 v0 12 3 u3 k0 h3 (by rw [k3.2]; rfl) rfl (by decide)]; exact (e3 s (by omega)).2
      · rw [g5 s hs, y62]
    have c := (not_congr (i_le (show (24 : Int32).toInt = 24 from rfl) e1)).mp c
    have q := i_nat e1 (by omega)
    have q : v2.toNatClampNeg = p := by omega
    intro b65 e65
    cases h2.symm.trans e65
    refine ag_take w k0 h62 hi (by omega) t (fun I1 L1 w1 f1 t1 ok1 => ?_)
    refine ⟨vi_of e1 (by omega) (by omega), ?_⟩
    intro I74 e74
    rw [q] at e74
    have w74 : WD Z I74 := by rw [e74]; exact WD_putA w1 12 2 k0 h2 k2 rfl rfl (by decide) (ok1.1 (by omega) (by omega))
    have f74 : FR ((12, 2) :: (12, 3) :: (12, 5) :: Wag) Z J Z I74 := (f.trans wJ.1 wJ.2.1 (f1.mono (by decide))).trans wJ.1 wJ.2.1 (by rw [e74]; exact FR_upA w1.2.1 k0 h2 k2 rfl rfl (by decide))
    have t74 : (I74 v0 66).toInt = 266 * (i : Int) + ((2 * p + 1 : Nat) : Int) := by rw [e74, jpI_ne (ks_ne k0 k2 (by decide)), t1]
    have y74 : I74 u62 = J u62 := f74.2.2.2 v0 12 62 u62 k0 h62 (by rw [k62.2]; rfl) rfl (by decide)
    intro b75 e75
    cases h3.symm.trans e75
    refine ag_take w74 k0 h62 hi (by omega) t74 (fun I2 L2 w2 f2 t2 ok2 => ?_)
    refine ⟨vi_of e1 (by omega) (by omega), ?_⟩
    intro I84 e84 x85 e85
    rw [q] at e84
    have w84 : WD Z I84 := by rw [e84]; exact WD_putA w2 12 3 k0 h3 k3 rfl rfl (by decide) (ok2.2.1 (by omega) (by omega))
    have f84 : FR ((12, 2) :: (12, 3) :: (12, 5) :: Wag) Z J Z I84 := (f74.trans wJ.1 wJ.2.1 (f2.mono (by decide))).trans wJ.1 wJ.2.1 (by rw [e84]; exact FR_upA w2.2.1 k0 h3 k3 rfl rfl (by decide))
    have n23 : u2 ≠ u3 := ds_ne wJ.2.1 k0 h2 h3 rfl rfl (by decide)
    refine ih (p + 1) x85 I84 L2 w84 f84 ?_ ?_ (by omega) (fun s hs => ?_) (by omega)
    · rw [e84, jpI_ne (ks_ne k0 k3 (by decide)), t2]; omega
    · rw [e85]; exact (i_add e1 z1 (by omega) (by omega)).trans (by omega)
    · have s2 : I84 u2 s = I74 u2 s := by rw [e84, jpI_ne n23, f2.2.2.2 v0 12 2 u2 k0 h2 (by rw [k2.2]; rfl) rfl (by decide)]
      by_cases hq : s = p
      · rw [s2, hq, e74, jpI_at, e84, jpI_at, y62, y74]
        exact ⟨rfl, by rw [show 266 * i + 2 * p + 1 = 266 * i + (2 * p + 1) by omega]⟩
      · rw [s2, e74, jpI_off hq, f1.2.2.2 v0 12 2 u2 k0 h2 (by rw [k2.2]; rfl) rfl (by decide), e84, jpI_off hq, f2.2.2.2 v0 12 3 u3 k0 h3 (by rw [k3.2]; rfl) rfl (by decide), e74, jpI_ne (fun e => n23 e.symm), f1.2.2.2 v0 12 3 u3 k0 h3 (by rw [k3.2]; rfl) rfl (by decide)]
        exact e3 s (by omega)
def AGM (Z : jZ) (v0 : Nat) (v : Int32) (r : Int) (I I' : jI) : Prop := ∀ u62 u2 u3 u5, jr Z v0 62 = some u62 → jr Z v0 2 = some u2 → jr Z v0 3 = some u3 → jr Z v0 5 = some u5 →
  (r = 1 → (∀ s, s < 24 → I' u2 s = I u62 (266 * v.toNatClampNeg + 2 * s)) ∧ (∀ s, s < 24 → I' u3 s = I u62 (266 * v.toNatClampNeg + 2 * s + 1)) ∧ (∀ s, s < 192 → I' u5 s = I u62 (266 * v.toNatClampNeg + 48 + s)) ∧ (I' v0 52).toInt = 0) ∧ (r = 0 → I' u2 = I u2 ∧ I' u3 = I u3 ∧ I' u5 = I u5 ∧ I' v0 52 = I v0 52)
theorem s14_X12_again {Z : jZ} {I : jI} {L : jL} (w : WD Z I) (v0 : Nat) (v1 : Int32) (kv0 : jk Z v0 12) (uK : Nat) (huK : jr Z v0 63 = some uK) (uC : Nat) (huC : jr Z v0 64 = some uC) {Q : Int32 → jI → jL → Prop} (hQ : ∀ (r : Int32) (I' : jI) (L' : jL), WD Z I' → FR Ws_X12_again Z I Z I' → YN r.toInt (AG12 I v0 uK uC v1) → AGM Z v0 v1 r.toInt I I' → Q r I' L') : f_X12_again v0 v1 Z I L Q := by
  obtain ⟨x, ex, kK, lK⟩ := sh_f w.1 kv0 (j := 63) (k := 16) (m := 2) rfl
  cases huK.symm.trans ex
  obtain ⟨y, ey, kC, lC⟩ := sh_f w.1 kv0 (j := 64) (k := 14) (m := 2) rfl
  cases huC.symm.trans ey
  obtain ⟨u62, h62, k62, -⟩ := sh_f w.1 kv0 (j := 62) (k := 14) (m := 532) rfl
  obtain ⟨u2, h2, k2, -⟩ := sh_f w.1 kv0 (j := 2) (k := 14) (m := 24) rfl
  obtain ⟨u3, h3, k3, -⟩ := sh_f w.1 kv0 (j := 3) (k := 14) (m := 24) rfl
  obtain ⟨u5, h5, k5, -⟩ := sh_f w.1 kv0 (j := 5) (k := 14) (m := 192) rfl
  have nK0 : uK ≠ v0 := ks_ne kK kv0 (by decide)
  have nC0 : uC ≠ v0 := ks_ne kC kv0 (by decide)
  unfold f_X12_again
  intro I1 e1
  have w1 : WD Z I1 := by rw [e1]; exact WD_putF w 12 22 kv0 (by decide) (by decide) trivial
  have f1 : FR Ws_X12_again Z I Z I1 := by rw [e1]; exact FR_putF kv0 (by decide) (by decide)
  have o1 : ∀ a, a ≠ v0 → I1 a = I a := fun a ha => by rw [e1]; exact jpI_ne ha
  have k1 : I1 uK = I uK := o1 uK nK0
  have c1 : I1 uC = I uC := o1 uC nC0
  have s1 : I1 v0 7 = I v0 7 := by rw [e1, jpI_o (by decide)]
  have z0 : (0 : Int32).toInt = 0 := rfl
  have z1 : (1 : Int32).toInt = 1 := rfl
  have same : AGM Z v0 v1 (0 : Int32).toInt I I1 := by
    intro a1 a2 a3 a5 g1 g2 g3 g5
    cases h62.symm.trans g1; cases h2.symm.trans g2; cases h3.symm.trans g3; cases h5.symm.trans g5
    exact ⟨fun h => absurd h (by decide), fun _ => ⟨o1 u2 (ks_ne k2 kv0 (by decide)), o1 u3 (ks_ne k3 kv0 (by decide)), o1 u5 (ks_ne k5 kv0 (by decide)), by rw [e1, jpI_o (by decide)]⟩⟩
  refine s_X12_in w1 _ _ _ (fun r p => ⟨fun c => ?_, fun c => ?_⟩)
  · have c := yz c
    exact hQ _ I1 L w1 f1 (Or.inr ⟨rfl, fun g => by have := g.1; omega⟩) same
  have c := nz c
  have hv : 0 ≤ v1.toInt ∧ v1.toInt ≤ 1 := by omega
  have n1 := i_nat (x := v1) rfl (by omega)
  intro b95 e95
  cases huK.symm.trans e95
  refine ⟨vi_of rfl (by omega) (by omega), fun c8 => ?_, fun c8 => ?_⟩
  · exact hQ _ I1 L w1 f1 (Or.inr ⟨rfl, fun g => g.2.1 (by rw [← k1]; exact c8)⟩) same
  intro b98 e98
  cases huC.symm.trans e98
  refine ⟨vi_of rfl (by omega) (by omega), fun c9 => ?_, fun c9 => ?_⟩
  · intro I2 e2
    have w2 : WD Z I2 := by rw [e2]; exact WD_putF w1 12 66 kv0 (by decide) (by decide) trivial
    have f2 : FR Ws_X12_again Z I Z I2 := f1.trans w.1 w.2.1 (by rw [e2]; exact FR_putF kv0 (by decide) (by decide))
    have t66 : (I2 v0 66).toInt = 266 * (v1.toNatClampNeg : Int) + ((2 * 0 : Nat) : Int) := by rw [e2, jpI_at]; exact (i_mul (show (266 : Int32).toInt = 266 from rfl) rfl (by omega) (by omega)).trans (by omega)
    refine ⟨25, ag_L49 w2 v0 v1 kv0 u62 h62 k62 u2 h2 k2 u3 h3 k3 u5 h5 k5 v1.toNatClampNeg (by omega) (by omega) (fun I' L' w' f' g2 g3 g5 g52 => ?_) 25 0 0 I2 L w2 FR.rf t66 rfl (by omega) (fun s hs => absurd hs (by omega)) (by omega)⟩
    have y62 : I2 u62 = I u62 := by rw [e2, jpI_ne (ks_ne k62 kv0 (by decide))]; exact o1 u62 (ks_ne k62 kv0 (by decide))
    refine hQ _ I' L' w' (f2.trans w.1 w.2.1 (f'.mono (by decide))) (Or.inl ⟨rfl, hv, by rw [← k1]; exact c8, by rw [← c1, ← s1]; exact c9⟩) ?_
    intro a1 a2 a3 a5 q1 q2 q3 q5
    cases h62.symm.trans q1; cases h2.symm.trans q2; cases h3.symm.trans q3; cases h5.symm.trans q5
    rw [y62] at g2 g3 g5
    exact ⟨fun _ => ⟨g2, g3, g5, g52⟩, fun h => absurd h (by decide)⟩
  · exact hQ _ I1 L w1 f1 (Or.inr ⟨rfl, fun g => c9 (by rw [c1, s1]; exact g.2.2)⟩) same
