section
def Wag : List (Nat × Nat) := [(12, 14), (12, 15), (12, 16), (12, 17), (12, 52), (12, 66)]
set_option maxHeartbeats 4000000 in
set_option maxRecDepth 100000 in
theorem l13_X12_again_L175 {Z : jZ} {I0 : jI} {Q : Int32 → jI → jL → Prop} (w0 : WD Z I0) (v0 : Nat) (v1 : Int32) (kv0 : jk Z v0 12) (hQ : ∀ (I' : jI) (L' : jL), WD Z I' → FR Wag Z I0 Z I' → (I' v0 52).toInt = 0 → Q (1 : Int32) I' L') : ∀ (n : Nat) (v2 : Int32) (I : jI) (L : jL), WD Z I → FR Wag Z I0 Z I →   (0 ≤ v2.toInt ∧ v2.toInt ≤ 8 ∧ (I v0 66).toInt = 266 * v1.toInt + 258 + 1 * v2.toInt ∧ 0 ≤ v1.toInt ∧ v1.toInt ≤ 1) → 8 - v2.toInt < (n : Int) → f_X12_again_L175  Z Q n v0 v2 I L := by
  intro n
  induction n with
  | zero =>
    intro v2 I L w_I q_I   li  me
    exfalso
    omega
  | succ n ih =>
    intro v2 I L w_I q_I   li  me
    unfold f_X12_again_L175
    have rv2 := i_rng v2
    have rv1 := i_rng v1
    refine ⟨fun c1 => ?_, fun c1 => ?_⟩
    · skip
      first | (have t2 : (8) ≤ v2.toInt := (i_le (show (8 : Int32).toInt = 8 from rfl) rfl).mp c1) | (have t2 : (8 : Int32).toInt ≤ v2.toInt := (i_le rfl rfl).mp c1) | skip
      intro I3 eI3
      have t4 : (0 : Int32).toInt = 0 := rfl
      have w_I3 : WD Z I3 := by rw [eI3]; exact WD_putF w_I 12 52 kv0 (by decide) (by decide) (by constructor <;> omega)
      have f_I3 : FR [(12, 52)] Z I Z I3 := by rw [eI3]; exact FR_putF kv0 (by decide) List.mem_cons_self
      have q_I3 : FR Wag Z I0 Z I3 := q_I.trans w0.1 w0.2.1 (f_I3.mono (by decide))
      have u5 : (I3 v0 66).toInt = (I v0 66).toInt := by rw [f_I3.2.2.1 v0 12 66 kv0 (by decide) (by decide)]
      first | (have u6 : (I3 v0 52).toInt = (0) := by (rw [eI3, show jpI I v0 52 (0 : Int32) v0 52 = (0 : Int32) from jpI_at] <;> exact (show (0 : Int32).toInt = 0 from rfl))) | skip
      have t7 : (1 : Int32).toInt = 1 := rfl
      exact hQ I3 L w_I3 q_I3 (by rw [eI3, jpI_at]; rfl)
    · skip
      first | (have t8 : ¬ ((8) ≤ v2.toInt) := (not_congr (i_le (show (8 : Int32).toInt = 8 from rfl) rfl)).mp c1) | (have t8 : ¬ ((8 : Int32).toInt ≤ v2.toInt) := (not_congr (i_le rfl rfl)).mp c1) | skip
      intro b9 eb9
      obtain ⟨x10, ex10, kb9, lb9⟩ := sh_f w_I.1 kv0 (j := 17) (k := 14) (m := 8) rfl
      cases eb9.symm.trans ex10
      refine s_X12_take w_I v0 kv0  (by omega) (fun r11 I13 L14 w_I13 f_I13 p12 => ?_)
      have q_I13 : FR Wag Z I0 Z I13 := q_I.trans w0.1 w0.2.1 (f_I13.mono (by decide))
      have h15 := tkF (k := v1.toInt) (m := (I v0 66).toInt - 266 * v1.toInt) p12.2 (by omega) (by omega) (by omega)
      first | (have h151 := h15.1 (by omega) (by omega)) | (have h151 := h15.2.1 (by omega) (by omega)) | (have h151 := h15.2.2 (by omega) (by omega) (by omega)) | skip
      clear h15
      obtain ⟨p12_0, p12_1⟩ := p12
      have rr11 := i_rng r11
      have o16 : vp_in v2 8 := vi_of rfl (by omega) (by omega)
      refine ⟨o16, ?_⟩
      intro I17 eI17
      have w_I17 : WD Z I17 := by rw [eI17]; exact WD_putA w_I13 12 17 kv0 eb9 kb9 rfl rfl (by decide) trivial
      have f_I17 : FR [(12, 17)] Z I13 Z I17 := by rw [eI17]; exact FR_upA w_I13.2.1 kv0 eb9 kb9 rfl rfl List.mem_cons_self
      have q_I17 : FR Wag Z I0 Z I17 := q_I13.trans w0.1 w0.2.1 (f_I17.mono (by decide))
      have u18 : (I17 v0 66).toInt = (I13 v0 66).toInt := by rw [f_I17.2.2.1 v0 12 66 kv0 (by decide) (by decide)]
      intro x19 ex19
      have rx19 := i_rng x19
      first | (have tx19 : x19.toInt = v2.toInt + (1) := by (rw [ex19]; exact (i_add rfl (show (1 : Int32).toInt = 1 from rfl) (by omega) (by omega)))) | skip
      exact ih x19 I17 L14 w_I17 q_I17   (by omega)  (by omega)
set_option maxHeartbeats 4000000 in
set_option maxRecDepth 100000 in
theorem l13_X12_again_L108 {Z : jZ} {I0 : jI} {Q : Int32 → jI → jL → Prop} (w0 : WD Z I0) (v0 : Nat) (v1 : Int32) (kv0 : jk Z v0 12) (hQ : ∀ (I' : jI) (L' : jL), WD Z I' → FR Wag Z I0 Z I' → (I' v0 52).toInt = 0 → Q (1 : Int32) I' L') : ∀ (n : Nat) (v2 : Int32) (I : jI) (L : jL), WD Z I → FR Wag Z I0 Z I →   (0 ≤ v2.toInt ∧ v2.toInt ≤ 6 ∧ (I v0 66).toInt = 266 * v1.toInt + 240 + 3 * v2.toInt ∧ 0 ≤ v1.toInt ∧ v1.toInt ≤ 1) → 6 - v2.toInt < (n : Int) → f_X12_again_L108  Z Q n v0 v1 v2 I L := by
  intro n
  induction n with
  | zero =>
    intro v2 I L w_I q_I   li  me
    exfalso
    omega
  | succ n ih =>
    intro v2 I L w_I q_I   li  me
    unfold f_X12_again_L108
    have rv2 := i_rng v2
    have rv1 := i_rng v1
    refine ⟨fun c20 => ?_, fun c20 => ?_⟩
    · skip
      first | (have t21 : (6) ≤ v2.toInt := (i_le (show (6 : Int32).toInt = 6 from rfl) rfl).mp c20) | (have t21 : (6 : Int32).toInt ≤ v2.toInt := (i_le rfl rfl).mp c20) | skip
      have t22 : (0 : Int32).toInt = 0 := rfl
      exact ⟨(8 - (0 : Int32).toInt).toNat + 1, l13_X12_again_L175 w0 v0 v1 kv0   hQ   _ (0 : Int32) I L w_I q_I   (by omega)  (by omega)⟩
    · skip
      first | (have t23 : ¬ ((6) ≤ v2.toInt) := (not_congr (i_le (show (6 : Int32).toInt = 6 from rfl) rfl)).mp c20) | (have t23 : ¬ ((6 : Int32).toInt ≤ v2.toInt) := (not_congr (i_le rfl rfl)).mp c20) | skip
      refine s_X12_take w_I v0 kv0  (by omega) (fun r24 I26 L27 w_I26 f_I26 p25 => ?_)
      have q_I26 : FR Wag Z I0 Z I26 := q_I.trans w0.1 w0.2.1 (f_I26.mono (by decide))
      have h28 := tkF (k := v1.toInt) (m := (I v0 66).toInt - 266 * v1.toInt) p25.2 (by omega) (by omega) (by omega)
      first | (have h281 := h28.1 (by omega) (by omega)) | (have h281 := h28.2.1 (by omega) (by omega)) | (have h281 := h28.2.2 (by omega) (by omega) (by omega)) | skip
      clear h28
      obtain ⟨p25_0, p25_1⟩ := p25
      have rr24 := i_rng r24
      refine s_X12_take w_I26 v0 kv0  (by omega) (fun r29 I31 L32 w_I31 f_I31 p30 => ?_)
      have q_I31 : FR Wag Z I0 Z I31 := q_I26.trans w0.1 w0.2.1 (f_I31.mono (by decide))
      have h33 := tkF (k := v1.toInt) (m := (I26 v0 66).toInt - 266 * v1.toInt) p30.2 (by omega) (by omega) (by omega)
      first | (have h331 := h33.1 (by omega) (by omega)) | (have h331 := h33.2.1 (by omega) (by omega)) | (have h331 := h33.2.2 (by omega) (by omega) (by omega)) | skip
      clear h33
      obtain ⟨p30_0, p30_1⟩ := p30
      have rr29 := i_rng r29
      refine s_X12_take w_I31 v0 kv0  (by omega) (fun r34 I36 L37 w_I36 f_I36 p35 => ?_)
      have q_I36 : FR Wag Z I0 Z I36 := q_I31.trans w0.1 w0.2.1 (f_I36.mono (by decide))
      have h38 := tkF (k := v1.toInt) (m := (I31 v0 66).toInt - 266 * v1.toInt) p35.2 (by omega) (by omega) (by omega)
      first | (have h381 := h38.1 (by omega) (by omega)) | (have h381 := h38.2.1 (by omega) (by omega)) | (have h381 := h38.2.2 (by omega) (by omega) (by omega)) | skip
      clear h38
      obtain ⟨p35_0, p35_1⟩ := p35
      have rr34 := i_rng r34
      intro b39 eb39
      obtain ⟨x40, ex40, kb39, lb39⟩ := sh_f w_I36.1 kv0 (j := 65) (k := 14) (m := 2) rfl
      cases eb39.symm.trans ex40
      have o41 : vp_in v1 2 := vi_of rfl (by omega) (by omega)
      refine ⟨o41, ?_⟩
      refine ⟨fun c42 => ?_, fun c42 => ?_⟩
      · skip
        first | (have t43 : v2.toInt < (I36 b39 v1.toNatClampNeg).toInt := (i_lt rfl rfl).mp c42) | (have t43 : v2.toInt < (I36 b39 v1.toNatClampNeg).toInt := (i_lt rfl rfl).mp c42) | skip
        intro b44 eb44
        obtain ⟨x45, ex45, kb44, lb44⟩ := sh_f w_I36.1 kv0 (j := 14) (k := 14) (m := 6) rfl
        cases eb44.symm.trans ex45
        have o46 : vp_in v2 6 := vi_of rfl (by omega) (by omega)
        refine ⟨o46, ?_⟩
        intro I47 eI47
        have w_I47 : WD Z I47 := by rw [eI47]; exact WD_putA w_I36 12 14 kv0 eb44 kb44 rfl rfl (by decide) (by constructor <;> omega)
        have f_I47 : FR [(12, 14)] Z I36 Z I47 := by rw [eI47]; exact FR_upA w_I36.2.1 kv0 eb44 kb44 rfl rfl List.mem_cons_self
        have q_I47 : FR Wag Z I0 Z I47 := q_I36.trans w0.1 w0.2.1 (f_I47.mono (by decide))
        have u48 : (I47 v0 66).toInt = (I36 v0 66).toInt := by rw [f_I47.2.2.1 v0 12 66 kv0 (by decide) (by decide)]
        intro b49 eb49
        obtain ⟨x50, ex50, kb49, lb49⟩ := sh_f w_I47.1 kv0 (j := 15) (k := 14) (m := 6) rfl
        cases eb49.symm.trans ex50
        have o51 : vp_in v2 6 := vi_of rfl (by omega) (by omega)
        refine ⟨o51, ?_⟩
        intro I52 eI52
        have w_I52 : WD Z I52 := by rw [eI52]; exact WD_putA w_I47 12 15 kv0 eb49 kb49 rfl rfl (by decide) trivial
        have f_I52 : FR [(12, 15)] Z I47 Z I52 := by rw [eI52]; exact FR_upA w_I47.2.1 kv0 eb49 kb49 rfl rfl List.mem_cons_self
        have q_I52 : FR Wag Z I0 Z I52 := q_I47.trans w0.1 w0.2.1 (f_I52.mono (by decide))
        have u53 : (I52 v0 66).toInt = (I47 v0 66).toInt := by rw [f_I52.2.2.1 v0 12 66 kv0 (by decide) (by decide)]
        intro b54 eb54
        obtain ⟨x55, ex55, kb54, lb54⟩ := sh_f w_I52.1 kv0 (j := 16) (k := 14) (m := 6) rfl
        cases eb54.symm.trans ex55
        have o56 : vp_in v2 6 := vi_of rfl (by omega) (by omega)
        refine ⟨o56, ?_⟩
        intro I57 eI57
        have w_I57 : WD Z I57 := by rw [eI57]; exact WD_putA w_I52 12 16 kv0 eb54 kb54 rfl rfl (by decide) trivial
        have f_I57 : FR [(12, 16)] Z I52 Z I57 := by rw [eI57]; exact FR_upA w_I52.2.1 kv0 eb54 kb54 rfl rfl List.mem_cons_self
        have q_I57 : FR Wag Z I0 Z I57 := q_I52.trans w0.1 w0.2.1 (f_I57.mono (by decide))
        have u58 : (I57 v0 66).toInt = (I52 v0 66).toInt := by rw [f_I57.2.2.1 v0 12 66 kv0 (by decide) (by decide)]
        unfold f_X12_again_b167
        intro x59 ex59
        have rx59 := i_rng x59
        first | (have tx59 : x59.toInt = v2.toInt + (1) := by (rw [ex59]; exact (i_add rfl (show (1 : Int32).toInt = 1 from rfl) (by omega) (by omega)))) | skip
        exact ih x59 I57 L37 w_I57 q_I57   (by omega)  (by omega)
      · skip
        first | (have t60 : ¬ (v2.toInt < (I36 b39 v1.toNatClampNeg).toInt) := (not_congr (i_lt rfl rfl)).mp c42) | (have t60 : ¬ (v2.toInt < (I36 b39 v1.toNatClampNeg).toInt) := (not_congr (i_lt rfl rfl)).mp c42) | skip
        unfold f_X12_again_b167
        intro x61 ex61
        have rx61 := i_rng x61
        first | (have tx61 : x61.toInt = v2.toInt + (1) := by (rw [ex61]; exact (i_add rfl (show (1 : Int32).toInt = 1 from rfl) (by omega) (by omega)))) | skip
        exact ih x61 I36 L37 w_I36 q_I36   (by omega)  (by omega)
set_option maxHeartbeats 4000000 in
set_option maxRecDepth 100000 in
theorem l13_X11_again_L59 {Z : jZ} {I0 : jI} {Q : Int32 → jI → jL → Prop} (w0 : WD Z I0) (v0 : Nat) (v1 : Int32) (kv0 : jk Z v0 11) (v2 : Nat) (kv2 : jk Z v2 2) (hQ : ∀ (I' : jI) (L' : jL), WD Z I' → FR Ws_X2_getPilgrim Z I0 Z I' → Q (1 : Int32) I' L') : ∀ (n : Nat) (v3 : Int32) (I : jI) (L : jL), WD Z I → FR Ws_X2_getPilgrim Z I0 Z I →   (0 ≤ v3.toInt ∧ v3.toInt ≤ 6) → 6 - v3.toInt < (n : Int) → f_X11_again_L59  Z Q n v0 v2 v3 I L := by
  intro n
  induction n with
  | zero =>
    intro v3 I L w_I q_I   li  me
    exfalso
    omega
  | succ n ih =>
    intro v3 I L w_I q_I   li  me
    unfold f_X11_again_L59
    have rv3 := i_rng v3
    have rv1 := i_rng v1
    refine ⟨fun c1 => ?_, fun c1 => ?_⟩
    · skip
      first | (have t2 : (I v2 7).toInt ≤ v3.toInt := (i_le rfl rfl).mp c1) | (have t2 : (I v2 7).toInt ≤ v3.toInt := (i_le rfl rfl).mp c1) | skip
      have t3 : (1 : Int32).toInt = 1 := rfl
      exact hQ I L w_I q_I 
    · skip
      first | (have t4 : ¬ ((I v2 7).toInt ≤ v3.toInt) := (not_congr (i_le rfl rfl)).mp c1) | (have t4 : ¬ ((I v2 7).toInt ≤ v3.toInt) := (not_congr (i_le rfl rfl)).mp c1) | skip
      have t6 : 0 ≤ (I v0 4).toInt ∧ (I v0 4).toInt ≤ 6 := w_I.fld 11 4 kv0 (by decide)
      refine ⟨fun c7 => ?_, fun c7 => ?_⟩
      · skip
        first | (have t8 : (I v0 4).toInt ≤ v3.toInt := (i_le rfl rfl).mp c7) | (have t8 : (I v0 4).toInt ≤ v3.toInt := (i_le rfl rfl).mp c7) | skip
        have t9 : (1 : Int32).toInt = 1 := rfl
        exact hQ I L w_I q_I 
      · skip
        first | (have t10 : ¬ ((I v0 4).toInt ≤ v3.toInt) := (not_congr (i_le rfl rfl)).mp c7) | (have t10 : ¬ ((I v0 4).toInt ≤ v3.toInt) := (not_congr (i_le rfl rfl)).mp c7) | skip
        refine s_X11_find w_I v0 v3 kv0   (fun r11 p12 => ?_)
        refine ⟨fun c14 => ?_, fun b13 c14 => ?_⟩
        · skip
          unfold f_X11_again_b94
          intro x15 ex15
          have rx15 := i_rng x15
          first | (have tx15 : x15.toInt = v3.toInt + (1) := by (rw [ex15]; exact (i_add rfl (show (1 : Int32).toInt = 1 from rfl) (by omega) (by omega)))) | skip
          exact ih x15 I L w_I q_I   (by omega)  (by omega)
        · skip
          have kb13 : jk Z b13 5 := by first | exact p12 b13 c14 | exact (p12 b13 c14).1 | exact (p12.1 b13 c14).1
          refine s_X2_getPilgrim w_I v2 v3 b13 kv2 kb13   (fun  I16 L17 w_I16 f_I16  => ?_)
          have q_I16 : FR Ws_X2_getPilgrim Z I0 Z I16 := q_I.trans w0.1 w0.2.1 (f_I16.mono (by decide))
          have u18 : (I16 v2 7).toInt = (I v2 7).toInt := by rw [f_I16.2.2.1 v2 2 7 kv2 (by decide) (by decide)]
          have u19 : (I16 v0 4).toInt = (I v0 4).toInt := by rw [f_I16.2.2.1 v0 11 4 kv0 (by decide) (by decide)]
          unfold f_X11_again_b94
          intro x20 ex20
          have rx20 := i_rng x20
          first | (have tx20 : x20.toInt = v3.toInt + (1) := by (rw [ex20]; exact (i_add rfl (show (1 : Int32).toInt = 1 from rfl) (by omega) (by omega)))) | skip
          exact ih x20 I16 L17 w_I16 q_I16   (by omega)  (by omega)
/-! ===== keep and again: the contents ===== -/
/-- what the reference keeps, by its place -/
def kSrc (st as pa wh kl pl ea : Nat → Int32) (z : Nat) : Int32 :=
  if z < 48 then (if z % 2 = 0 then st (z / 2) else as (z / 2))
  else if z < 240 then pa (z - 48)
  else if z < 258 then (if z % 3 = 0 then wh ((z - 240) / 3) else if z % 3 = 1 then kl ((z - 240) / 3) else pl ((z - 240) / 3))
  else ea (z - 258)
theorem kS_st {st as pa wh kl pl ea : Nat → Int32} {s : Nat} (h : s < 24) : kSrc st as pa wh kl pl ea (2 * s) = st s := by
  unfold kSrc
  rw [if_pos (by omega), if_pos (by omega), show 2 * s / 2 = s by omega]
theorem kS_as {st as pa wh kl pl ea : Nat → Int32} {s : Nat} (h : s < 24) : kSrc st as pa wh kl pl ea (2 * s + 1) = as s := by
  unfold kSrc
  rw [if_pos (by omega), if_neg (by omega), show (2 * s + 1) / 2 = s by omega]
theorem kS_pa {st as pa wh kl pl ea : Nat → Int32} {s : Nat} (h : s < 192) : kSrc st as pa wh kl pl ea (48 + s) = pa s := by
  unfold kSrc
  rw [if_neg (by omega), if_pos (by omega), show 48 + s - 48 = s by omega]
theorem kS_wh {st as pa wh kl pl ea : Nat → Int32} {s : Nat} (h : s < 6) : kSrc st as pa wh kl pl ea (240 + 3 * s) = wh s := by
  unfold kSrc
  rw [if_neg (by omega), if_neg (by omega), if_pos (by omega), if_pos (by omega), show (240 + 3 * s - 240) / 3 = s by omega]
theorem kS_kl {st as pa wh kl pl ea : Nat → Int32} {s : Nat} (h : s < 6) : kSrc st as pa wh kl pl ea (240 + 3 * s + 1) = kl s := by
  unfold kSrc
  rw [if_neg (by omega), if_neg (by omega), if_pos (by omega), if_neg (by omega), if_pos (by omega), show (240 + 3 * s + 1 - 240) / 3 = s by omega]
theorem kS_pl {st as pa wh kl pl ea : Nat → Int32} {s : Nat} (h : s < 6) : kSrc st as pa wh kl pl ea (240 + 3 * s + 2) = pl s := by
  unfold kSrc
  rw [if_neg (by omega), if_neg (by omega), if_pos (by omega), if_neg (by omega), if_neg (by omega), show (240 + 3 * s + 2 - 240) / 3 = s by omega]
theorem kS_ea {st as pa wh kl pl ea : Nat → Int32} {s : Nat} : kSrc st as pa wh kl pl ea (258 + s) = ea s := by
  unfold kSrc
  rw [if_neg (by omega), if_neg (by omega), if_neg (by omega), show 258 + s - 258 = s by omega]
/-- m of 266 numbers are kept under i -/
def KS (Z : jZ) (J : jI) (v0 u62 : Nat) (src : Nat → Int32) (i : Nat) (I : jI) (m : Nat) : Prop := WD Z I ∧ FR Ws_X12_put Z J Z I ∧ (I v0 66).toInt = 266 * (i : Int) + (m : Int) ∧ (∀ z, z < m → I u62 (266 * i + z) = src z) ∧ (∀ z, (z < 266 * i ∨ 266 * i + 266 ≤ z) → I u62 z = J u62 z)
theorem ks_put {Z : jZ} {J I : jI} {L : jL} {v0 u62 i m : Nat} {src : Nat → Int32} {v : Int32} {Q : jI → jL → Prop} (wJ : WD Z J) (k0 : jk Z v0 12) (h62 : jr Z v0 62 = some u62) (hi : i < 2) (hm : m < 266) (s : KS Z J v0 u62 src i I m) (hv : v = src m) (ok : okK m v) (hQ : ∀ (I' : jI) (L' : jL), KS Z J v0 u62 src i I' (m + 1) → Q I' L') : f_X12_put v0 v Z I L Q := by
  obtain ⟨x, ex, k62, l62⟩ := sh_f wJ.1 k0 (j := 62) (k := 14) (m := 532) rfl
  cases h62.symm.trans ex
  obtain ⟨w, f, t66, h1, h2⟩ := s
  have n66 := i_nat t66 (by omega)
  have n66 : (I v0 66).toNatClampNeg = 266 * i + m := by omega
  have ne : u62 ≠ v0 := ks_ne k62 k0 (by decide)
  unfold f_X12_put
  intro b1 e1
  cases h62.symm.trans e1
  refine ⟨vi_of t66 (by omega) (by omega), ?_⟩
  intro I3 e3 I4 e4
  rw [n66] at e3
  have ok' : okA 12 62 (266 * i + m) v := by
    show okK ((266 * i + m) % 266) v
    rw [show (266 * i + m) % 266 = m by omega]
    exact ok
  have w3 : WD Z I3 := by rw [e3]; exact WD_putA w 12 62 k0 h62 k62 rfl rfl (by decide) ok'
  have f3 : FR Ws_X12_put Z J Z I3 := f.trans wJ.1 wJ.2.1 (by rw [e3]; exact FR_upA w.2.1 k0 h62 k62 rfl rfl (by decide))
  have w4 : WD Z I4 := by rw [e4]; exact WD_putF w3 12 66 k0 (by decide) (by decide) trivial
  have f4 : FR Ws_X12_put Z J Z I4 := f3.trans wJ.1 wJ.2.1 (by rw [e4]; exact FR_putF k0 (by decide) (by decide))
  have t3 : I3 v0 66 = I v0 66 := by rw [e3, jpI_ne (fun e => ne e.symm)]
  refine hQ I4 L ⟨w4, f4, ?_, fun z hz => ?_, fun z hz => ?_⟩
  · rw [e4, jpI_at, t3]
    exact (i_add t66 (show (1 : Int32).toInt = 1 from rfl) (by omega) (by omega)).trans (by omega)
  · rw [e4, jpI_ne ne]
    by_cases q : z = m
    · rw [q, e3, jpI_at]; exact hv
    · rw [e3, jpI_off (by omega)]; exact h1 z (by omega)
  · rw [e4, jpI_ne ne, e3, jpI_off (by omega)]; exact h2 z hz
theorem ks_ar {Z : jZ} {J I : jI} {v0 u62 i m : Nat} {src : Nat → Int32} (s : KS Z J v0 u62 src i I m) (k0 : jk Z v0 12) {j u : Nat} (hu : jr Z v0 j = some u) (ku : jk Z u 14) (hs : jsr 12 j = false) (hn : (12, j) ∉ Ws_X12_put) : I u = J u := s.2.1.2.2.2 v0 12 j u k0 hu (by rw [ku.2]; rfl) hs hn
theorem kp_L157 {Z : jZ} {J : jI} {v0 u62 i : Nat} {st as pa wh kl pl : Nat → Int32} {u17 : Nat} (wJ : WD Z J) (k0 : jk Z v0 12) (h62 : jr Z v0 62 = some u62) (hi : i < 2) (h17 : jr Z v0 17 = some u17) (k17 : jk Z u17 14) {Q : Int32 → jI → jL → Prop}
    (hQ : ∀ (I : jI) (L : jL), KS Z J v0 u62 (kSrc st as pa wh kl pl (J u17)) i I 266 → Q (1 : Int32) I L) :
    ∀ (n f : Nat) (v2 : Int32) (I : jI) (L : jL), KS Z J v0 u62 (kSrc st as pa wh kl pl (J u17)) i I (258 + f) → v2.toInt = (f : Int) → f ≤ 8 → 9 ≤ n + f → f_X12_keep_L157 Z Q n v0 v2 I L := by
  intro n
  induction n with
  | zero => intro f v2 I L s e1 e2 e3; exfalso; omega
  | succ n ih =>
    intro f v2 I L s e1 e2 e3
    unfold f_X12_keep_L157
    refine ⟨fun c => ?_, fun c => ?_⟩
    · have c := (i_le (show (8 : Int32).toInt = 8 from rfl) e1).mp c
      rw [show 258 + f = 266 by omega] at s
      exact hQ I L s
    have c := (not_congr (i_le (show (8 : Int32).toInt = 8 from rfl) e1)).mp c
    have q := i_nat e1 (by omega)
    have q : v2.toNatClampNeg = f := by omega
    intro b2 e2'
    cases h17.symm.trans e2'
    refine ⟨vi_of e1 (by omega) (by omega), ?_⟩
    refine ks_put wJ k0 h62 hi (by omega) s (by rw [q, kS_ea, ks_ar s k0 h17 k17 rfl (by decide)]) ⟨fun h => absurd h (by omega), fun h => absurd h (by omega), fun _ h => absurd h (by omega)⟩ (fun I' L' s' => ?_)
    intro x10 e10
    exact ih (f + 1) x10 I' L' (by rw [show 258 + (f + 1) = 258 + f + 1 by omega]; exact s') (by rw [e10]; exact (i_add e1 (show (1 : Int32).toInt = 1 from rfl) (by omega) (by omega)).trans (by omega)) (by omega) (by omega)
theorem kp_L113 {Z : jZ} {J : jI} {v0 u62 i : Nat} {st as pa : Nat → Int32} {u14 u15 u16 u17 : Nat} (wJ : WD Z J) (k0 : jk Z v0 12) (h62 : jr Z v0 62 = some u62) (hi : i < 2) (h14 : jr Z v0 14 = some u14) (k14 : jk Z u14 14) (h15 : jr Z v0 15 = some u15) (k15 : jk Z u15 14) (h16 : jr Z v0 16 = some u16) (k16 : jk Z u16 14) (h17 : jr Z v0 17 = some u17) (k17 : jk Z u17 14) {Q : Int32 → jI → jL → Prop}
    (hQ : ∀ (I : jI) (L : jL), KS Z J v0 u62 (kSrc st as pa (J u14) (J u15) (J u16) (J u17)) i I 266 → Q (1 : Int32) I L) :
    ∀ (n p : Nat) (v2 : Int32) (I : jI) (L : jL), KS Z J v0 u62 (kSrc st as pa (J u14) (J u15) (J u16) (J u17)) i I (240 + 3 * p) → v2.toInt = (p : Int) → p ≤ 6 → 7 ≤ n + p → f_X12_keep_L113 Z Q n v0 v2 I L := by
  intro n
  induction n with
  | zero => intro p v2 I L s e1 e2 e3; exfalso; omega
  | succ n ih =>
    intro p v2 I L s e1 e2 e3
    unfold f_X12_keep_L113
    refine ⟨fun c => ?_, fun c => ?_⟩
    · have c := (i_le (show (6 : Int32).toInt = 6 from rfl) e1).mp c
      rw [show 240 + 3 * p = 258 + 0 by omega] at s
      exact ⟨9, kp_L157 wJ k0 h62 hi h17 k17 hQ 9 0 0 I L s rfl (by omega) (by omega)⟩
    have c := (not_congr (i_le (show (6 : Int32).toInt = 6 from rfl) e1)).mp c
    have q := i_nat e1 (by omega)
    have q : v2.toNatClampNeg = p := by omega
    intro b13 e13
    cases h14.symm.trans e13
    refine ⟨vi_of e1 (by omega) (by omega), ?_⟩
    have r14 : rg (-1) 23 (J u14 p) := wJ.arr 12 14 k0 h14 k14 rfl rfl p
    have y14 : I u14 = J u14 := ks_ar s k0 h14 k14 rfl (by decide)
    refine ks_put wJ k0 h62 hi (by omega) s (by rw [q, kS_wh (by omega), y14]) ⟨fun h => absurd h (by omega), fun h => absurd h (by omega), fun _ _ _ => by rw [q, y14]; exact r14⟩ (fun I1 L1 s1 => ?_)
    intro b21 e21
    cases h15.symm.trans e21
    refine ⟨vi_of e1 (by omega) (by omega), ?_⟩
    refine ks_put wJ k0 h62 hi (by omega) s1 (by rw [q, kS_kl (by omega), ks_ar s1 k0 h15 k15 rfl (by decide)]) ⟨fun h => absurd h (by omega), fun h => absurd h (by omega), fun _ _ h => absurd h (by omega)⟩ (fun I2 L2 s2 => ?_)
    intro b29 e29
    cases h16.symm.trans e29
    refine ⟨vi_of e1 (by omega) (by omega), ?_⟩
    refine ks_put wJ k0 h62 hi (by omega) s2 (by rw [q, kS_pl (by omega), ks_ar s2 k0 h16 k16 rfl (by decide)]) ⟨fun h => absurd h (by omega), fun h => absurd h (by omega), fun _ _ h => absurd h (by omega)⟩ (fun I3 L3 s3 => ?_)
    intro x37 e37
    exact ih (p + 1) x37 I3 L3 (by rw [show 240 + 3 * (p + 1) = 240 + 3 * p + 1 + 1 + 1 by omega]; exact s3) (by rw [e37]; exact (i_add e1 (show (1 : Int32).toInt = 1 from rfl) (by omega) (by omega)).trans (by omega)) (by omega) (by omega)
theorem kp_L88 {Z : jZ} {J : jI} {v0 u62 i : Nat} {st as : Nat → Int32} {u5 u14 u15 u16 u17 : Nat} (wJ : WD Z J) (k0 : jk Z v0 12) (h62 : jr Z v0 62 = some u62) (hi : i < 2) (h5 : jr Z v0 5 = some u5) (k5 : jk Z u5 14) (h14 : jr Z v0 14 = some u14) (k14 : jk Z u14 14) (h15 : jr Z v0 15 = some u15) (k15 : jk Z u15 14) (h16 : jr Z v0 16 = some u16) (k16 : jk Z u16 14) (h17 : jr Z v0 17 = some u17) (k17 : jk Z u17 14) {Q : Int32 → jI → jL → Prop}
    (hQ : ∀ (I : jI) (L : jL), KS Z J v0 u62 (kSrc st as (J u5) (J u14) (J u15) (J u16) (J u17)) i I 266 → Q (1 : Int32) I L) :
    ∀ (n p : Nat) (v2 : Int32) (I : jI) (L : jL), KS Z J v0 u62 (kSrc st as (J u5) (J u14) (J u15) (J u16) (J u17)) i I (48 + p) → v2.toInt = (p : Int) → p ≤ 192 → 193 ≤ n + p → f_X12_keep_L88 Z Q n v0 v2 I L := by
  intro n
  induction n with
  | zero => intro p v2 I L s e1 e2 e3; exfalso; omega
  | succ n ih =>
    intro p v2 I L s e1 e2 e3
    unfold f_X12_keep_L88
    refine ⟨fun c => ?_, fun c => ?_⟩
    · have c := (i_le (show (192 : Int32).toInt = 192 from rfl) e1).mp c
      rw [show 48 + p = 240 + 3 * 0 by omega] at s
      exact ⟨7, kp_L113 wJ k0 h62 hi h14 k14 h15 k15 h16 k16 h17 k17 hQ 7 0 0 I L s rfl (by omega) (by omega)⟩
    have c := (not_congr (i_le (show (192 : Int32).toInt = 192 from rfl) e1)).mp c
    have q := i_nat e1 (by omega)
    have q : v2.toNatClampNeg = p := by omega
    intro b40 e40
    cases h5.symm.trans e40
    refine ⟨vi_of e1 (by omega) (by omega), ?_⟩
    refine ks_put wJ k0 h62 hi (by omega) s (by rw [q, kS_pa (by omega), ks_ar s k0 h5 k5 rfl (by decide)]) ⟨fun h => absurd h (by omega), fun h => absurd h (by omega), fun h => absurd h (by omega)⟩ (fun I1 L1 s1 => ?_)
    intro x48 e48
    exact ih (p + 1) x48 I1 L1 (by rw [show 48 + (p + 1) = 48 + p + 1 by omega]; exact s1) (by rw [e48]; exact (i_add e1 (show (1 : Int32).toInt = 1 from rfl) (by omega) (by omega)).trans (by omega)) (by omega) (by omega)
theorem kp_L54 {Z : jZ} {J : jI} {v0 u62 i : Nat} {u2 u3 u5 u14 u15 u16 u17 : Nat} (wJ : WD Z J) (k0 : jk Z v0 12) (h62 : jr Z v0 62 = some u62) (hi : i < 2) (h2 : jr Z v0 2 = some u2) (k2 : jk Z u2 14) (h3 : jr Z v0 3 = some u3) (k3 : jk Z u3 14) (h5 : jr Z v0 5 = some u5) (k5 : jk Z u5 14) (h14 : jr Z v0 14 = some u14) (k14 : jk Z u14 14) (h15 : jr Z v0 15 = some u15) (k15 : jk Z u15 14) (h16 : jr Z v0 16 = some u16) (k16 : jk Z u16 14) (h17 : jr Z v0 17 = some u17) (k17 : jk Z u17 14) {Q : Int32 → jI → jL → Prop}
    (hQ : ∀ (I : jI) (L : jL), KS Z J v0 u62 (kSrc (J u2) (J u3) (J u5) (J u14) (J u15) (J u16) (J u17)) i I 266 → Q (1 : Int32) I L) :
    ∀ (n p : Nat) (v2 : Int32) (I : jI) (L : jL), KS Z J v0 u62 (kSrc (J u2) (J u3) (J u5) (J u14) (J u15) (J u16) (J u17)) i I (2 * p) → v2.toInt = (p : Int) → p ≤ 24 → 25 ≤ n + p → f_X12_keep_L54 Z Q n v0 v2 I L := by
  intro n
  induction n with
  | zero => intro p v2 I L s e1 e2 e3; exfalso; omega
  | succ n ih =>
    intro p v2 I L s e1 e2 e3
    unfold f_X12_keep_L54
    refine ⟨fun c => ?_, fun c => ?_⟩
    · have c := (i_le (show (24 : Int32).toInt = 24 from rfl) e1).mp c
      rw [show 2 * p = 48 + 0 by omega] at s
      exact ⟨193, kp_L88 wJ k0 h62 hi h5 k5 h14 k14 h15 k15 h16 k16 h17 k17 hQ 193 0 0 I L s rfl (by omega) (by omega)⟩
    have c := (not_congr (i_le (show (24 : Int32).toInt = 24 from rfl) e1)).mp c
    have q := i_nat e1 (by omega)
    have q : v2.toNatClampNeg = p := by omega
    intro b51 e51
    cases h2.symm.trans e51
    refine ⟨vi_of e1 (by omega) (by omega), ?_⟩
    have r2 : rg 0 9 (J u2 p) := wJ.arr 12 2 k0 h2 k2 rfl rfl p
    have r3 : rg 0 20 (J u3 p) := wJ.arr 12 3 k0 h3 k3 rfl rfl p
    have y2 : I u2 = J u2 := ks_ar s k0 h2 k2 rfl (by decide)
    refine ks_put wJ k0 h62 hi (by omega) s (by rw [q, kS_st (by omega), y2]) ⟨fun _ _ => by rw [q, y2]; exact r2, fun _ h => absurd h (by omega), fun h => absurd h (by omega)⟩ (fun I1 L1 s1 => ?_)
    intro b59 e59
    cases h3.symm.trans e59
    refine ⟨vi_of e1 (by omega) (by omega), ?_⟩
    have y3 : I1 u3 = J u3 := ks_ar s1 k0 h3 k3 rfl (by decide)
    refine ks_put wJ k0 h62 hi (by omega) s1 (by rw [q, kS_as (by omega), y3]) ⟨fun _ h => absurd h (by omega), fun _ _ => by rw [q, y3]; exact r3, fun h => absurd h (by omega)⟩ (fun I2 L2 s2 => ?_)
    intro x67 e67
    exact ih (p + 1) x67 I2 L2 (by rw [show 2 * (p + 1) = 2 * p + 1 + 1 by omega]; exact s2) (by rw [e67]; exact (i_add e1 (show (1 : Int32).toInt = 1 from rfl) (by omega) (by omega)).trans (by omega)) (by omega) (by omega)
/-- keep of the reference -/
def KPM (Z : jZ) (v0 : Nat) (v : Int32) (r : Int) (I I' : jI) : Prop := ∀ u62 u65 u2 u3 u5 u14 u15 u16 u17, jr Z v0 62 = some u62 → jr Z v0 65 = some u65 → jr Z v0 2 = some u2 → jr Z v0 3 = some u3 → jr Z v0 5 = some u5 → jr Z v0 14 = some u14 → jr Z v0 15 = some u15 → jr Z v0 16 = some u16 → jr Z v0 17 = some u17 →
  (r = 1 → (∀ z, z < 266 → I' u62 (266 * v.toNatClampNeg + z) = kSrc (I u2) (I u3) (I u5) (I u14) (I u15) (I u16) (I u17) z) ∧ (∀ z, (z < 266 * v.toNatClampNeg ∨ 266 * v.toNatClampNeg + 266 ≤ z) → I' u62 z = I u62 z) ∧ I' u65 v.toNatClampNeg = I v0 8 ∧ ∀ k, k ≠ v.toNatClampNeg → I' u65 k = I u65 k) ∧ (r = 0 → I' u62 = I u62 ∧ I' u65 = I u65)
set_option maxHeartbeats 1000000 in
theorem s14_X12_keep {Z : jZ} {I : jI} {L : jL} (w : WD Z I) (v0 : Nat) (v1 : Int32) (kv0 : jk Z v0 12) (uK : Nat) (huK : jr Z v0 63 = some uK) (uC : Nat) (huC : jr Z v0 64 = some uC) {Q : Int32 → jI → jL → Prop} (hQ : ∀ (r : Int32) (I' : jI) (L' : jL), WD Z I' → FR Ws_X12_keep Z I Z I' → KP12 v0 uK uC v1 r.toInt I I' → KPM Z v0 v1 r.toInt I I' → Q r I' L') : f_X12_keep v0 v1 Z I L Q := by
  obtain ⟨x, ex, kK, lK⟩ := sh_f w.1 kv0 (j := 63) (k := 16) (m := 2) rfl
  cases huK.symm.trans ex
  obtain ⟨y, ey, kC, lC⟩ := sh_f w.1 kv0 (j := 64) (k := 14) (m := 2) rfl
  cases huC.symm.trans ey
  obtain ⟨uP, hP, kP, lP⟩ := sh_f w.1 kv0 (j := 65) (k := 14) (m := 2) rfl
  obtain ⟨u62, h62, k62, -⟩ := sh_f w.1 kv0 (j := 62) (k := 14) (m := 532) rfl
  obtain ⟨u2, h2, k2, -⟩ := sh_f w.1 kv0 (j := 2) (k := 14) (m := 24) rfl
  obtain ⟨u3, h3, k3, -⟩ := sh_f w.1 kv0 (j := 3) (k := 14) (m := 24) rfl
  obtain ⟨u5, h5, k5, -⟩ := sh_f w.1 kv0 (j := 5) (k := 14) (m := 192) rfl
  obtain ⟨u14, h14, k14, -⟩ := sh_f w.1 kv0 (j := 14) (k := 14) (m := 6) rfl
  obtain ⟨u15, h15, k15, -⟩ := sh_f w.1 kv0 (j := 15) (k := 14) (m := 6) rfl
  obtain ⟨u16, h16, k16, -⟩ := sh_f w.1 kv0 (j := 16) (k := 14) (m := 6) rfl
  obtain ⟨u17, h17, k17, -⟩ := sh_f w.1 kv0 (j := 17) (k := 14) (m := 8) rfl
  have d : ∀ {j j' b b'}, jr Z v0 j = some b → jr Z v0 j' = some b' → jsr 12 j = false → jsr 12 j' = false → j ≠ j' → b ≠ b' := fun h h' s s' n => ds_ne w.2.1 kv0 h h' s s' n
  have z0 : (0 : Int32).toInt = 0 := rfl
  have z1 : (1 : Int32).toInt = 1 := rfl
  have km : ∀ (r : Int) (A : jI), ((r = 1 → (∀ z, z < 266 → A u62 (266 * v1.toNatClampNeg + z) = kSrc (I u2) (I u3) (I u5) (I u14) (I u15) (I u16) (I u17) z) ∧ (∀ z, (z < 266 * v1.toNatClampNeg ∨ 266 * v1.toNatClampNeg + 266 ≤ z) → A u62 z = I u62 z) ∧ A uP v1.toNatClampNeg = I v0 8 ∧ ∀ k, k ≠ v1.toNatClampNeg → A uP k = I uP k) ∧ (r = 0 → A u62 = I u62 ∧ A uP = I uP)) → KPM Z v0 v1 r I A := by
    intro r A h a1 a2 a3 a4 a5 a6 a7 a8 a9 g1 g2 g3 g4 g5 g6 g7 g8 g9
    cases h62.symm.trans g1; cases hP.symm.trans g2; cases h2.symm.trans g3; cases h3.symm.trans g4; cases h5.symm.trans g5; cases h14.symm.trans g6; cases h15.symm.trans g7; cases h16.symm.trans g8; cases h17.symm.trans g9
    exact h
  unfold f_X12_keep
  intro I68 e68
  have w68 : WD Z I68 := by rw [e68]; exact WD_putF w 12 22 kv0 (by decide) (by decide) trivial
  have f68 : FR Ws_X12_keep Z I Z I68 := by rw [e68]; exact FR_putF kv0 (by decide) (by decide)
  have o68 : ∀ a, a ≠ v0 → I68 a = I a := fun a ha => by rw [e68]; exact jpI_ne ha
  refine s_X12_in w68 _ _ _ (fun r p => ⟨fun c => ?_, fun c => ?_⟩)
  · have c := nz c
    have hv : 0 ≤ v1.toInt ∧ v1.toInt ≤ 1 := by omega
    have n1 := i_nat (x := v1) rfl (by omega)
    intro b77 e77
    cases huK.symm.trans e77
    refine ⟨vi_of rfl (by omega) (by omega), ?_⟩
    intro I79 e79 b80 e80
    cases huC.symm.trans e80
    refine ⟨vi_of rfl (by omega) (by omega), ?_⟩
    intro I82 e82 b83 e83
    cases hP.symm.trans e83
    refine ⟨vi_of rfl (by omega) (by omega), ?_⟩
    intro I85 e85 I86 e86
    have w79 : WD Z I79 := by rw [e79]; exact WD_putA w68 12 63 kv0 huK kK rfl rfl (by decide) trivial
    have f79 : FR Ws_X12_keep Z I68 Z I79 := by rw [e79]; exact FR_upA w68.2.1 kv0 huK kK rfl rfl (by decide)
    have w82 : WD Z I82 := by rw [e82]; exact WD_putA w79 12 64 kv0 huC kC rfl rfl (by decide) trivial
    have f82 : FR Ws_X12_keep Z I79 Z I82 := by rw [e82]; exact FR_upA w79.2.1 kv0 huC kC rfl rfl (by decide)
    have w85 : WD Z I85 := by rw [e85]; exact WD_putA w82 12 65 kv0 hP kP rfl rfl (by decide) trivial
    have f85 : FR Ws_X12_keep Z I82 Z I85 := by rw [e85]; exact FR_upA w82.2.1 kv0 hP kP rfl rfl (by decide)
    have w86 : WD Z I86 := by rw [e86]; exact WD_putF w85 12 66 kv0 (by decide) (by decide) trivial
    have f86 : FR Ws_X12_keep Z I85 Z I86 := by rw [e86]; exact FR_putF kv0 (by decide) (by decide)
    have g86 : FR Ws_X12_keep Z I Z I86 := (((f68.trans w.1 w.2.1 f79).trans w.1 w.2.1 f82).trans w.1 w.2.1 f85).trans w.1 w.2.1 f86
    have o86 : ∀ a, a ≠ v0 → a ≠ uK → a ≠ uC → a ≠ uP → I86 a = I a := fun a h0 h1 h2 h3 => by rw [e86, jpI_ne h0, e85, jpI_ne h3, e82, jpI_ne h2, e79, jpI_ne h1, o68 a h0]
    have nK0 : uK ≠ v0 := ks_ne kK kv0 (by decide)
    have nC0 : uC ≠ v0 := ks_ne kC kv0 (by decide)
    have nP0 : uP ≠ v0 := ks_ne kP kv0 (by decide)
    have ar : ∀ {j u}, jr Z v0 j = some u → jk Z u 14 → jsr 12 j = false → j ≠ 63 → j ≠ 64 → j ≠ 65 → I86 u = I u := fun hu ku hs h1 h2 h3 => o86 _ (ks_ne ku kv0 (by decide)) (d hu huK hs rfl h1) (d hu huC hs rfl h2) (d hu hP hs rfl h3)
    have y7 : I79 v0 7 = I v0 7 := by rw [e79, jpI_ne (fun e => nK0 e.symm), e68, jpI_o (by decide)]
    have y8 : I82 v0 8 = I v0 8 := by rw [e82, jpI_ne (fun e => nC0 e.symm), e79, jpI_ne (fun e => nK0 e.symm), e68, jpI_o (by decide)]
    have kK1 : I86 uK = I79 uK := by rw [e86, jpI_ne nK0, e85, jpI_ne (d huK hP rfl rfl (by decide)), e82, jpI_ne (d huK huC rfl rfl (by decide))]
    have kC1 : I86 uC = I82 uC := by rw [e86, jpI_ne nC0, e85, jpI_ne (d huC hP rfl rfl (by decide))]
    have kP1 : I86 uP = I85 uP := by rw [e86, jpI_ne nP0]
    have t66 : (I86 v0 66).toInt = 266 * (v1.toNatClampNeg : Int) + ((2 * 0 : Nat) : Int) := by
      rw [e86, jpI_at]
      exact (i_mul (show (266 : Int32).toInt = 266 from rfl) rfl (by omega) (by omega)).trans (by omega)
    have s86 : KS Z I86 v0 u62 (kSrc (I86 u2) (I86 u3) (I86 u5) (I86 u14) (I86 u15) (I86 u16) (I86 u17)) v1.toNatClampNeg I86 (2 * 0) := ⟨w86, FR.rf, t66, fun z hz => absurd hz (by omega), fun _ _ => rfl⟩
    refine ⟨25, kp_L54 w86 kv0 h62 (by omega) h2 k2 h3 k3 h5 k5 h14 k14 h15 k15 h16 k16 h17 k17 (fun I' L' s' => ?_) 25 0 0 I86 L s86 rfl (by omega) (by omega)⟩
    obtain ⟨w', f', -, q1, q2⟩ := s'
    rw [ar h2 k2 rfl (by decide) (by decide) (by decide), ar h3 k3 rfl (by decide) (by decide) (by decide), ar h5 k5 rfl (by decide) (by decide) (by decide), ar h14 k14 rfl (by decide) (by decide) (by decide), ar h15 k15 rfl (by decide) (by decide) (by decide), ar h16 k16 rfl (by decide) (by decide) (by decide), ar h17 k17 rfl (by decide) (by decide) (by decide)] at q1
    rw [ar h62 k62 rfl (by decide) (by decide) (by decide)] at q2
    have kk : I' uK = I86 uK := f'.2.2.2 v0 12 63 uK kv0 huK (by rw [kK.2]; rfl) rfl (by decide)
    have cc : I' uC = I86 uC := f'.2.2.2 v0 12 64 uC kv0 huC (by rw [kC.2]; rfl) rfl (by decide)
    have pp : I' uP = I86 uP := f'.2.2.2 v0 12 65 uP kv0 hP (by rw [kP.2]; rfl) rfl (by decide)
    refine hQ _ I' L' w' (g86.trans w.1 w.2.1 (f'.mono (by decide))) (Or.inl ⟨rfl, hv, ?_, ?_, fun i hi => ⟨?_, ?_⟩⟩) (km _ _ ⟨fun _ => ⟨q1, q2, ?_, fun k hk => ?_⟩, fun h => absurd h (by decide)⟩)
    · rw [kk, kK1, e79, jpI_at]; decide
    · rw [cc, kC1, e82, jpI_at]; exact y7
    · rw [kk, kK1, e79, jpI_off hi, o68 uK nK0]
    · rw [cc, kC1, e82, jpI_off hi, e79, jpI_ne (d huC huK rfl rfl (by decide)), o68 uC nC0]
    · rw [pp, kP1, e85, jpI_at]; exact y8
    · rw [pp, kP1, e85, jpI_off hk, e82, jpI_ne (d hP huC rfl rfl (by decide)), e79, jpI_ne (d hP huK rfl rfl (by decide)), o68 uP nP0]
  · have c := yz c
    exact hQ _ I68 L w68 f68 (Or.inr ⟨rfl, by omega, o68 uK (ks_ne kK kv0 (by decide)), o68 uC (ks_ne kC kv0 (by decide))⟩) (km _ _ ⟨fun h => absurd h (by decide), fun _ => ⟨o68 u62 (ks_ne k62 kv0 (by decide)), o68 uP (ks_ne kP kv0 (by decide))⟩⟩)
/-- keep of the class: STATES, ASKS, PARTS and EARNED of a box -/
theorem pu_stairs {Z : jZ} {I : jI} {L : jL} (w : WD Z I) (v0 v1 : Nat) (kv0 : jk Z v0 2) (kv1 : jk Z v1 8) (a0 a1 a2 x1 x2 uP x0 : Nat) (h0 : jr Z v0 0 = some a0) (h1 : jr Z v0 1 = some a1) (h2 : jr Z v0 2 = some a2) (g1 : jr Z v1 1 = some x1) (g2 : jr Z v1 2 = some x2) (gP : jr Z v1 4 = some uP) (g0 : jr Z uP 0 = some x0) {Q : jI → jL → Prop}
    (hQ : ∀ (I' : jI) (L' : jL), WD Z I' → FR Ws_X2_putStairs Z I Z I' → (∀ a, a ≠ a0 → a ≠ a1 → a ≠ a2 → I' a = I a) → (∀ s, s < 24 → I' a0 s = I x1 s) → (∀ s, s < 24 → I' a1 s = I x2 s) → (∀ s, s < 192 → I' a2 s = I x0 s) → Q I' L') : f_X2_putStairs v0 v1 Z I L Q := by
  obtain ⟨x, ex, k0, -⟩ := sh_f w.1 kv0 (j := 0) (k := 14) (m := 24) rfl
  cases h0.symm.trans ex
  obtain ⟨x, ex, k1, -⟩ := sh_f w.1 kv0 (j := 1) (k := 14) (m := 24) rfl
  cases h1.symm.trans ex
  obtain ⟨x, ex, k2, -⟩ := sh_f w.1 kv0 (j := 2) (k := 14) (m := 192) rfl
  cases h2.symm.trans ex
  obtain ⟨x, ex, kx1, -⟩ := sh_f w.1 kv1 (j := 1) (k := 14) (m := 24) rfl
  cases g1.symm.trans ex
  obtain ⟨x, ex, kx2, -⟩ := sh_f w.1 kv1 (j := 2) (k := 14) (m := 24) rfl
  cases g2.symm.trans ex
  obtain ⟨x, ex, kP⟩ := sh_o w.1 kv1 (j := 4) (k := 4) rfl
  cases gP.symm.trans ex
  obtain ⟨x, ex, kx0, -⟩ := sh_f w.1 kP (j := 0) (k := 14) (m := 192) rfl
  cases g0.symm.trans ex
  have dd : ∀ {a c j b a' c' j' b'}, jk Z a c → jk Z a' c' → jr Z a j = some b → jr Z a' j' = some b' → jsr c j = false → jsr c' j' = false → ¬ (c = c' ∧ j = j') → b ≠ b' := fun ka ka' h h' s s' n e => by
    subst e
    obtain ⟨rfl, rfl⟩ := w.2.1.2.2 _ _ _ _ _ _ _ ka ka' h h' s s'
    exact n ⟨ka.2.symm.trans ka'.2, rfl⟩
  unfold f_X2_putStairs
  intro b1 e1
  cases g1.symm.trans e1
  intro b2 e2
  cases h0.symm.trans e2
  refine ⟨by decide, ?_⟩
  intro I4 e4
  have w4 : WD Z I4 := by rw [e4]; exact WD_cpy w 2 0 kv0 h0 k0 rfl rfl (by decide) (fun _ _ _ => trivial)
  have f4 : FR Ws_X2_putStairs Z I Z I4 := by rw [e4]; exact FR_upA w.2.1 kv0 h0 k0 rfl rfl (by decide)
  have o4 : ∀ a, a ≠ a0 → I4 a = I a := fun a ha => by rw [e4]; exact va_up_ne _ _ ha
  intro b5 e5
  cases g2.symm.trans e5
  intro b6 e6
  cases h1.symm.trans e6
  refine ⟨by decide, ?_⟩
  intro I8 e8
  have r2 : ∀ q, rg 0 20 (I4 x2 q) := fun q => w4.arr 8 2 kv1 g2 kx2 rfl rfl q
  have w8 : WD Z I8 := by rw [e8]; exact WD_cpy w4 2 1 kv0 h1 k1 rfl rfl (by decide) (fun q _ _ => r2 _)
  have f8 : FR Ws_X2_putStairs Z I Z I8 := f4.trans w.1 w.2.1 (by rw [e8]; exact FR_upA w4.2.1 kv0 h1 k1 rfl rfl (by decide))
  have o8 : ∀ a, a ≠ a1 → I8 a = I4 a := fun a ha => by rw [e8]; exact va_up_ne _ _ ha
  intro b9 e9
  cases gP.symm.trans e9
  intro b10 e10
  cases g0.symm.trans e10
  intro b11 e11
  cases h2.symm.trans e11
  refine ⟨by decide, ?_⟩
  intro I13 e13
  have w13 : WD Z I13 := by rw [e13]; exact WD_cpy w8 2 2 kv0 h2 k2 rfl rfl (by decide) (fun _ _ _ => trivial)
  have f13 : FR Ws_X2_putStairs Z I Z I13 := f8.trans w.1 w.2.1 (by rw [e13]; exact FR_upA w8.2.1 kv0 h2 k2 rfl rfl (by decide))
  have o13 : ∀ a, a ≠ a2 → I13 a = I8 a := fun a ha => by rw [e13]; exact va_up_ne _ _ ha
  refine hQ I13 L w13 f13 (fun a q0 q1 q2 => ?_) (fun s hs => ?_) (fun s hs => ?_) (fun s hs => ?_)
  · rw [o13 a q2, o8 a q1, o4 a q0]
  · rw [o13 a0 (ds_ne w.2.1 kv0 h0 h2 rfl rfl (by decide)), o8 a0 (ds_ne w.2.1 kv0 h0 h1 rfl rfl (by decide)), e4, va_up_self, z24, cpy_all hs]
  · rw [o13 a1 (ds_ne w.2.1 kv0 h1 h2 rfl rfl (by decide)), e8, va_up_self, z24, cpy_all hs, o4 x2 (dd kv1 kv0 g2 h0 rfl rfl (by decide))]
  · rw [e13, va_up_self, z192, cpy_all hs, o8 x0 (dd kP kv0 g0 h1 rfl rfl (by decide)), o4 x0 (dd kP kv0 g0 h0 rfl rfl (by decide))]
def KBC (Z : jZ) (v0 uS : Nat) (v : Int32) (r : Int) (I I' : jI) : Prop := ∀ uF uP x0 x1 x2 x5, jr Z v0 2 = some uF → jr Z uF 4 = some uP → jr Z uP 0 = some x0 → jr Z uF 1 = some x1 → jr Z uF 2 = some x2 → jr Z v0 5 = some x5 → ∀ i b a0 a1 a2 a3, i < 2 → jr Z uS i = some b → jr Z b 0 = some a0 → jr Z b 1 = some a1 → jr Z b 2 = some a2 → jr Z b 3 = some a3 →
  ((r = 1 ∧ i = v.toNatClampNeg) → (∀ s, s < 24 → I' a0 s = I x1 s) ∧ (∀ s, s < 24 → I' a1 s = I x2 s) ∧ (∀ s, s < 192 → I' a2 s = I x0 s) ∧ (∀ s, s < 8 → I' a3 s = I x5 s)) ∧ (¬ (r = 1 ∧ i = v.toNatClampNeg) → I' a0 = I a0 ∧ I' a1 = I a1 ∧ I' a2 = I a2 ∧ I' a3 = I a3)
set_option maxHeartbeats 1000000 in
theorem s14_X11_keep {Z : jZ} {I : jI} {L : jL} (w : WD Z I) (v0 : Nat) (v1 : Int32) (kv0 : jk Z v0 11) (uS : Nat) (huS : jr Z v0 8 = some uS) {Q : Int32 → jI → jL → Prop} (hQ : ∀ (r : Int32) (I' : jI) (L' : jL), WD Z I' → FR Ws_X11_keep Z I Z I' → KP11 Z uS v1 r.toInt I I' → KBC Z v0 uS v1 r.toInt I I' → Q r I' L') : f_X11_keep v0 v1 Z I L Q := by
  obtain ⟨x, ex, kS, lS⟩ := sh_f w.1 kv0 (j := 8) (k := 17) (m := 2) rfl
  cases huS.symm.trans ex
  obtain ⟨uF, huF, kF⟩ := sh_o w.1 kv0 (j := 2) (k := 8) rfl
  obtain ⟨uP, huP, kP⟩ := sh_o w.1 kF (j := 4) (k := 4) rfl
  obtain ⟨x0, hx0, kx0, -⟩ := sh_f w.1 kP (j := 0) (k := 14) (m := 192) rfl
  obtain ⟨x1, hx1, kx1, -⟩ := sh_f w.1 kF (j := 1) (k := 14) (m := 24) rfl
  obtain ⟨x2, hx2, kx2, -⟩ := sh_f w.1 kF (j := 2) (k := 14) (m := 24) rfl
  obtain ⟨uE, hE, kE, lE⟩ := sh_f w.1 kv0 (j := 5) (k := 14) (m := 8) rfl
  have bad : ¬ (0 ≤ v1.toInt ∧ v1.toInt ≤ 1) → Q (0 : Int32) I L := fun h => hQ _ I L w FR.rf (Or.inr ⟨rfl, h, fun _ _ => rfl⟩) (fun _ _ _ _ _ _ _ _ _ _ _ _ _ _ _ _ _ _ _ _ _ _ _ _ => ⟨fun q => absurd q.1 (by decide), fun _ => ⟨rfl, rfl, rfl, rfl⟩⟩)
  unfold f_X11_keep
  refine ⟨fun c => bad (by have c := (i_lt (x := v1) (y := 0) rfl (show (0 : Int32).toInt = 0 from rfl)).mp c; omega), fun c => ?_⟩
  have c := (not_congr (i_lt (x := v1) (y := 0) rfl (show (0 : Int32).toInt = 0 from rfl))).mp c
  intro b20 e20
  cases huS.symm.trans e20
  refine ⟨fun c2 => ?_, fun c2 => bad (by have c2 := (not_congr (i_lt (x := v1) (y := 2) rfl (show (2 : Int32).toInt = 2 from rfl))).mp c2; omega)⟩
  have c2 := (i_lt (x := v1) (y := 2) rfl (show (2 : Int32).toInt = 2 from rfl)).mp c2
  have n1 := i_nat (x := v1) rfl (by omega)
  intro b22 e22
  cases huS.symm.trans e22
  refine ⟨vi_of rfl (by omega) (by omega), ?_⟩
  intro b24 e24
  obtain ⟨y, ey, ky⟩ := w.1.2.2.1 uS kS v1.toNatClampNeg (by rw [lS]; omega)
  cases e24.symm.trans ey
  obtain ⟨a0, ha0, ka0, -⟩ := sh_f w.1 ky (j := 0) (k := 14) (m := 24) rfl
  obtain ⟨a1, ha1, ka1, -⟩ := sh_f w.1 ky (j := 1) (k := 14) (m := 24) rfl
  obtain ⟨a2, ha2, ka2, -⟩ := sh_f w.1 ky (j := 2) (k := 14) (m := 192) rfl
  obtain ⟨uG, hG, kG, lG⟩ := sh_f w.1 ky (j := 3) (k := 14) (m := 8) rfl
  intro b25 e25
  cases huF.symm.trans e25
  refine pu_stairs w b24 uF ky kF a0 a1 a2 x1 x2 uP x0 ha0 ha1 ha2 hx1 hx2 huP hx0 (fun I1 L1 w1 f1 o1 p0 p1 p2 => ?_)
  intro b32 e32
  cases hE.symm.trans e32
  intro b33 e33
  cases hG.symm.trans e33
  refine ⟨by decide, ?_⟩
  intro I35 e35 I36 e36
  have w35 : WD Z I35 := by rw [e35]; exact WD_cpy w1 2 3 ky hG kG rfl rfl (by decide) (fun _ _ _ => trivial)
  have f35 : FR [(2, 3)] Z I1 Z I35 := by rw [e35]; exact FR_upA w1.2.1 ky hG kG rfl rfl List.mem_cons_self
  have o35 : ∀ a, a ≠ uG → I35 a = I1 a := fun a ha => by rw [e35]; exact va_up_ne _ _ ha
  have w36 : WD Z I36 := by rw [e36]; exact WD_putF w35 2 7 ky (by decide) (by decide) trivial
  have f36 : FR [(2, 7)] Z I35 Z I36 := by rw [e36]; exact FR_putF ky (by decide) List.mem_cons_self
  have g36 : FR Ws_X11_keep Z I Z I36 := ((f1.mono (by decide)).trans w.1 w.2.1 (f35.mono (by decide))).trans w.1 w.2.1 (f36.mono (by decide))
  have dd : ∀ {a c j b a' c' j' b'}, jk Z a c → jk Z a' c' → jr Z a j = some b → jr Z a' j' = some b' → jsr c j = false → jsr c' j' = false → ¬ (c = c' ∧ j = j') → b ≠ b' := fun ka ka' h h' s s' n e => by
    subst e
    obtain ⟨rfl, rfl⟩ := w.2.1.2.2 _ _ _ _ _ _ _ ka ka' h h' s s'
    exact n ⟨ka.2.symm.trans ka'.2, rfl⟩
  have de : ∀ {a c j b a' c' j' b'}, jk Z a c → jk Z a' c' → jr Z a j = some b → jr Z a' j' = some b' → jsr c j = false → jsr c' j' = false → a ≠ a' → b ≠ b' := fun ka ka' h h' s s' n e => by
    subst e
    exact n (w.2.1.2.2 _ _ _ _ _ _ _ ka ka' h h' s s').1
  refine ⟨7, kp_L55 w36 v0 kv0 b24 ky (fun I4 I5 L4 w4 f4 e5 => ?_) 7 0 I36 L1 w36 FR.rf (by decide) (by decide) (by decide)⟩
  have w5 : WD Z I5 := by rw [e5]; exact WD_putF w4 2 8 ky (by decide) (by decide) trivial
  have f5 : FR [(2, 8)] Z I4 Z I5 := by rw [e5]; exact FR_putF ky (by decide) List.mem_cons_self
  have arr : ∀ {b j a}, jk Z b 2 → jr Z b j = some a → jk Z a 14 → j < 4 → I5 a = I35 a := fun {b j a} kb ha ka hj => by
    have n4 : (2, j) ∉ Ws_X2_putPilgrim := by
      have hj : j = 0 ∨ j = 1 ∨ j = 2 ∨ j = 3 := by omega
      rcases hj with rfl | rfl | rfl | rfl <;> decide
    rw [e5, jpI_ne (ks_ne ka ky (by decide)), f4.2.2.2 b 2 j a kb ha (by rw [ka.2]; rfl) (by unfold jsr; simp) n4, e36, jpI_ne (ks_ne ka ky (by decide))]
  have hs2 : ∀ j, jsr 2 j = false := fun j => by unfold jsr; simp
  refine hQ _ I5 L4 w5 ((g36.trans w.1 w.2.1 (f4.mono (by decide))).trans w.1 w.2.1 (f5.mono (by decide))) (Or.inl ⟨rfl, by omega, fun i b hi hb => ⟨fun hv => ?_, fun hv => ?_⟩⟩) ?_
  · rw [hv, e24] at hb
    cases hb
    rw [e5, jpI_at]
    decide
  · obtain ⟨y2, ey2, kb⟩ := w.1.2.2.1 uS kS i (by rw [lS]; exact hi)
    cases hb.symm.trans ey2
    have hne : b ≠ b24 := fun e => hv (by rw [e] at hb; exact (w.2.1.2.2 uS 17 i uS 17 v1.toNatClampNeg b24 kS kS hb e24 (by simp [jsr]) (by simp [jsr])).2)
    rw [e5, jpI_ne hne, f4.2.2.1 b 2 8 kb (by decide) (by decide), f36.2.2.1 b 2 8 kb (by decide) (by decide), f35.2.2.1 b 2 8 kb (by decide) (by decide), f1.2.2.1 b 2 8 kb (by decide) (by decide)]
  · intro yF yP y0 y1 y2 y5 g1 g2 g3 g4 g5 g6 i b c0 c1 c2 c3 hi hb q0 q1 q2 q3
    cases huF.symm.trans g1; cases huP.symm.trans g2; cases hx0.symm.trans g3; cases hx1.symm.trans g4; cases hx2.symm.trans g5; cases hE.symm.trans g6
    refine ⟨fun hv => ?_, fun hv => ?_⟩
    · rw [hv.2, e24] at hb
      cases hb
      cases ha0.symm.trans q0; cases ha1.symm.trans q1; cases ha2.symm.trans q2; cases hG.symm.trans q3
      refine ⟨fun s hs => ?_, fun s hs => ?_, fun s hs => ?_, fun s hs => ?_⟩
      · rw [arr ky ha0 ka0 (by omega), o35 a0 (ds_ne w.2.1 ky ha0 hG rfl rfl (by decide))]; exact p0 s hs
      · rw [arr ky ha1 ka1 (by omega), o35 a1 (ds_ne w.2.1 ky ha1 hG rfl rfl (by decide))]; exact p1 s hs
      · rw [arr ky ha2 ka2 (by omega), o35 a2 (ds_ne w.2.1 ky ha2 hG rfl rfl (by decide))]; exact p2 s hs
      · rw [arr ky hG kG (by omega), e35, va_up_self, z8, cpy_all hs, o1 uE (dd kv0 ky hE ha0 rfl rfl (by decide)) (dd kv0 ky hE ha1 rfl rfl (by decide)) (dd kv0 ky hE ha2 rfl rfl (by decide))]
    · have hv : ¬ i = v1.toNatClampNeg := fun e => hv ⟨rfl, e⟩
      obtain ⟨yb, eyb, kb⟩ := w.1.2.2.1 uS kS i (by rw [lS]; exact hi)
      cases hb.symm.trans eyb
      have hne : b ≠ b24 := fun e => hv (by rw [e] at hb; exact (w.2.1.2.2 uS 17 i uS 17 v1.toNatClampNeg b24 kS kS hb e24 (by simp [jsr]) (by simp [jsr])).2)
      have kk : ∀ {j c m}, jr Z b j = some c → jsh 2 j = some (14, some m) → jk Z c 14 := fun {j c m} hq hsh => by
        obtain ⟨b9, e9, k9, -⟩ := sh_f w.1 kb (j := j) (k := 14) (m := m) hsh
        cases hq.symm.trans e9
        exact k9
      have off : ∀ {j c}, jr Z b j = some c → jk Z c 14 → j < 4 → I5 c = I c := fun {j c} hq kc hj => by
        rw [arr kb hq kc hj, o35 c (de kb ky hq hG (hs2 j) rfl hne), o1 c (de kb ky hq ha0 (hs2 j) rfl hne) (de kb ky hq ha1 (hs2 j) rfl hne) (de kb ky hq ha2 (hs2 j) rfl hne)]
      exact ⟨off q0 (kk q0 rfl) (by omega), off q1 (kk q1 rfl) (by omega), off q2 (kk q2 rfl) (by omega), off q3 (kk q3 rfl) (by omega)⟩
/-- again of the class -/
theorem ge_stairs {Z : jZ} {I : jI} {L : jL} (w : WD Z I) (v0 v1 : Nat) (kv0 : jk Z v0 2) (kv1 : jk Z v1 8) (a0 a1 a2 x1 x2 uP x0 : Nat) (h0 : jr Z v0 0 = some a0) (h1 : jr Z v0 1 = some a1) (h2 : jr Z v0 2 = some a2) (g1 : jr Z v1 1 = some x1) (g2 : jr Z v1 2 = some x2) (gP : jr Z v1 4 = some uP) (g0 : jr Z uP 0 = some x0) {Q : jI → jL → Prop}
    (hQ : ∀ (I' : jI) (L' : jL), WD Z I' → FR Ws_X2_getStairs Z I Z I' → (∀ s, s < 24 → I' x1 s = I a0 s) → (∀ s, s < 24 → I' x2 s = I a1 s) → (∀ s, s < 192 → I' x0 s = I a2 s) → (I' uP 4).toInt = 0 → Q I' L') : f_X2_getStairs v0 v1 Z I L Q := by
  obtain ⟨x, ex, k0, -⟩ := sh_f w.1 kv0 (j := 0) (k := 14) (m := 24) rfl
  cases h0.symm.trans ex
  obtain ⟨x, ex, k1, -⟩ := sh_f w.1 kv0 (j := 1) (k := 14) (m := 24) rfl
  cases h1.symm.trans ex
  obtain ⟨x, ex, k2, l2⟩ := sh_f w.1 kv0 (j := 2) (k := 14) (m := 192) rfl
  cases h2.symm.trans ex
  obtain ⟨x, ex, kx1, -⟩ := sh_f w.1 kv1 (j := 1) (k := 14) (m := 24) rfl
  cases g1.symm.trans ex
  obtain ⟨x, ex, kx2, -⟩ := sh_f w.1 kv1 (j := 2) (k := 14) (m := 24) rfl
  cases g2.symm.trans ex
  obtain ⟨x, ex, kP⟩ := sh_o w.1 kv1 (j := 4) (k := 4) rfl
  cases gP.symm.trans ex
  obtain ⟨x, ex, kx0, -⟩ := sh_f w.1 kP (j := 0) (k := 14) (m := 192) rfl
  cases g0.symm.trans ex
  have dd : ∀ {a c j b a' c' j' b'}, jk Z a c → jk Z a' c' → jr Z a j = some b → jr Z a' j' = some b' → jsr c j = false → jsr c' j' = false → ¬ (c = c' ∧ j = j') → b ≠ b' := fun ka ka' h h' s s' n e => by
    subst e
    obtain ⟨rfl, rfl⟩ := w.2.1.2.2 _ _ _ _ _ _ _ ka ka' h h' s s'
    exact n ⟨ka.2.symm.trans ka'.2, rfl⟩
  unfold f_X2_getStairs
  intro b1 e1
  cases h0.symm.trans e1
  intro b2 e2
  cases g1.symm.trans e2
  refine ⟨by decide, ?_⟩
  intro I4 e4
  have w4 : WD Z I4 := by rw [e4]; exact WD_cpy w 8 1 kv1 g1 kx1 rfl rfl (by decide) (fun _ _ _ => trivial)
  have f4 : FR Ws_X2_getStairs Z I Z I4 := by rw [e4]; exact FR_upA w.2.1 kv1 g1 kx1 rfl rfl (by decide)
  have o4 : ∀ a, a ≠ x1 → I4 a = I a := fun a ha => by rw [e4]; exact va_up_ne _ _ ha
  intro b5 e5
  cases h1.symm.trans e5
  intro b6 e6
  cases g2.symm.trans e6
  refine ⟨by decide, ?_⟩
  intro I8 e8
  have r1 : ∀ q, rg 0 20 (I4 a1 q) := fun q => w4.arr 2 1 kv0 h1 k1 rfl rfl q
  have w8 : WD Z I8 := by rw [e8]; exact WD_cpy w4 8 2 kv1 g2 kx2 rfl rfl (by decide) (fun q _ _ => r1 _)
  have f8 : FR Ws_X2_getStairs Z I Z I8 := f4.trans w.1 w.2.1 (by rw [e8]; exact FR_upA w4.2.1 kv1 g2 kx2 rfl rfl (by decide))
  have o8 : ∀ a, a ≠ x2 → I8 a = I4 a := fun a ha => by rw [e8]; exact va_up_ne _ _ ha
  intro b9 e9
  cases gP.symm.trans e9
  intro b10 e10
  cases h2.symm.trans e10
  unfold f_X4_restore
  intro b11 e11
  cases g0.symm.trans e11
  refine ⟨⟨by decide, by decide, by decide, by rw [l2]; decide, by decide⟩, ?_⟩
  intro I13 e13 I14 e14
  have w13 : WD Z I13 := by rw [e13]; exact WD_cpy w8 4 0 kP g0 kx0 rfl rfl (by decide) (fun _ _ _ => trivial)
  have f13 : FR Ws_X2_getStairs Z I Z I13 := f8.trans w.1 w.2.1 (by rw [e13]; exact FR_upA w8.2.1 kP g0 kx0 rfl rfl (by decide))
  have o13 : ∀ a, a ≠ x0 → I13 a = I8 a := fun a ha => by rw [e13]; exact va_up_ne _ _ ha
  have w14 : WD Z I14 := by rw [e14]; exact WD_putF w13 4 4 kP (by decide) (by decide) (show rg 0 8 _ from ⟨by decide, by decide⟩)
  have f14 : FR Ws_X2_getStairs Z I Z I14 := f13.trans w.1 w.2.1 (by rw [e14]; exact FR_putF kP (by decide) (by decide))
  refine s_X4_findMains w14 uP kP (fun I15 L15 w15 f15 => ?_)
  have a1' : I15 x1 = I13 x1 := by rw [f15.2.2.2 v1 8 1 x1 kv1 g1 (by rw [kx1.2]; rfl) rfl (by decide), e14, jpI_ne (ks_ne kx1 kP (by decide))]
  have a2' : I15 x2 = I13 x2 := by rw [f15.2.2.2 v1 8 2 x2 kv1 g2 (by rw [kx2.2]; rfl) rfl (by decide), e14, jpI_ne (ks_ne kx2 kP (by decide))]
  have a0' : I15 x0 = I13 x0 := by rw [f15.2.2.2 uP 4 0 x0 kP g0 (by rw [kx0.2]; rfl) rfl (by decide), e14, jpI_ne (ks_ne kx0 kP (by decide))]
  refine hQ I15 L15 w15 (f14.trans w.1 w.2.1 (f15.mono (by decide))) (fun s hs => ?_) (fun s hs => ?_) (fun s hs => ?_) ?_
  · rw [a1', o13 x1 (dd kv1 kP g1 g0 rfl rfl (by decide)), o8 x1 (ds_ne w.2.1 kv1 g1 g2 rfl rfl (by decide)), e4, va_up_self, z24, cpy_all hs]
  · rw [a2', o13 x2 (dd kv1 kP g2 g0 rfl rfl (by decide)), e8, va_up_self, z24, cpy_all hs, o4 a1 (dd kv0 kv1 h1 g1 rfl rfl (by decide))]
  · rw [a0', e13, va_up_self, z192, cpy_all hs, o8 a2 (dd kv0 kv1 h2 g2 rfl rfl (by decide)), o4 a2 (dd kv0 kv1 h2 g1 rfl rfl (by decide))]
  · rw [f15.2.2.1 uP 4 4 kP (by decide) (by decide), e14, jpI_at]; rfl
def AGC (Z : jZ) (v0 uS : Nat) (v : Int32) (r : Int) (I I' : jI) : Prop := ∀ uF uP x0 x1 x2 x5, jr Z v0 2 = some uF → jr Z uF 4 = some uP → jr Z uP 0 = some x0 → jr Z uF 1 = some x1 → jr Z uF 2 = some x2 → jr Z v0 5 = some x5 →
  (r = 1 → ∀ b a0 a1 a2 a3, jr Z uS v.toNatClampNeg = some b → jr Z b 0 = some a0 → jr Z b 1 = some a1 → jr Z b 2 = some a2 → jr Z b 3 = some a3 → (∀ s, s < 24 → I' x1 s = I a0 s) ∧ (∀ s, s < 24 → I' x2 s = I a1 s) ∧ (∀ s, s < 192 → I' x0 s = I a2 s) ∧ (∀ s, s < 8 → I' x5 s = I a3 s) ∧ (I' uP 4).toInt = 0) ∧ (r = 0 → I' = I)
theorem s14_X11_again {Z : jZ} {I : jI} {L : jL} (w : WD Z I) (v0 : Nat) (v1 : Int32) (kv0 : jk Z v0 11) (uS : Nat) (huS : jr Z v0 8 = some uS) {Q : Int32 → jI → jL → Prop} (hQ : ∀ (r : Int32) (I' : jI) (L' : jL), WD Z I' → FR Ws_X11_again Z I Z I' → YN r.toInt (AG11 Z I uS v1) → AGC Z v0 uS v1 r.toInt I I' → Q r I' L') : f_X11_again v0 v1 Z I L Q := by
  obtain ⟨x, ex, kS, lS⟩ := sh_f w.1 kv0 (j := 8) (k := 17) (m := 2) rfl
  cases huS.symm.trans ex
  obtain ⟨uF, huF, kF⟩ := sh_o w.1 kv0 (j := 2) (k := 8) rfl
  obtain ⟨uP, huP, kP⟩ := sh_o w.1 kF (j := 4) (k := 4) rfl
  obtain ⟨x0, hx0, kx0, -⟩ := sh_f w.1 kP (j := 0) (k := 14) (m := 192) rfl
  obtain ⟨x1, hx1, kx1, -⟩ := sh_f w.1 kF (j := 1) (k := 14) (m := 24) rfl
  obtain ⟨x2, hx2, kx2, -⟩ := sh_f w.1 kF (j := 2) (k := 14) (m := 24) rfl
  obtain ⟨uE, hE, kE, lE⟩ := sh_f w.1 kv0 (j := 5) (k := 14) (m := 8) rfl
  have same : AGC Z v0 uS v1 (0 : Int32).toInt I I := fun _ _ _ _ _ _ _ _ _ _ _ _ => ⟨fun h => absurd h (by decide), fun _ => rfl⟩
  have bad : ¬ (0 ≤ v1.toInt ∧ v1.toInt ≤ 1) → Q (0 : Int32) I L := fun h => hQ _ I L w FR.rf (Or.inr ⟨rfl, fun g => h g.1⟩) same
  unfold f_X11_again
  refine ⟨fun c => bad (by have c := (i_lt (x := v1) (y := 0) rfl (show (0 : Int32).toInt = 0 from rfl)).mp c; omega), fun c => ?_⟩
  have c := (not_congr (i_lt (x := v1) (y := 0) rfl (show (0 : Int32).toInt = 0 from rfl))).mp c
  intro b20 e20
  cases huS.symm.trans e20
  refine ⟨fun c2 => bad (by have c2 := (i_le (x := 2) (y := v1) (show (2 : Int32).toInt = 2 from rfl) rfl).mp c2; omega), fun c2 => ?_⟩
  have c2 := (not_congr (i_le (x := 2) (y := v1) (show (2 : Int32).toInt = 2 from rfl) rfl)).mp c2
  have n1 := i_nat (x := v1) rfl (by omega)
  intro b22 e22
  cases huS.symm.trans e22
  refine ⟨vi_of rfl (by omega) (by omega), ?_⟩
  intro b24 e24
  obtain ⟨y, ey, ky⟩ := w.1.2.2.1 uS kS v1.toNatClampNeg (by rw [lS]; omega)
  cases e24.symm.trans ey
  refine ⟨fun c8 => ?_, fun c8 => hQ _ I L w FR.rf (Or.inr ⟨rfl, fun g => ?_⟩) same⟩
  · obtain ⟨a0, ha0, ka0, -⟩ := sh_f w.1 ky (j := 0) (k := 14) (m := 24) rfl
    obtain ⟨a1, ha1, ka1, -⟩ := sh_f w.1 ky (j := 1) (k := 14) (m := 24) rfl
    obtain ⟨a2, ha2, ka2, -⟩ := sh_f w.1 ky (j := 2) (k := 14) (m := 192) rfl
    obtain ⟨uG, hG, kG, lG⟩ := sh_f w.1 ky (j := 3) (k := 14) (m := 8) rfl
    intro b26 e26
    cases huS.symm.trans e26
    refine ⟨vi_of rfl (by omega) (by omega), ?_⟩
    intro b28 e28
    cases e24.symm.trans e28
    intro b29 e29
    cases huF.symm.trans e29
    refine ge_stairs w b24 uF ky kF a0 a1 a2 x1 x2 uP x0 ha0 ha1 ha2 hx1 hx2 huP hx0 (fun I1 L1 w1 f1 p1 p2 p0 p4 => ?_)
    intro b36 e36
    cases hG.symm.trans e36
    intro b37 e37
    cases hE.symm.trans e37
    refine ⟨by decide, ?_⟩
    intro I39 e39
    have w39 : WD Z I39 := by rw [e39]; exact WD_cpy w1 11 5 kv0 hE kE rfl rfl (by decide) (fun _ _ _ => trivial)
    have f39 : FR [(11, 5)] Z I1 Z I39 := by rw [e39]; exact FR_upA w1.2.1 kv0 hE kE rfl rfl List.mem_cons_self
    have g39 : FR Ws_X11_again Z I Z I39 := (f1.mono (by decide)).trans w.1 w.2.1 (f39.mono (by decide))
    have z0 : (0 : Int32).toInt = 0 := rfl
    have gG : I1 uG = I uG := f1.2.2.2 b24 2 3 uG ky hG (by rw [kG.2]; rfl) rfl (by decide)
    refine ⟨7, l13_X11_again_L59 w39 v0 v1 kv0 b24 ky (fun I' L' w' f' => ?_) 7 0 I39 L1 w39 FR.rf (by rw [z0]; omega) (by rw [z0]; omega)⟩
    refine hQ _ I' L' w' (g39.trans w.1 w.2.1 (f'.mono (by decide))) (Or.inl ⟨rfl, by omega, b24, e24, c8⟩) ?_
    intro yF yP y0 y1 y2 y5 g1 g2 g3 g4 g5 g6
    cases huF.symm.trans g1; cases huP.symm.trans g2; cases hx0.symm.trans g3; cases hx1.symm.trans g4; cases hx2.symm.trans g5; cases hE.symm.trans g6
    refine ⟨fun _ b c0 c1 c2 c3 hb q0 q1 q2 q3 => ?_, fun h => absurd h (by decide)⟩
    cases e24.symm.trans hb
    cases ha0.symm.trans q0; cases ha1.symm.trans q1; cases ha2.symm.trans q2; cases hG.symm.trans q3
    refine ⟨fun s hs => ?_, fun s hs => ?_, fun s hs => ?_, fun s hs => ?_, ?_⟩
    · rw [f'.2.2.2 uF 8 1 x1 kF hx1 (by rw [kx1.2]; rfl) rfl (by decide), f39.2.2.2 uF 8 1 x1 kF hx1 (by rw [kx1.2]; rfl) rfl (by decide)]; exact p1 s hs
    · rw [f'.2.2.2 uF 8 2 x2 kF hx2 (by rw [kx2.2]; rfl) rfl (by decide), f39.2.2.2 uF 8 2 x2 kF hx2 (by rw [kx2.2]; rfl) rfl (by decide)]; exact p2 s hs
    · rw [f'.2.2.2 uP 4 0 x0 kP hx0 (by rw [kx0.2]; rfl) rfl (by decide), f39.2.2.2 uP 4 0 x0 kP hx0 (by rw [kx0.2]; rfl) rfl (by decide)]; exact p0 s hs
    · rw [f'.2.2.2 v0 11 5 uE kv0 hE (by rw [kE.2]; rfl) rfl (by decide), e39, va_up_self, z8, cpy_all hs, gG]
    · rw [f'.2.2.1 uP 4 4 kP (by decide) (by decide), f39.2.2.1 uP 4 4 kP (by decide) (by decide)]; exact p4
  · obtain ⟨-, b', hb', hn⟩ := g
    cases e24.symm.trans hb'
    exact hn c8
/-- again of the reference -/
theorem ag_take {Z : jZ} {I : jI} {L : jL} {v0 u62 i m : Nat} {Q : Int32 → jI → jL → Prop} (w : WD Z I) (k0 : jk Z v0 12) (h62 : jr Z v0 62 = some u62) (hi : i < 2) (hm : m < 266) (t : (I v0 66).toInt = 266 * (i : Int) + (m : Int)) (hQ : ∀ (I' : jI) (L' : jL), WD Z I' → FR [(12, 66)] Z I Z I' → (I' v0 66).toInt = 266 * (i : Int) + ((m + 1 : Nat) : Int) → okK m (I u62 (266 * i + m)) → Q (I u62 (266 * i + m)) I' L') : f_X12_take v0 Z I L Q := by
  obtain ⟨x, ex, k62, l62⟩ := sh_f w.1 k0 (j := 62) (k := 14) (m := 532) rfl
  cases h62.symm.trans ex
  have ne : u62 ≠ v0 := ks_ne k62 k0 (by decide)
  have z1 : (1 : Int32).toInt = 1 := rfl
  unfold f_X12_take
  intro I1 e1 b2 e2
  cases h62.symm.trans e2
  have t1 : (I1 v0 66).toInt = 266 * (i : Int) + (m : Int) + 1 := by rw [e1, jpI_at]; exact i_add t z1 (by omega) (by omega)
  have t2 : ((I1 v0 66) - (1 : Int32)).toInt = 266 * (i : Int) + (m : Int) := (i_sub t1 z1 (by omega) (by omega)).trans (by omega)
  have n2 := i_nat t2 (by omega)
  have n2 : ((I1 v0 66) - (1 : Int32)).toNatClampNeg = 266 * i + m := by omega
  refine ⟨vi_of t2 (by omega) (by omega), ?_⟩
  rw [n2, show I1 u62 = I u62 by rw [e1, jpI_ne ne]]
  have ok : okK ((266 * i + m) % 266) (I u62 (266 * i + m)) := w.arr 12 62 k0 h62 k62 rfl rfl (266 * i + m)
  rw [show (266 * i + m) % 266 = m by omega] at ok
  refine hQ I1 L ?_ ?_ (by omega) ok
  · rw [e1]; exact WD_putF w 12 66 k0 (by decide) (by decide) trivial
  · rw [e1]; exact FR_putF k0 (by decide) List.mem_cons_self
theorem ag_L83 {Z : jZ} {J : jI} (wJ : WD Z J) (v0 : Nat) (v1 : Int32) (k0 : jk Z v0 12) (u62 : Nat) (h62 : jr Z v0 62 = some u62) (k62 : jk Z u62 14) (u5 : Nat) (h5 : jr Z v0 5 = some u5) (k5 : jk Z u5 14) (i : Nat) (hi : i < 2) (ev : v1.toInt = (i : Int)) {Q : Int32 → jI → jL → Prop}
    (hQ : ∀ (I : jI) (L : jL), WD Z I → FR ((12, 5) :: Wag) Z J Z I → (∀ s, s < 192 → I u5 s = J u62 (266 * i + 48 + s)) → (I v0 52).toInt = 0 → Q (1 : Int32) I L) :
    ∀ (n p : Nat) (v2 : Int32) (I : jI) (L : jL), WD Z I → FR ((12, 5) :: Wag) Z J Z I → (I v0 66).toInt = 266 * (i : Int) + ((48 + p : Nat) : Int) → v2.toInt = (p : Int) → p ≤ 192 → (∀ s, s < p → I u5 s = J u62 (266 * i + 48 + s)) → 193 ≤ n + p → f_X12_again_L83 Z Q n v0 v1 v2 I L := by
  have z1 : (1 : Int32).toInt = 1 := rfl
  intro n
  induction n with
  | zero => intro p v2 I L w f t e1 e2 e3 e4; exfalso; omega
  | succ n ih =>
    intro p v2 I L w f t e1 e2 e3 e4
    have y62 : I u62 = J u62 := f.2.2.2 v0 12 62 u62 k0 h62 (by rw [k62.2]; rfl) rfl (by decide)
    unfold f_X12_again_L83
    refine ⟨fun c => ?_, fun c => ?_⟩
    · have c := (i_le (show (192 : Int32).toInt = 192 from rfl) e1).mp c
      have z0 : (0 : Int32).toInt = 0 := rfl
      refine ⟨7, l13_X12_again_L108 w v0 v1 k0 (fun I' L' w' f' h52 => ?_) 7 0 I L w FR.rf (by rw [z0]; omega) (by rw [z0]; omega)⟩
      refine hQ I' L' w' (f.trans wJ.1 wJ.2.1 (f'.mono (fun p hp => List.mem_cons_of_mem _ hp))) (fun s hs => ?_) h52
      rw [f'.2.2.2 v0 12 5 u5 k0 h5 (by rw [k5.2]; rfl) rfl (by decide)]
      exact e3 s (by omega)
    have c := (not_congr (i_le (show (192 : Int32).toInt = 192 from rfl) e1)).mp c
    have q := i_nat e1 (by omega)
    have q : v2.toNatClampNeg = p := by omega
    intro b52 e52
    cases h5.symm.trans e52
    refine ag_take w k0 h62 hi (by omega) t (fun I1 L1 w1 f1 t1 _ => ?_)
    refine ⟨vi_of e1 (by omega) (by omega), ?_⟩
    intro I61 e61 x62 e62
    rw [q, y62] at e61
    have w61 : WD Z I61 := by rw [e61]; exact WD_putA w1 12 5 k0 h5 k5 rfl rfl (by decide) trivial
    have f61 : FR ((12, 5) :: Wag) Z J Z I61 := (f.trans wJ.1 wJ.2.1 (f1.mono (by decide))).trans wJ.1 wJ.2.1 (by rw [e61]; exact FR_upA w1.2.1 k0 h5 k5 rfl rfl (by decide))
    refine ih (p + 1) x62 I61 L1 w61 f61 ?_ ?_ (by omega) (fun s hs => ?_) (by omega)
    · rw [e61, jpI_ne (ks_ne k0 k5 (by decide)), t1]; omega
    · rw [e62]; exact (i_add e1 z1 (by omega) (by omega)).trans (by omega)
    · by_cases hq : s = p
      · rw [hq, e61, jpI_at, show 266 * i + 48 + p = 266 * i + (48 + p) by omega]
      · rw [e61, jpI_off hq, f1.2.2.2 v0 12 5 u5 k0 h5 (by rw [k5.2]; rfl) rfl (by decide)]
        exact e3 s (by omega)
theorem ag_L49 {Z : jZ} {J : jI} (wJ : WD Z J) (v0 : Nat) (v1 : Int32) (k0 : jk Z v0 12) (u62 : Nat) (h62 : jr Z v0 62 = some u62) (k62 : jk Z u62 14) (u2 : Nat) (h2 : jr Z v0 2 = some u2) (k2 : jk Z u2 14) (u3 : Nat) (h3 : jr Z v0 3 = some u3) (k3 : jk Z u3 14) (u5 : Nat) (h5 : jr Z v0 5 = some u5) (k5 : jk Z u5 14) (i : Nat) (hi : i < 2) (ev : v1.toInt = (i : Int)) {Q : Int32 → jI → jL → Prop}
    (hQ : ∀ (I : jI) (L : jL), WD Z I → FR ((12, 2) :: (12, 3) :: (12, 5) :: Wag) Z J Z I → (∀ s, s < 24 → I u2 s = J u62 (266 * i + 2 * s)) → (∀ s, s < 24 → I u3 s = J u62 (266 * i + 2 * s + 1)) → (∀ s, s < 192 → I u5 s = J u62 (266 * i + 48 + s)) → (I v0 52).toInt = 0 → Q (1 : Int32) I L) :
    ∀ (n p : Nat) (v2 : Int32) (I : jI) (L : jL), WD Z I → FR ((12, 2) :: (12, 3) :: (12, 5) :: Wag) Z J Z I → (I v0 66).toInt = 266 * (i : Int) + ((2 * p : Nat) : Int) → v2.toInt = (p : Int) → p ≤ 24 → (∀ s, s < p → I u2 s = J u62 (266 * i + 2 * s) ∧ I u3 s = J u62 (266 * i + 2 * s + 1)) → 25 ≤ n + p → f_X12_again_L49 Z Q n v0 v1 v2 I L := by
  have z1 : (1 : Int32).toInt = 1 := rfl
  have z0 : (0 : Int32).toInt = ((0 : Nat) : Int) := rfl
  intro n
  induction n with
  | zero => intro p v2 I L w f t e1 e2 e3 e4; exfalso; omega
  | succ n ih =>
    intro p v2 I L w f t e1 e2 e3 e4
    have y62 : I u62 = J u62 := f.2.2.2 v0 12 62 u62 k0 h62 (by rw [k62.2]; rfl) rfl (by decide)
    unfold f_X12_again_L49
    refine ⟨fun c => ?_, fun c => ?_⟩
    · have c := (i_le (show (24 : Int32).toInt = 24 from rfl) e1).mp c
      refine ⟨193, ag_L83 w v0 v1 k0 u62 h62 k62 u5 h5 k5 i hi ev (fun I' L' w' f' g5 g52 => ?_) 193 0 0 I L w FR.rf (by rw [t]; omega) z0 (by omega) (fun s hs => absurd hs (by omega)) (by omega)⟩
      refine hQ I' L' w' (f.trans wJ.1 wJ.2.1 (f'.mono (fun p hp => List.mem_cons_of_mem _ (List.mem_cons_of_mem _ hp)))) (fun s hs => ?_) (fun s hs => ?_) (fun s hs => ?_) g52
      · rw [f'.2.2.2 v0 12 2 u2 k0 h2 (by rw [k2.2]; rfl) rfl (by decide)]; exact (e3 s (by omega)).1
      · rw [f'.2.2.2 v0 12 3 u3 k0 h3 (by rw [k3.2]; rfl) rfl (by decide)]; exact (e3 s (by omega)).2
      · rw [g5 s hs, y62]
    have c := (not_congr (i_le (show (24 : Int32).toInt = 24 from rfl) e1)).mp c
    have q := i_nat e1 (by omega)
    have q : v2.toNatClampNeg = p := by omega
    intro b65 e65
    cases h2.symm.trans e65
    refine ag_take w k0 h62 hi (by omega) t (fun I1 L1 w1 f1 t1 ok1 => ?_)
    refine ⟨vi_of e1 (by omega) (by omega), ?_⟩
    intro I74 e74
    rw [q] at e74
    have w74 : WD Z I74 := by rw [e74]; exact WD_putA w1 12 2 k0 h2 k2 rfl rfl (by decide) (ok1.1 (by omega) (by omega))
    have f74 : FR ((12, 2) :: (12, 3) :: (12, 5) :: Wag) Z J Z I74 := (f.trans wJ.1 wJ.2.1 (f1.mono (by decide))).trans wJ.1 wJ.2.1 (by rw [e74]; exact FR_upA w1.2.1 k0 h2 k2 rfl rfl (by decide))
    have t74 : (I74 v0 66).toInt = 266 * (i : Int) + ((2 * p + 1 : Nat) : Int) := by rw [e74, jpI_ne (ks_ne k0 k2 (by decide)), t1]
    have y74 : I74 u62 = J u62 := f74.2.2.2 v0 12 62 u62 k0 h62 (by rw [k62.2]; rfl) rfl (by decide)
    intro b75 e75
    cases h3.symm.trans e75
    refine ag_take w74 k0 h62 hi (by omega) t74 (fun I2 L2 w2 f2 t2 ok2 => ?_)
    refine ⟨vi_of e1 (by omega) (by omega), ?_⟩
    intro I84 e84 x85 e85
    rw [q] at e84
    have w84 : WD Z I84 := by rw [e84]; exact WD_putA w2 12 3 k0 h3 k3 rfl rfl (by decide) (ok2.2.1 (by omega) (by omega))
    have f84 : FR ((12, 2) :: (12, 3) :: (12, 5) :: Wag) Z J Z I84 := (f74.trans wJ.1 wJ.2.1 (f2.mono (by decide))).trans wJ.1 wJ.2.1 (by rw [e84]; exact FR_upA w2.2.1 k0 h3 k3 rfl rfl (by decide))
    have n23 : u2 ≠ u3 := ds_ne wJ.2.1 k0 h2 h3 rfl rfl (by decide)
    refine ih (p + 1) x85 I84 L2 w84 f84 ?_ ?_ (by omega) (fun s hs => ?_) (by omega)
    · rw [e84, jpI_ne (ks_ne k0 k3 (by decide)), t2]; omega
    · rw [e85]; exact (i_add e1 z1 (by omega) (by omega)).trans (by omega)
    · have s2 : I84 u2 s = I74 u2 s := by rw [e84, jpI_ne n23, f2.2.2.2 v0 12 2 u2 k0 h2 (by rw [k2.2]; rfl) rfl (by decide)]
      by_cases hq : s = p
      · rw [s2, hq, e74, jpI_at, e84, jpI_at, y62, y74]
        exact ⟨rfl, by rw [show 266 * i + 2 * p + 1 = 266 * i + (2 * p + 1) by omega]⟩
      · rw [s2, e74, jpI_off hq, f1.2.2.2 v0 12 2 u2 k0 h2 (by rw [k2.2]; rfl) rfl (by decide), e84, jpI_off hq, f2.2.2.2 v0 12 3 u3 k0 h3 (by rw [k3.2]; rfl) rfl (by decide), e74, jpI_ne (fun e => n23 e.symm), f1.2.2.2 v0 12 3 u3 k0 h3 (by rw [k3.2]; rfl) rfl (by decide)]
        exact e3 s (by omega)
def AGM (Z : jZ) (v0 : Nat) (v : Int32) (r : Int) (I I' : jI) : Prop := ∀ u62 u2 u3 u5, jr Z v0 62 = some u62 → jr Z v0 2 = some u2 → jr Z v0 3 = some u3 → jr Z v0 5 = some u5 →
  (r = 1 → (∀ s, s < 24 → I' u2 s = I u62 (266 * v.toNatClampNeg + 2 * s)) ∧ (∀ s, s < 24 → I' u3 s = I u62 (266 * v.toNatClampNeg + 2 * s + 1)) ∧ (∀ s, s < 192 → I' u5 s = I u62 (266 * v.toNatClampNeg + 48 + s)) ∧ (I' v0 52).toInt = 0) ∧ (r = 0 → I' u2 = I u2 ∧ I' u3 = I u3 ∧ I' u5 = I u5 ∧ I' v0 52 = I v0 52)
theorem s14_X12_again {Z : jZ} {I : jI} {L : jL} (w : WD Z I) (v0 : Nat) (v1 : Int32) (kv0 : jk Z v0 12) (uK : Nat) (huK : jr Z v0 63 = some uK) (uC : Nat) (huC : jr Z v0 64 = some uC) {Q : Int32 → jI → jL → Prop} (hQ : ∀ (r : Int32) (I' : jI) (L' : jL), WD Z I' → FR Ws_X12_again Z I Z I' → YN r.toInt (AG12 I v0 uK uC v1) → AGM Z v0 v1 r.toInt I I' → Q r I' L') : f_X12_again v0 v1 Z I L Q := by
  obtain ⟨x, ex, kK, lK⟩ := sh_f w.1 kv0 (j := 63) (k := 16) (m := 2) rfl
  cases huK.symm.trans ex
  obtain ⟨y, ey, kC, lC⟩ := sh_f w.1 kv0 (j := 64) (k := 14) (m := 2) rfl
  cases huC.symm.trans ey
  obtain ⟨u62, h62, k62, -⟩ := sh_f w.1 kv0 (j := 62) (k := 14) (m := 532) rfl
  obtain ⟨u2, h2, k2, -⟩ := sh_f w.1 kv0 (j := 2) (k := 14) (m := 24) rfl
  obtain ⟨u3, h3, k3, -⟩ := sh_f w.1 kv0 (j := 3) (k := 14) (m := 24) rfl
  obtain ⟨u5, h5, k5, -⟩ := sh_f w.1 kv0 (j := 5) (k := 14) (m := 192) rfl
  have nK0 : uK ≠ v0 := ks_ne kK kv0 (by decide)
  have nC0 : uC ≠ v0 := ks_ne kC kv0 (by decide)
  unfold f_X12_again
  intro I1 e1
  have w1 : WD Z I1 := by rw [e1]; exact WD_putF w 12 22 kv0 (by decide) (by decide) trivial
  have f1 : FR Ws_X12_again Z I Z I1 := by rw [e1]; exact FR_putF kv0 (by decide) (by decide)
  have o1 : ∀ a, a ≠ v0 → I1 a = I a := fun a ha => by rw [e1]; exact jpI_ne ha
  have k1 : I1 uK = I uK := o1 uK nK0
  have c1 : I1 uC = I uC := o1 uC nC0
  have s1 : I1 v0 7 = I v0 7 := by rw [e1, jpI_o (by decide)]
  have z0 : (0 : Int32).toInt = 0 := rfl
  have z1 : (1 : Int32).toInt = 1 := rfl
  have same : AGM Z v0 v1 (0 : Int32).toInt I I1 := by
    intro a1 a2 a3 a5 g1 g2 g3 g5
    cases h62.symm.trans g1; cases h2.symm.trans g2; cases h3.symm.trans g3; cases h5.symm.trans g5
    exact ⟨fun h => absurd h (by decide), fun _ => ⟨o1 u2 (ks_ne k2 kv0 (by decide)), o1 u3 (ks_ne k3 kv0 (by decide)), o1 u5 (ks_ne k5 kv0 (by decide)), by rw [e1, jpI_o (by decide)]⟩⟩
  refine s_X12_in w1 _ _ _ (fun r p => ⟨fun c => ?_, fun c => ?_⟩)
  · have c := yz c
    exact hQ _ I1 L w1 f1 (Or.inr ⟨rfl, fun g => by have := g.1; omega⟩) same
  have c := nz c
  have hv : 0 ≤ v1.toInt ∧ v1.toInt ≤ 1 := by omega
  have n1 := i_nat (x := v1) rfl (by omega)
  intro b95 e95
  cases huK.symm.trans e95
  refine ⟨vi_of rfl (by omega) (by omega), fun c8 => ?_, fun c8 => ?_⟩
  · exact hQ _ I1 L w1 f1 (Or.inr ⟨rfl, fun g => g.2.1 (by rw [← k1]; exact c8)⟩) same
  intro b98 e98
  cases huC.symm.trans e98
  refine ⟨vi_of rfl (by omega) (by omega), fun c9 => ?_, fun c9 => ?_⟩
  · intro I2 e2
    have w2 : WD Z I2 := by rw [e2]; exact WD_putF w1 12 66 kv0 (by decide) (by decide) trivial
    have f2 : FR Ws_X12_again Z I Z I2 := f1.trans w.1 w.2.1 (by rw [e2]; exact FR_putF kv0 (by decide) (by decide))
    have t66 : (I2 v0 66).toInt = 266 * (v1.toNatClampNeg : Int) + ((2 * 0 : Nat) : Int) := by rw [e2, jpI_at]; exact (i_mul (show (266 : Int32).toInt = 266 from rfl) rfl (by omega) (by omega)).trans (by omega)
    refine ⟨25, ag_L49 w2 v0 v1 kv0 u62 h62 k62 u2 h2 k2 u3 h3 k3 u5 h5 k5 v1.toNatClampNeg (by omega) (by omega) (fun I' L' w' f' g2 g3 g5 g52 => ?_) 25 0 0 I2 L w2 FR.rf t66 rfl (by omega) (fun s hs => absurd hs (by omega)) (by omega)⟩
    have y62 : I2 u62 = I u62 := by rw [e2, jpI_ne (ks_ne k62 kv0 (by decide))]; exact o1 u62 (ks_ne k62 kv0 (by decide))
    refine hQ _ I' L' w' (f2.trans w.1 w.2.1 (f'.mono (by decide))) (Or.inl ⟨rfl, hv, by rw [← k1]; exact c8, by rw [← c1, ← s1]; exact c9⟩) ?_
    intro a1 a2 a3 a5 q1 q2 q3 q5
    cases h62.symm.trans q1; cases h2.symm.trans q2; cases h3.symm.trans q3; cases h5.symm.trans q5
    rw [y62] at g2 g3 g5
    exact ⟨fun _ => ⟨g2, g3, g5, g52⟩, fun h => absurd h (by decide)⟩
  · exact hQ _ I1 L w1 f1 (Or.inr ⟨rfl, fun g => c9 (by rw [c1, s1]; exact g.2.2)⟩) same
end
section
/-! ===== STATES of both sides, over all calls ===== -/
/-- what is kept of STATES -/
def KC (Z : jZ) (I : jI) (uS u62 : Nat) (n : Int) : Prop := ∀ i b a, i < 2 → jr Z uS i = some b → ¬ I b 8 = 0 → jr Z b 0 = some a → ∀ s : Nat, (s : Int) < n → I a s = I u62 (266 * i + 2 * s)
theorem KC_fr {W : List (Nat × Nat)} {Z Z' : jZ} {I I' : jI} {uS v2 u62 : Nat} {n m : Int} (f : FR W Z I Z' I') (sh : SH Z) (kS : jk Z uS 17) (lS : jlen Z uS = 2) (k2 : jk Z v2 12) (h62 : jr Z v2 62 = some u62) (k62 : jk Z u62 14) (n1 : (2, 8) ∉ W) (n2 : (2, 0) ∉ W) (n3 : (12, 62) ∉ W) (em : m = n) (h : KC Z I uS u62 n) : KC Z' I' uS u62 m := by
  intro i b a hi hb hh ha s hs
  rw [f.2.1 uS 17 i kS (by omega) (by omega)] at hb
  obtain ⟨y, ey, kb⟩ := sh.2.2.1 uS kS i (by rw [lS]; exact hi)
  cases hb.symm.trans ey
  rw [f.2.1 b 2 0 kb (by omega) (by omega)] at ha
  obtain ⟨x, ex, ka, -⟩ := sh_f sh kb (j := 0) (k := 14) (m := 24) rfl
  cases ha.symm.trans ex
  rw [f.2.2.1 b 2 8 kb (by decide) n1] at hh
  rw [f.2.2.2 b 2 0 a kb ha (by rw [ka.2]; rfl) rfl n2, f.2.2.2 v2 12 62 u62 k2 h62 (by rw [k62.2]; rfl) rfl n3]
  exact h i b a hi hb hh ha s (by omega)
theorem KC_frp {Z Z' : jZ} {I I' : jI} {uS v2 u62 : Nat} {n m : Int} (f : FRp Z I Z' I') (sh : SH Z) (kS : jk Z uS 17) (lS : jlen Z uS = 2) (k62 : jk Z u62 14) (em : m = n) (h : KC Z I uS u62 n) : KC Z' I' uS u62 m := by
  intro i b a hi hb hh ha s hs
  rw [f.1 uS 17 i kS (by decide)] at hb
  obtain ⟨y, ey, kb⟩ := sh.2.2.1 uS kS i (by rw [lS]; exact hi)
  cases hb.symm.trans ey
  rw [f.1 b 2 0 kb (by decide)] at ha
  obtain ⟨x, ex, ka, -⟩ := sh_f sh kb (j := 0) (k := 14) (m := 24) rfl
  cases ha.symm.trans ex
  rw [f.2 b 2 8 kb (by decide)] at hh
  rw [f.2 a 14 s ka (by omega), f.2 u62 14 _ k62 (by omega)]
  exact h i b a hi hb hh ha s (by omega)
theorem st_set {I0 I1 I2 : jI} {uF v2 uX uY : Nat} {A A' C C' : Nat → Int32} {a b c r1 r2 : Int32} (en : (I0 uF 9).toInt = (I0 v2 0).toInt) (eY : I1 uY = I0 uY) (eX : I2 uX = I1 uX) (e1 : I1 v2 0 = I0 v2 0) (e2 : I2 v2 0 = I1 v2 0) (p1 : SETr (I0 uF 9).toInt (I0 uX) (I1 uX) A A' a b c r1) (p2 : SETr (I1 v2 0).toInt (I1 uY) (I2 uY) C C' a b c r2) (hs : ARr (I0 v2 0).toInt (I0 uX) (I0 uY)) : ARr (I2 v2 0).toInt (I2 uX) (I2 uY) := by
  rw [eY, e1] at p2
  rw [eX, e2, e1]
  rw [en] at p1
  exact SETr_eq rfl p1 p2 hs
theorem st_wears {I0 I1 I2 : jI} {uF v2 uX uY : Nat} {a r1 r2 : Int32} (h0 : 0 ≤ (I0 v2 0).toInt) (en : (I0 uF 9).toInt = (I0 v2 0).toInt) (eY : I1 uY = I0 uY) (eX : I2 uX = I1 uX) (e1 : I1 v2 0 = I0 v2 0) (e2 : I2 v2 0 = I1 v2 0) (p1 : WEr (I0 uF 9).toInt (I0 uX) (I1 uX) a r1) (p2 : WEr (I1 v2 0).toInt (I1 uY) (I2 uY) a r2) (hs : ARr (I0 v2 0).toInt (I0 uX) (I0 uY)) : r1.toInt = r2.toInt ∧ ARr (I2 v2 0).toInt (I2 uX) (I2 uY) := by
  rw [eY, e1] at p2
  rw [eX, e2, e1]
  rw [en] at p1
  exact WEr_eq rfl h0 p1 p2 hs
theorem st_mends {I0 I1 I2 : jI} {uF v2 uX uY : Nat} {R U : Nat → Int32} {a r1 r2 : Int32} (en : (I0 uF 9).toInt = (I0 v2 0).toInt) (eY : I1 uY = I0 uY) (eX : I2 uX = I1 uX) (e1 : I1 v2 0 = I0 v2 0) (e2 : I2 v2 0 = I1 v2 0) (p1 : MEr (I0 uF 9).toInt (I0 uX) (I1 uX) R a r1) (p2 : MEr (I1 v2 0).toInt (I1 uY) (I2 uY) U a r2) (hs : ARr (I0 v2 0).toInt (I0 uX) (I0 uY)) : ARr (I2 v2 0).toInt (I2 uX) (I2 uY) := by
  rw [eY, e1] at p2
  rw [eX, e2, e1]
  rw [en] at p1
  exact MEr_st rfl p1 p2 hs
theorem st_mendsA {I0 I1 I2 : jI} {uF v2 uX uY uR vR : Nat} {a r1 r2 : Int32} (en : (I0 uF 9).toInt = (I0 v2 0).toInt) (eY : I1 uY = I0 uY) (eR : I1 vR = I0 vR) (e1 : I1 v2 0 = I0 v2 0) (p1 : MEr (I0 uF 9).toInt (I0 uX) (I1 uX) (I0 uR) a r1) (p2 : MEr (I1 v2 0).toInt (I1 uY) (I2 uY) (I1 vR) a r2) (hs : ARr (I0 v2 0).toInt (I0 uX) (I0 uY)) (hr : ARr (I0 v2 0).toInt (I0 uR) (I0 vR)) : r1.toInt = r2.toInt := by
  rw [eY, e1, eR] at p2
  rw [en] at p1
  exact MEr_eq rfl p1 p2 hs hr
theorem ARr_same {n m : Int} {S S' T T' : Nat → Int32} (e1 : S' = S) (e2 : T' = T) (e : m = n) (h : ARr n S T) : ARr m S' T' := by
  rw [e1, e2, e]; exact h
/-- stairs: a row of numbers of STEPS -/
theorem st_stairs {Z Z2 : jZ} {I0 I1 I2 : jI} {uB uT uM uF v2 uX uY j : Nat} {r1 r2 : Int} {sB sM : Int} (hj : j < 4) (hX : jr Z uF j = some uX) (er : r1 = r2) (ec : cT (I0 uB) sB = cT (I1 uM) sM) (eX : I2 uX = I1 uX) (eY : I1 uY = I0 uY) (en : (I0 uF 9).toInt = (I0 v2 0).toInt) (e1 : I1 v2 0 = I0 v2 0)
    (q1 : (0 ≤ r1 → CF (cT (I0 uB) sB) Z I1 uF r1) ∧ (r1 < 0 → ∀ j u, j < 4 → jr Z uF j = some u → I1 u = I0 u)) (q2 : (0 ≤ r2 → ∀ s : Nat, (s : Int) < r2 → (I2 uY s).toInt = cT (I1 uM) sM j s) ∧ (r2 < 0 → I2 uY = I1 uY)) (q3 : (0 ≤ r2 → (I2 v2 0).toInt = r2) ∧ (r2 < 0 → (I2 v2 0).toInt = (I1 v2 0).toInt)) (hs : ARr (I0 v2 0).toInt (I0 uX) (I0 uY)) : ARr (I2 v2 0).toInt (I2 uX) (I2 uY) := by
  subst er
  by_cases c : 0 ≤ r1
  · intro s hs2
    rw [q3.1 c] at hs2
    refine (i_eq rfl rfl).mpr ?_
    rw [eX, q1.1 c j uX hj hX s hs2, q2.1 c s hs2, ec]
  · have c' : r1 < 0 := by omega
    rw [q3.2 c', e1, eX, q1.2 c' j uX hj hX, q2.2 c', eY]
    exact hs
theorem KC_stairs {Z Z2 : jZ} {I0 I1 I2 : jI} {uS v2 u62 : Nat} {r1 r2 : Int} {n m : Int} (f1 : FR Ws_X11_stairs Z I0 Z I1) (f2 : FR Ws_X12_stairs Z I1 Z2 I2) (sh : SH Z) (kS : jk Z uS 17) (lS : jlen Z uS = 2) (k2 : jk Z v2 12) (h62 : jr Z v2 62 = some u62) (k62 : jk Z u62 14) (er : r1 = r2)
    (p1 : (r1 < 0 → ∀ b, jk Z b 2 → I1 b 8 = I0 b 8) ∧ (0 ≤ r1 → ∀ i b, i < 2 → jr Z uS i = some b → I1 b 8 = 0)) (em : r2 < 0 → m = n) (h : KC Z I0 uS u62 n) : KC Z2 I2 uS u62 m := by
  intro i b a hi hb hh ha s hs
  rw [f2.2.1 uS 17 i kS (by omega) (by omega)] at hb
  obtain ⟨y, ey, kb⟩ := sh.2.2.1 uS kS i (by rw [lS]; exact hi)
  cases hb.symm.trans ey
  rw [f2.2.1 b 2 0 kb (by omega) (by omega)] at ha
  obtain ⟨x, ex, ka, -⟩ := sh_f sh kb (j := 0) (k := 14) (m := 24) rfl
  cases ha.symm.trans ex
  rw [f2.2.2.1 b 2 8 kb (by decide) (by decide)] at hh
  by_cases c : 0 ≤ r1
  · exact absurd (p1.2 c i b hi hb) hh
  · rw [p1.1 (by omega) b kb] at hh
    rw [f2.2.2.2 b 2 0 a kb ha (by rw [ka.2]; rfl) rfl (by decide), f1.2.2.2 b 2 0 a kb ha (by rw [ka.2]; rfl) rfl (by decide), f2.2.2.2 v2 12 62 u62 k2 h62 (by rw [k62.2]; rfl) rfl (by decide), f1.2.2.2 v2 12 62 u62 k2 h62 (by rw [k62.2]; rfl) rfl (by decide)]
    exact h i b a hi hb hh ha s (by have := em (by omega); omega)
theorem KC_keep {Z : jZ} {I0 I1 I2 : jI} {v1 v2 uS uF uX uY u62 uK uC : Nat} {v : Int32} {r1 r2 n m : Int} (w : WD Z I0) (f1 : FR Ws_X11_keep Z I0 Z I1) (f2 : FR Ws_X12_keep Z I1 Z I2) (k1 : jk Z v1 11) (kS : jk Z uS 17) (lS : jlen Z uS = 2) (k2 : jk Z v2 12) (h62 : jr Z v2 62 = some u62) (k62 : jk Z u62 14) (hF : jr Z v1 2 = some uF) (kF : jk Z uF 8) (hX : jr Z uF 1 = some uX) (hY : jr Z v2 2 = some uY) (kY : jk Z uY 14) (n24 : n ≤ 24) (em : m = n)
    (p1 : KP11 Z uS v r1 I0 I1) (q1 : KBC Z v1 uS v r1 I0 I1) (p2 : KP12 v2 uK uC v r2 I1 I2) (q2 : KPM Z v2 v r2 I1 I2) (hs : ARr n (I0 uX) (I0 uY)) (h : KC Z I0 uS u62 n) : KC Z I2 uS u62 m := by
  intro i b a hi hb hh ha s hs2
  rw [em] at hs2
  obtain ⟨y, ey, kb⟩ := w.1.2.2.1 uS kS i (by rw [lS]; exact hi)
  cases hb.symm.trans ey
  obtain ⟨x, ex, ka, -⟩ := sh_f w.1 kb (j := 0) (k := 14) (m := 24) rfl
  cases ha.symm.trans ex
  obtain ⟨a1, ha1, -⟩ := sh_f w.1 kb (j := 1) (k := 14) (m := 24) rfl
  obtain ⟨a2, ha2, -⟩ := sh_f w.1 kb (j := 2) (k := 14) (m := 192) rfl
  obtain ⟨a3, ha3, -⟩ := sh_f w.1 kb (j := 3) (k := 14) (m := 8) rfl
  obtain ⟨uP, hP, kP⟩ := sh_o w.1 kF (j := 4) (k := 4) rfl
  obtain ⟨x0, hx0, -⟩ := sh_f w.1 kP (j := 0) (k := 14) (m := 192) rfl
  obtain ⟨x2, hx2, -⟩ := sh_f w.1 kF (j := 2) (k := 14) (m := 24) rfl
  obtain ⟨x5, hx5, -⟩ := sh_f w.1 k1 (j := 5) (k := 14) (m := 8) rfl
  have g1 := q1 uF uP x0 uX x2 x5 hF hP hx0 hX hx2 hx5 i b a a1 a2 a3 hi hb ha ha1 ha2 ha3
  obtain ⟨u65, h65, -⟩ := sh_f w.1 k2 (j := 65) (k := 14) (m := 2) rfl
  obtain ⟨u3, h3, -⟩ := sh_f w.1 k2 (j := 3) (k := 14) (m := 24) rfl
  obtain ⟨u5, h5, -⟩ := sh_f w.1 k2 (j := 5) (k := 14) (m := 192) rfl
  obtain ⟨u14, h14, -⟩ := sh_f w.1 k2 (j := 14) (k := 14) (m := 6) rfl
  obtain ⟨u15, h15, -⟩ := sh_f w.1 k2 (j := 15) (k := 14) (m := 6) rfl
  obtain ⟨u16, h16, -⟩ := sh_f w.1 k2 (j := 16) (k := 14) (m := 6) rfl
  obtain ⟨u17, h17, -⟩ := sh_f w.1 k2 (j := 17) (k := 14) (m := 8) rfl
  have g2 := q2 u62 u65 uY u3 u5 u14 u15 u16 u17 h62 h65 hY h3 h5 h14 h15 h16 h17
  have eY : I1 uY = I0 uY := f1.2.2.2 v2 12 2 uY k2 hY (by rw [kY.2]; rfl) rfl (by decide)
  have eK : I1 u62 = I0 u62 := f1.2.2.2 v2 12 62 u62 k2 h62 (by rw [k62.2]; rfl) rfl (by decide)
  have ea : I2 a = I1 a := f2.2.2.2 b 2 0 a kb ha (by rw [ka.2]; rfl) rfl (by decide)
  rw [f2.2.2.1 b 2 8 kb (by decide) (by decide)] at hh
  rw [ea]
  rcases p1 with ⟨hr, hv, z1⟩ | ⟨hr, hv, z1⟩
  · have hr2 : r2 = 1 := by
      rcases p2 with ⟨h9, -⟩ | ⟨-, h9, -⟩
      · exact h9
      · exact absurd hv h9
    obtain ⟨k1', k2', -, -⟩ := g2.1 hr2
    have n1 := i_nat (x := v) rfl hv.1
    by_cases c : i = v.toNatClampNeg
    · rw [(g1.1 ⟨hr, c⟩).1 s (by omega), c, k1' (2 * s) (by omega), kS_st (by omega), eY]
      exact hs s hs2
    · rw [(z1 i b hi hb).2 c] at hh
      rw [(g1.2 (fun q => c q.2)).1, k2' (266 * i + 2 * s) (by omega), eK]
      exact h i b a hi hb hh ha s hs2
  · have hr2 : r2 = 0 := by
      rcases p2 with ⟨-, h9, -⟩ | ⟨h9, -⟩
      · exact absurd h9 hv
      · exact h9
    rw [z1 b kb] at hh
    rw [(g1.2 (fun q => by omega)).1, (g2.2 hr2).1, eK]
    exact h i b a hi hb hh ha s hs2
theorem st_again {Z : jZ} {I0 I1 I2 : jI} {v1 v2 uS uF uX uY u62 uK uC : Nat} {v : Int32} {r1 r2 n m : Int} (w : WD Z I0) (f1 : FR Ws_X11_again Z I0 Z I1) (f2 : FR Ws_X12_again Z I1 Z I2) (k1 : jk Z v1 11) (kS : jk Z uS 17) (lS : jlen Z uS = 2) (k2 : jk Z v2 12) (h62 : jr Z v2 62 = some u62) (k62 : jk Z u62 14) (hF : jr Z v1 2 = some uF) (kF : jk Z uF 8) (hX : jr Z uF 1 = some uX) (kX : jk Z uX 14) (hY : jr Z v2 2 = some uY) (kY : jk Z uY 14) (n24 : n ≤ 24) (em : m = n) (er : r1 = r2)
    (p1 : YN r1 (AG11 Z I0 uS v)) (q1 : AGC Z v1 uS v r1 I0 I1) (q2 : AGM Z v2 v r2 I1 I2) (hs : ARr n (I0 uX) (I0 uY)) (h : KC Z I0 uS u62 n) : ARr m (I2 uX) (I2 uY) := by
  subst er
  obtain ⟨uP, hP, kP⟩ := sh_o w.1 kF (j := 4) (k := 4) rfl
  obtain ⟨x0, hx0, -⟩ := sh_f w.1 kP (j := 0) (k := 14) (m := 192) rfl
  obtain ⟨x2, hx2, -⟩ := sh_f w.1 kF (j := 2) (k := 14) (m := 24) rfl
  obtain ⟨x5, hx5, -⟩ := sh_f w.1 k1 (j := 5) (k := 14) (m := 8) rfl
  have g1 := q1 uF uP x0 uX x2 x5 hF hP hx0 hX hx2 hx5
  obtain ⟨u3, h3, -⟩ := sh_f w.1 k2 (j := 3) (k := 14) (m := 24) rfl
  obtain ⟨u5, h5, -⟩ := sh_f w.1 k2 (j := 5) (k := 14) (m := 192) rfl
  have g2 := q2 u62 uY u3 u5 h62 hY h3 h5
  have eX : I2 uX = I1 uX := f2.2.2.2 uF 8 1 uX kF hX (by rw [kX.2]; rfl) rfl (by decide)
  have eK : I1 u62 = I0 u62 := f1.2.2.2 v2 12 62 u62 k2 h62 (by rw [k62.2]; rfl) rfl (by decide)
  intro s hs2
  rw [em] at hs2
  rw [eX]
  rcases p1 with ⟨hr, hv, b, hb, hh⟩ | ⟨hr, -⟩
  · have n1 := i_nat (x := v) rfl hv.1
    obtain ⟨y, ey, kb⟩ := w.1.2.2.1 uS kS v.toNatClampNeg (by rw [lS]; omega)
    cases hb.symm.trans ey
    obtain ⟨a0, ha0, -⟩ := sh_f w.1 kb (j := 0) (k := 14) (m := 24) rfl
    obtain ⟨a1, ha1, -⟩ := sh_f w.1 kb (j := 1) (k := 14) (m := 24) rfl
    obtain ⟨a2, ha2, -⟩ := sh_f w.1 kb (j := 2) (k := 14) (m := 192) rfl
    obtain ⟨a3, ha3, -⟩ := sh_f w.1 kb (j := 3) (k := 14) (m := 8) rfl
    rw [(g1.1 hr b a0 a1 a2 a3 hb ha0 ha1 ha2 ha3).1 s (by omega), (g2.1 hr).1 s (by omega), eK]
    exact h v.toNatClampNeg b a0 (by omega) hb hh ha0 s hs2
  · have z := g1.2 hr
    rw [(g2.2 hr).1, z]
    exact hs s hs2
theorem MF_at {cc : Nat → Nat → Int} {Z : jZ} {I : jI} {v0 : Nat} {n : Int} (sh : SH Z) (k : jk Z v0 12) (h : MF cc Z I v0 n) {u1 u2 u3 u4 : Nat} (h1 : jr Z v0 1 = some u1) (h2 : jr Z v0 2 = some u2) (h3 : jr Z v0 3 = some u3) (h4 : jr Z v0 4 = some u4) (s : Nat) (hs : (s : Int) < n) : (I u1 s).toInt = cc 0 s ∧ (I u2 s).toInt = cc 1 s ∧ (I u3 s).toInt = cc 2 s ∧ (I u4 s).toInt = cc 3 s := by
  obtain ⟨u5, h5, -⟩ := sh_f sh k (j := 5) (k := 14) (m := 192) rfl
  obtain ⟨a, b, c, d, -⟩ := h u1 u2 u3 u4 u5 h1 h2 h3 h4 h5 s (by omega)
  exact ⟨a, b, c, d⟩
theorem MF_st {cc : Nat → Nat → Int} {Z : jZ} {I : jI} {v0 uY : Nat} {n : Int} (sh : SH Z) (k : jk Z v0 12) (hY : jr Z v0 2 = some uY) (h : MF cc Z I v0 n) (s : Nat) (hs : (s : Int) < n) : (I uY s).toInt = cc 1 s := by
  obtain ⟨u1, h1, -⟩ := sh_f sh k (j := 1) (k := 14) (m := 24) rfl
  obtain ⟨u3, h3, -⟩ := sh_f sh k (j := 3) (k := 14) (m := 24) rfl
  obtain ⟨u4, h4, -⟩ := sh_f sh k (j := 4) (k := 16) (m := 24) rfl
  exact (MF_at sh k h h1 hY h3 h4 s hs).2.1
theorem MF_ri {cc : Nat → Nat → Int} {Z : jZ} {I : jI} {v0 uY : Nat} {n : Int} (sh : SH Z) (k : jk Z v0 12) (hY : jr Z v0 1 = some uY) (h : MF cc Z I v0 n) (s : Nat) (hs : (s : Int) < n) : (I uY s).toInt = cc 0 s := by
  obtain ⟨u2, h2, -⟩ := sh_f sh k (j := 2) (k := 14) (m := 24) rfl
  obtain ⟨u3, h3, -⟩ := sh_f sh k (j := 3) (k := 14) (m := 24) rfl
  obtain ⟨u4, h4, -⟩ := sh_f sh k (j := 4) (k := 16) (m := 24) rfl
  exact (MF_at sh k h hY h2 h3 h4 s hs).1
end
section
/-! ===== PARTS of the class: what a sale, a death and undo do ===== -/
/-- n parts from a to b -/
def mvP (P : Nat → Int32) (a b : Nat) (n : Int32) : Nat → Int32 := upd (upd P a (P a - n)) b (upd P a (P a - n) b + n)
theorem s15_X4_move {Z : jZ} {I : jI} {L : jL} (w : WD Z I) (v0 : Nat) (v1 v2 v3 v4 : Int32) (kv0 : jk Z v0 4) (x0 : Nat) (h0 : jr Z v0 0 = some x0) (s f t : Nat) (e1 : v1.toInt = (s : Int)) (e2 : v2.toInt = (f : Int)) (e3 : v3.toInt = (t : Int)) (hs : s < 24) (hf : f < 8) (ht : t < 8) {Q : jI → jL → Prop} (hQ : ∀ (I' : jI) (L' : jL), WD Z I' → FR Ws_X4_move Z I Z I' → I' x0 = mvP (I x0) (8 * s + f) (8 * s + t) v4 → Q I' L') : f_X4_move v0 v1 v2 v3 v4 Z I L Q := by
  obtain ⟨x, ex, k0, l0⟩ := sh_f w.1 kv0 (j := 0) (k := 14) (m := 192) rfl
  cases h0.symm.trans ex
  have z0 : (0 : Int32).toInt = 0 := rfl
  have z24 : (24 : Int32).toInt = 24 := rfl
  have a2 : ((v1 * (8 : Int32)) + v2).toInt = 8 * (s : Int) + (f : Int) := (i_add (i_mul e1 (show (8 : Int32).toInt = 8 from rfl) (by omega) (by omega)) e2 (by omega) (by omega)).trans (by omega)
  have a3 : ((v1 * (8 : Int32)) + v3).toInt = 8 * (s : Int) + (t : Int) := (i_add (i_mul e1 (show (8 : Int32).toInt = 8 from rfl) (by omega) (by omega)) e3 (by omega) (by omega)).trans (by omega)
  have n2 := i_nat a2 (by omega)
  have n2 : ((v1 * (8 : Int32)) + v2).toNatClampNeg = 8 * s + f := by omega
  have n3 := i_nat a3 (by omega)
  have n3 : ((v1 * (8 : Int32)) + v3).toNatClampNeg = 8 * s + t := by omega
  unfold f_X4_move
  refine ⟨fun c => ?_, fun c => ⟨fun c2 => ?_, fun c2 => ?_⟩⟩
  · have c := (i_lt e1 z0).mp c
    omega
  · have c2 := (i_le z24 e1).mp c2
    omega
  refine s_X11_isFamily w v2 (fun r p => ⟨fun c3 => ?_, fun c3 => ?_⟩)
  · have c3 := yz c3
    omega
  refine s_X11_isFamily w v3 (fun r' p' => ⟨fun c4 => ?_, fun c4 => ?_⟩)
  · have c4 := yz c4
    omega
  intro b19 e19
  cases h0.symm.trans e19
  refine ⟨vi_of a2 (by omega) (by omega), vi_of a2 (by omega) (by omega), ?_⟩
  intro I22 e22
  have w22 : WD Z I22 := by rw [e22]; exact WD_putA w 4 0 kv0 h0 k0 rfl rfl (by decide) trivial
  have f22 : FR Ws_X4_move Z I Z I22 := by rw [e22]; exact FR_upA w.2.1 kv0 h0 k0 rfl rfl (by decide)
  have y22 : I22 x0 = upd (I x0) (8 * s + f) (I x0 (8 * s + f) - v4) := by rw [e22, n2]; exact va_up_self _ _ _
  intro b23 e23
  cases h0.symm.trans e23
  refine ⟨vi_of a3 (by omega) (by omega), vi_of a3 (by omega) (by omega), ?_⟩
  intro I26 e26
  have w26 : WD Z I26 := by rw [e26]; exact WD_putA w22 4 0 kv0 h0 k0 rfl rfl (by decide) trivial
  have f26 : FR Ws_X4_move Z I Z I26 := f22.trans w.1 w.2.1 (by rw [e26]; exact FR_upA w22.2.1 kv0 h0 k0 rfl rfl (by decide))
  have y26 : I26 x0 = mvP (I x0) (8 * s + f) (8 * s + t) v4 := by
    rw [e26, n3]
    refine (va_up_self _ _ _).trans ?_
    rw [y22]
    rfl
  refine s_X4_findMain w26 v0 v1 kv0 (by omega) (fun I29 L29 w29 f29 => ?_)
  refine hQ I29 L29 w29 (f26.trans w.1 w.2.1 (f29.mono (by decide))) ?_
  rw [f29.2.2.2 v0 4 0 x0 kv0 h0 (by rw [k0.2]; rfl) rfl (by decide)]
  exact y26
theorem s15_X4_shareOf {Z : jZ} {I : jI} {L : jL} (w : WD Z I) (v0 : Nat) (v1 v2 : Int32) (kv0 : jk Z v0 4) (x0 : Nat) (h0 : jr Z v0 0 = some x0) (s f : Nat) (e1 : v1.toInt = (s : Int)) (e2 : v2.toInt = (f : Int)) (hs : s < 24) (hf : f < 8) {Q : Int32 → jI → jL → Prop} (hQ : Q (I x0 (8 * s + f)) I L) : f_X4_shareOf v0 v1 v2 Z I L Q := by
  have z0 : (0 : Int32).toInt = 0 := rfl
  have z24 : (24 : Int32).toInt = 24 := rfl
  have a2 : ((v1 * (8 : Int32)) + v2).toInt = 8 * (s : Int) + (f : Int) := (i_add (i_mul e1 (show (8 : Int32).toInt = 8 from rfl) (by omega) (by omega)) e2 (by omega) (by omega)).trans (by omega)
  have n2 := i_nat a2 (by omega)
  have n2 : ((v1 * (8 : Int32)) + v2).toNatClampNeg = 8 * s + f := by omega
  unfold f_X4_shareOf
  refine ⟨fun c => ?_, fun c => ⟨fun c2 => ?_, fun c2 => ?_⟩⟩
  · have c := (i_lt e1 z0).mp c
    omega
  · have c2 := (i_le z24 e1).mp c2
    omega
  refine s_X11_isFamily w v2 (fun r p => ⟨fun c3 => ?_, fun c3 => ?_⟩)
  · have c3 := yz c3
    omega
  intro b11 e11
  cases h0.symm.trans e11
  refine ⟨vi_of a2 (by omega) (by omega), ?_⟩
  rw [n2]
  exact hQ
/-- what was ahead of the latest sales: m of them, H k q the k-th -/
def reM (m : Nat) : Nat := if m = 8 then 8 else m + 1
def reH (m : Nat) (H : Nat → Nat → Int32) (P : Nat → Int32) : Nat → Nat → Int32 := fun k q => if k = reM m - 1 then P q else if m = 8 then H (k + 1) q else H k q
/-- the class's -/
def HC (I : jI) (v0 x2 : Nat) (o : Int) : Nat → Nat → Int32 := fun k q => I x2 (192 * ((o.toNat + k) % 8) + q)
theorem cpy_at {g f : Nat → Int32} {b n q : Nat} (h1 : b ≤ q) (h2 : q < b + n) : va_cpy g f 0 b n q = g (q - b) := by
  unfold va_cpy
  rw [if_pos ⟨h1, h2⟩]
  congr 1
  omega
theorem cpy_off {g f : Nat → Int32} {a b n q : Nat} (h : ¬ (b ≤ q ∧ q < b + n)) : va_cpy g f a b n q = f q := by
  unfold va_cpy
  rw [if_neg h]
theorem cpy_to {g f : Nat → Int32} {a n q : Nat} (h : q < n) : va_cpy g f a 0 n q = g (a + q) := by
  unfold va_cpy
  rw [if_pos (by omega)]
  congr 1
theorem i_rem8 {x : Int32} {A : Int} (hx : x.toInt = A) (h0 : 0 ≤ A) : (x - x / (8 : Int32) * (8 : Int32)).toInt = A % 8 := i_rem hx (show (8 : Int32).toInt = 8 from rfl) h0 (by omega)
theorem s15_X4_remember {Z : jZ} {I : jI} {L : jL} (w : WD Z I) (v0 : Nat) (kv0 : jk Z v0 4) (x0 : Nat) (h0 : jr Z v0 0 = some x0) (x2 : Nat) (h2 : jr Z v0 2 = some x2) {Q : jI → jL → Prop} (hQ : ∀ (I' : jI) (L' : jL), WD Z I' → FR Ws_X4_remember Z I Z I' → (I' v0 4).toInt = (reM (I v0 4).toInt.toNat : Int) → (∀ k q, k < reM (I v0 4).toInt.toNat → q < 192 → HC I' v0 x2 (I' v0 3).toInt k q = reH (I v0 4).toInt.toNat (HC I v0 x2 (I v0 3).toInt) (I x0) k q) → Q I' L') : f_X4_remember v0 Z I L Q := by
  obtain ⟨x, ex, k0, l0⟩ := sh_f w.1 kv0 (j := 0) (k := 14) (m := 192) rfl
  cases h0.symm.trans ex
  obtain ⟨x, ex, k2, l2⟩ := sh_f w.1 kv0 (j := 2) (k := 14) (m := 1536) rfl
  cases h2.symm.trans ex
  have t4 : 0 ≤ (I v0 4).toInt ∧ (I v0 4).toInt ≤ 8 := w.fld 4 4 kv0 (by decide)
  have t3 : 0 ≤ (I v0 3).toInt ∧ (I v0 3).toInt ≤ 7 := w.fld 4 3 kv0 (by decide)
  have n20 : x2 ≠ v0 := ks_ne k2 kv0 (by decide)
  have n00 : x0 ≠ v0 := ks_ne k0 kv0 (by decide)
  have z1 : (1 : Int32).toInt = 1 := rfl
  have key : ∀ (J : jI) (o m : Int), WD Z J → FR Ws_X4_remember Z I Z J → J x0 = I x0 → J x2 = I x2 → (J v0 3).toInt = o → (J v0 4).toInt = m → 0 ≤ o → o ≤ 7 → 0 ≤ m → m ≤ 7 → (∀ k q, k < m.toNat → q < 192 → HC J v0 x2 o k q = (if (I v0 4).toInt.toNat = 8 then HC I v0 x2 (I v0 3).toInt (k + 1) q else HC I v0 x2 (I v0 3).toInt k q)) → reM (I v0 4).toInt.toNat = m.toNat + 1 → f_X4_remember_b32 Z Q v0 J L := by
    intro J o m wJ fJ y0 y2 e3 e4 ho0 ho7 hm0 hm7 hk hr
    have e34 : ((J v0 3) + (J v0 4)).toInt = o + m := i_add e3 e4 (by omega) (by omega)
    unfold f_X4_remember_b32
    intro x1 ex1
    have t1 : x1.toInt = (o + m) % 8 := by rw [ex1]; exact i_rem8 e34 (by omega)
    have tm : (x1 * (192 : Int32)).toInt = (o + m) % 8 * 192 := i_mul t1 (show (192 : Int32).toInt = 192 from rfl) (by omega) (by omega)
    have nm := i_nat tm (by omega)
    obtain ⟨sl, hsl⟩ : ∃ sl : Nat, (sl : Int) = (o + m) % 8 := ⟨((o + m) % 8).toNat, by omega⟩
    have nm : (x1 * (192 : Int32)).toNatClampNeg = 192 * sl := by omega
    intro b2 e2
    cases h0.symm.trans e2
    intro b3 e3'
    cases h2.symm.trans e3'
    refine ⟨⟨by decide, (not_congr (i_lt tm (show (0 : Int32).toInt = 0 from rfl))).mpr (by omega), by decide, by decide, by rw [nm, show (192 : Int32).toNatClampNeg = 192 from rfl]; omega⟩, ?_⟩
    intro I5 e5 I6 e6
    rw [nm, show (0 : Int32).toNatClampNeg = 0 from rfl, show (192 : Int32).toNatClampNeg = 192 from rfl] at e5
    have w5 : WD Z I5 := by rw [e5]; exact WD_cpy wJ 4 2 kv0 h2 k2 rfl rfl (by decide) (fun _ _ _ => trivial)
    have f5 : FR Ws_X4_remember Z I Z I5 := fJ.trans w.1 w.2.1 (by rw [e5]; exact FR_upA wJ.2.1 kv0 h2 k2 rfl rfl (by decide))
    have g4 : I5 v0 = J v0 := by rw [e5]; exact va_up_ne _ _ (fun e => n20 e.symm)
    have t6 : (I6 v0 4).toInt = m + 1 := by rw [e6, jpI_at, g4]; exact i_add e4 z1 (by omega) (by omega)
    have w6 : WD Z I6 := by rw [e6]; exact WD_putF w5 4 4 kv0 (by decide) (by decide) (show rg 0 8 _ by rw [g4]; constructor <;> rw [i_add e4 z1 (by omega) (by omega)] <;> omega)
    have f6 : FR Ws_X4_remember Z I Z I6 := f5.trans w.1 w.2.1 (by rw [e6]; exact FR_putF kv0 (by decide) (by decide))
    have y3 : (I6 v0 3).toInt = o := by rw [e6, jpI_o (by decide), g4]; exact e3
    have yx : I6 x2 = va_cpy (J x0) (J x2) 0 (192 * sl) 192 := by rw [e6, jpI_ne n20, e5]; exact va_up_self _ _ _
    refine hQ I6 L w6 f6 (by rw [t6, hr]; omega) (fun k q hk2 hq => ?_)
    rw [hr] at hk2
    rw [y3]
    unfold HC reH
    rw [yx]
    by_cases c : k = m.toNat
    · rw [if_pos (by omega), cpy_at (by omega) (by omega), y0]
      congr 1
      omega
    · rw [if_neg (by omega), cpy_off (by omega)]
      have := hk k q (by omega) hq
      unfold HC at this
      exact this
  unfold f_X4_remember
  refine ⟨fun c => ?_, fun c => ?_⟩
  · have c := (not_congr (i_eq (x := I v0 4) (y := 8) rfl (show (8 : Int32).toInt = 8 from rfl))).mp c
    refine key I (I v0 3).toInt (I v0 4).toInt w FR.rf rfl rfl rfl rfl t3.1 t3.2 t4.1 (by omega) (fun k q _ _ => by rw [if_neg (by omega)]) ?_
    unfold reM
    rw [if_neg (by omega)]
  · have c := (i_eq (x := I v0 4) (y := 8) rfl (show (8 : Int32).toInt = 8 from rfl)).mp c
    intro I8 e8 I9 e9
    have t31 : ((I v0 3) + (1 : Int32)).toInt = (I v0 3).toInt + 1 := i_add rfl z1 (by omega) (by omega)
    have t8 := i_rem8 t31 (by omega)
    have w8 : WD Z I8 := by rw [e8]; exact WD_putF w 4 3 kv0 (by decide) (by decide) (show rg 0 7 _ from ⟨by rw [t8]; omega, by rw [t8]; omega⟩)
    have f8 : FR Ws_X4_remember Z I Z I8 := by rw [e8]; exact FR_putF kv0 (by decide) (by decide)
    have g4 : (I8 v0 4).toInt = 8 := by rw [e8, jpI_o (by decide)]; exact c
    have t9 : ((I8 v0 4) - (1 : Int32)).toInt = 7 := i_sub g4 z1 (by omega) (by omega)
    have w9 : WD Z I9 := by rw [e9]; exact WD_putF w8 4 4 kv0 (by decide) (by decide) (show rg 0 8 _ from ⟨by rw [t9]; omega, by rw [t9]; omega⟩)
    have f9 : FR Ws_X4_remember Z I Z I9 := f8.trans w.1 w.2.1 (by rw [e9]; exact FR_putF kv0 (by decide) (by decide))
    refine key I9 (((I v0 3).toInt + 1) % 8) 7 w9 f9 ?_ ?_ ?_ ?_ (by omega) (by omega) (by omega) (by omega) (fun k q hk hq => ?_) ?_
    · rw [e9, jpI_ne n00, e8, jpI_ne n00]
    · rw [e9, jpI_ne n20, e8, jpI_ne n20]
    · rw [e9, jpI_o (by decide), e8, jpI_at]; exact t8
    · rw [e9, jpI_at]; exact t9
    · rw [if_pos (by omega)]
      unfold HC
      rw [e9, jpI_ne n20, e8, jpI_ne n20]
      congr 1
      omega
    · unfold reM
      rw [if_pos (by omega)]
      rfl
theorem s15_X4_takeBack {Z : jZ} {I : jI} {L : jL} (w : WD Z I) (v0 : Nat) (kv0 : jk Z v0 4) (x0 : Nat) (h0 : jr Z v0 0 = some x0) (x2 : Nat) (h2 : jr Z v0 2 = some x2) {Q : Int32 → jI → jL → Prop} (hQ : ∀ (r : Int32) (I' : jI) (L' : jL), WD Z I' → FR Ws_X4_takeBack Z I Z I' → ((r = 0 ∧ (I v0 4).toInt = 0 ∧ I' = I) ∨ (r = 1 ∧ 1 ≤ (I v0 4).toInt ∧ (I' v0 4).toInt = (I v0 4).toInt - 1 ∧ ∀ q, q < 192 → I' x0 q = HC I v0 x2 (I v0 3).toInt ((I v0 4).toInt.toNat - 1) q)) → Q r I' L') : f_X4_takeBack v0 Z I L Q := by
  obtain ⟨x, ex, k0, l0⟩ := sh_f w.1 kv0 (j := 0) (k := 14) (m := 192) rfl
  cases h0.symm.trans ex
  obtain ⟨x, ex, k2, l2⟩ := sh_f w.1 kv0 (j := 2) (k := 14) (m := 1536) rfl
  cases h2.symm.trans ex
  have t4 : 0 ≤ (I v0 4).toInt ∧ (I v0 4).toInt ≤ 8 := w.fld 4 4 kv0 (by decide)
  have t3 : 0 ≤ (I v0 3).toInt ∧ (I v0 3).toInt ≤ 7 := w.fld 4 3 kv0 (by decide)
  have n20 : x2 ≠ v0 := ks_ne k2 kv0 (by decide)
  have z1 : (1 : Int32).toInt = 1 := rfl
  unfold f_X4_takeBack
  refine ⟨fun c => ?_, fun c => hQ _ I L w FR.rf (Or.inl ⟨rfl, yz c, rfl⟩)⟩
  have c := nz c
  intro I2 e2
  have t2 : ((I v0 4) - (1 : Int32)).toInt = (I v0 4).toInt - 1 := i_sub rfl z1 (by omega) (by omega)
  have w2 : WD Z I2 := by rw [e2]; exact WD_putF w 4 4 kv0 (by decide) (by decide) (show rg 0 8 _ from ⟨by rw [t2]; omega, by rw [t2]; omega⟩)
  have f2 : FR Ws_X4_takeBack Z I Z I2 := by rw [e2]; exact FR_putF kv0 (by decide) (by decide)
  have g4 : (I2 v0 4).toInt = (I v0 4).toInt - 1 := by rw [e2, jpI_at]; exact t2
  have g3 : (I2 v0 3).toInt = (I v0 3).toInt := by rw [e2, jpI_o (by decide)]
  intro x3 e3
  have t33 : x3.toInt = ((I v0 3).toInt + ((I v0 4).toInt - 1)) % 8 := by rw [e3]; exact i_rem8 (i_add g3 g4 (by omega) (by omega)) (by omega)
  have tm : (x3 * (192 : Int32)).toInt = ((I v0 3).toInt + ((I v0 4).toInt - 1)) % 8 * 192 := i_mul t33 (show (192 : Int32).toInt = 192 from rfl) (by omega) (by omega)
  have nm := i_nat tm (by omega)
  have nm : (x3 * (192 : Int32)).toNatClampNeg = 192 * (((I v0 3).toInt.toNat + ((I v0 4).toInt.toNat - 1)) % 8) := by omega
  intro b4 e4
  cases h2.symm.trans e4
  intro b5 e5
  cases h0.symm.trans e5
  refine ⟨⟨(not_congr (i_lt tm (show (0 : Int32).toInt = 0 from rfl))).mpr (by omega), by decide, by decide, by rw [nm, show (192 : Int32).toNatClampNeg = 192 from rfl]; omega, by decide⟩, ?_⟩
  intro I7 e7
  rw [nm, show (0 : Int32).toNatClampNeg = 0 from rfl, show (192 : Int32).toNatClampNeg = 192 from rfl] at e7
  have w7 : WD Z I7 := by rw [e7]; exact WD_cpy w2 4 0 kv0 h0 k0 rfl rfl (by decide) (fun _ _ _ => trivial)
  have f7 : FR Ws_X4_takeBack Z I Z I7 := f2.trans w.1 w.2.1 (by rw [e7]; exact FR_upA w2.2.1 kv0 h0 k0 rfl rfl (by decide))
  refine s_X4_findMains w7 v0 kv0 (fun I8 L8 w8 f8 => ?_)
  refine hQ _ I8 L8 w8 (f7.trans w.1 w.2.1 (f8.mono (by decide))) (Or.inr ⟨rfl, by omega, ?_, fun q hq => ?_⟩)
  · rw [f8.2.2.1 v0 4 4 kv0 (by decide) (by decide), e7, va_up_ne _ _ (ks_ne kv0 k0 (by decide))]; exact g4
  · rw [f8.2.2.2 v0 4 0 x0 kv0 h0 (by rw [k0.2]; rfl) rfl (by decide), e7, va_up_self, cpy_to hq, e2, jpI_ne n20]
    rfl
/-- the bit of a FAMILY; how many there are ahead of it -/
def hbt (v : Int32) (k : Nat) : Bool := !decide (((v >>> (Int32.ofNat k &&& 31)) &&& (1 : Int32)) = 0)
theorem hbt_no {v : Int32} {k : Nat} (h : ((v >>> (Int32.ofNat k &&& 31)) &&& (1 : Int32)) = 0) : hbt v k = false := by
  unfold hbt
  rw [decide_eq_true h]
  rfl
theorem hbt_yes {v : Int32} {k : Nat} (h : ¬ ((v >>> (Int32.ofNat k &&& 31)) &&& (1 : Int32)) = 0) : hbt v k = true := by
  unfold hbt
  rw [decide_eq_false h]
  rfl
theorem and1 (x : Int32) : (x &&& (1 : Int32)) = 0 ∨ (x &&& (1 : Int32)) = 1 := by
  have h := i_and (x := x) (n := 1) (by omega)
  have h : 0 ≤ (x &&& (1 : Int32)).toInt ∧ (x &&& (1 : Int32)).toInt < 2 := h
  have h2 : (x &&& (1 : Int32)).toInt = 0 ∨ (x &&& (1 : Int32)).toInt = 1 := by omega
  rcases h2 with h2 | h2
  · exact Or.inl ((i_eq h2 (show (0 : Int32).toInt = 0 from rfl)).mpr rfl)
  · exact Or.inr ((i_eq h2 (show (1 : Int32).toInt = 1 from rfl)).mpr rfl)
def cnt (v : Int32) : Nat → Nat
  | 0 => 0
  | k + 1 => cnt v k + (if hbt v k = true then 1 else 0)
theorem cnt_le (v : Int32) : ∀ k, cnt v k ≤ k := by
  intro k
  induction k with
  | zero => exact Nat.le_refl 0
  | succ k ih =>
    show cnt v k + (if hbt v k = true then 1 else 0) ≤ k + 1
    split <;> omega
/-- what is left one by one to the first ones -/
def od1 (v : Int32) (rem : Int) (k : Nat) : Int32 := if (cnt v k : Int) < rem then 1 else 0
/-- a step's parts come to heirs: the class takes them away one after the other -/
def inhC (v : Int32) (B f : Nat) (q : Int32) (rem : Int) (P : Nat → Int32) : Nat → Nat → Int32
  | 0 => P
  | k + 1 => if hbt v k = true then mvP (inhC v B f q rem P k) (B + f) (B + k) (q + od1 v rem k) else inhC v B f q rem P k
theorem inhC_off {v : Int32} {B f : Nat} {q : Int32} {rem : Int} {P : Nat → Int32} (hf : f < 8) {z : Nat} (hz : z < B ∨ B + 8 ≤ z) : ∀ k, k ≤ 8 → inhC v B f q rem P k z = P z := by
  intro k
  induction k with
  | zero => intro _; rfl
  | succ k ih =>
    intro hk
    show (if hbt v k = true then mvP (inhC v B f q rem P k) (B + f) (B + k) (q + od1 v rem k) else inhC v B f q rem P k) z = P z
    split
    · unfold mvP
      refine (if_neg (by omega) : upd _ (B + k) _ z = _).trans ?_
      refine (if_neg (by omega) : upd _ (B + f) _ z = _).trans ?_
      exact ih (by omega)
    · exact ih (by omega)
theorem in_L30 {Z : jZ} {J : jI} (wJ : WD Z J) (v0 : Nat) (kv0 : jk Z v0 4) (x0 : Nat) (h0 : jr Z v0 0 = some x0) (v1 v2 v3 v4 v5 : Int32) (s f : Nat) (e1 : v1.toInt = (s : Int)) (e2 : v2.toInt = (f : Int)) (hs : s < 24) (hf : f < 8) (h5 : ¬ v5 = 0) (rem : Int) (hrem : -100 ≤ rem ∧ rem ≤ 100000) {Q : jI → jL → Prop}
    (hQ : ∀ (I : jI) (L : jL), WD Z I → FR Ws_X4_move Z J Z I → I x0 = inhC v3 (8 * s) f (v4 / v5) rem (J x0) 8 → Q I L) :
    ∀ (n k : Nat) (v6 v7 : Int32) (I : jI) (L : jL), WD Z I → FR Ws_X4_move Z J Z I → v7.toInt = (k : Int) → k ≤ 8 → v6.toInt = rem - (cnt v3 k : Int) → I x0 = inhC v3 (8 * s) f (v4 / v5) rem (J x0) k → 9 ≤ n + k → f_X4_inherit_L30 Z Q n v0 v1 v2 v3 v4 v5 v6 v7 I L := by
  have z0 : (0 : Int32).toInt = 0 := rfl
  have z1 : (1 : Int32).toInt = 1 := rfl
  intro n
  induction n with
  | zero => intro k v6 v7 I L w fr e7 hk e6 ex hn; exfalso; omega
  | succ n ih =>
    intro k v6 v7 I L w fr e7 hk e6 ex hn
    have hc := cnt_le v3 k
    unfold f_X4_inherit_L30
    refine ⟨fun c => ?_, fun c => ?_⟩
    · have c := (i_le (show (8 : Int32).toInt = 8 from rfl) e7).mp c
      have ek : k = 8 := by omega
      subst ek
      exact hQ I L w fr ex
    have c := (not_congr (i_le (show (8 : Int32).toInt = 8 from rfl) e7)).mp c
    have s7 : v7 = Int32.ofNat k := (i_eq e7 (i_nI (n := k) (by omega))).mpr rfl
    have nx : ∀ x : Int32, x = v7 + 1 → x.toInt = ((k + 1 : Nat) : Int) := fun x e => by rw [e]; exact (i_add e7 z1 (by omega) (by omega)).trans (by omega)
    refine ⟨fun c1 => ?_, fun c1 => ⟨h5, ?_⟩⟩
    · have hb := hbt_no (v := v3) (k := k) (by rw [← s7]; exact c1)
      unfold f_X4_inherit_b73
      intro x1 ex1
      refine ih (k + 1) v6 x1 I L w fr (nx x1 ex1) (by omega) ?_ ?_ (by omega)
      · rw [e6]
        show rem - (cnt v3 k : Int) = rem - ((cnt v3 k + (if hbt v3 k = true then 1 else 0) : Nat) : Int)
        rw [hb, if_neg (by decide)]
        omega
      · rw [ex]
        show _ = (if hbt v3 k = true then _ else _)
        rw [hb, if_neg (by decide)]
    · have hb := hbt_yes (v := v3) (k := k) (by rw [← s7]; exact c1)
      have go : ∀ s5 : Int32, s5 = od1 v3 rem k → f_X4_inherit_b66 (f_X4_inherit_L30 Z Q n) Z Q v0 v1 v2 v3 v4 v5 v6 v7 v0 v1 v2 v7 (v4 / v5) s5 I L := fun s5 hs5 => by
        unfold f_X4_inherit_b66
        refine s15_X4_move w v0 v1 v2 v7 _ kv0 x0 h0 s f k e1 e2 e7 hs hf (by omega) (fun I4 L4 w4 f4 y4 => ?_)
        intro x8 ex8
        unfold f_X4_inherit_b73
        intro x1 ex1
        refine ih (k + 1) x8 x1 I4 L4 w4 (fr.trans wJ.1 wJ.2.1 f4) (nx x1 ex1) (by omega) ?_ ?_ (by omega)
        · rw [ex8]
          show _ = rem - ((cnt v3 k + (if hbt v3 k = true then 1 else 0) : Nat) : Int)
          rw [hb, if_pos rfl]
          exact (i_add e6 (show (-1 : Int32).toInt = -1 from rfl) (by omega) (by omega)).trans (by omega)
        · rw [y4, ex, hs5]
          show _ = (if hbt v3 k = true then _ else _)
          rw [hb, if_pos rfl]
      refine ⟨fun c2 => go 0 ?_, fun c2 => go 1 ?_⟩
      · have c2 := (i_le e6 z0).mp c2
        unfold od1
        rw [if_neg (by omega)]
      · have c2 := (not_congr (i_le e6 z0)).mp c2
        unfold od1
        rw [if_pos (by omega)]
theorem s15_X4_inherit {Z : jZ} {I : jI} {L : jL} (w : WD Z I) (v0 : Nat) (v1 v2 v3 : Int32) (kv0 : jk Z v0 4) (x0 : Nat) (h0 : jr Z v0 0 = some x0) (s f : Nat) (e1 : v1.toInt = (s : Int)) (e2 : v2.toInt = (f : Int)) (hs : s < 24) (hf : f < 8) (h3 : 1 ≤ v3.toInt ∧ v3.toInt ≤ 255) (hb : 0 < (bcV v3).toInt ∧ (bcV v3).toInt ≤ 63) (ho : 0 ≤ (I x0 (8 * s + f)).toInt ∧ (I x0 (8 * s + f)).toInt ≤ 720) {Q : jI → jL → Prop} (hQ : ∀ (I' : jI) (L' : jL), WD Z I' → FR Ws_X4_inherit Z I Z I' → I' x0 = inhC v3 (8 * s) f (I x0 (8 * s + f) / bcV v3) ((I x0 (8 * s + f)).toInt % (bcV v3).toInt) (I x0) 8 → Q I' L') : f_X4_inherit v0 v1 v2 v3 Z I L Q := by
  unfold f_X4_inherit
  refine s15_X4_shareOf w v0 v1 v2 kv0 x0 h0 s f e1 e2 hs hf ?_
  refine s_J6_bitCount_0f7a4 w v3 (fun r26 p26 => ?_)
  obtain ⟨rfl, hne⟩ := p26
  have hn : ¬ bcV v3 = 0 := fun e => hne h3.1 h3.2 (by rw [e]; rfl)
  refine ⟨fun _ => ⟨hn, ?_⟩, fun c => absurd c hn⟩
  intro x29 e29
  have t29 : x29.toInt = (I x0 (8 * s + f)).toInt % (bcV v3).toInt := by rw [e29]; exact i_rem rfl rfl ho.1 hb.1
  have m0 := Int.emod_nonneg (I x0 (8 * s + f)).toInt (show (bcV v3).toInt ≠ 0 by omega)
  have m1 := Int.emod_lt_of_pos (I x0 (8 * s + f)).toInt hb.1
  refine ⟨9, in_L30 w v0 kv0 x0 h0 v1 v2 v3 _ _ s f e1 e2 hs hf hn _ (by omega) (fun I' L' w' f' y' => hQ I' L' w' (f'.mono (by decide)) y') 9 0 x29 0 I L w FR.rf rfl (by omega) ?_ rfl (by omega)⟩
  rw [t29]
  show _ = _ - ((0 : Nat) : Int)
  omega
/-- all STEPS -/
def diC (v : Int32) (f : Nat) (P : Nat → Int32) : Nat → Nat → Int32
  | 0 => P
  | s + 1 => inhC v (8 * s) f (diC v f P s (8 * s + f) / bcV v) ((diC v f P s (8 * s + f)).toInt % (bcV v).toInt) (diC v f P s) 8
theorem diC_off {v : Int32} {f : Nat} {P : Nat → Int32} (hf : f < 8) : ∀ (s z : Nat), 8 * s ≤ z → diC v f P s z = P z := by
  intro s
  induction s with
  | zero => intro z _; rfl
  | succ s ih =>
    intro z hz
    show inhC v (8 * s) f _ _ (diC v f P s) 8 z = P z
    rw [inhC_off hf (by omega) 8 (Nat.le_refl 8)]
    exact ih z (by omega)
theorem so_L4 {Z : jZ} {I : jI} {L : jL} (w : WD Z I) (v0 : Nat) (v1 : Int32) (kv0 : jk Z v0 4) (x0 : Nat) (h0 : jr Z v0 0 = some x0) (f : Nat) (e1 : v1.toInt = (f : Int)) (hf : f < 8) (hb : ∀ s, s < 24 → 0 ≤ (I x0 (8 * s + f)).toInt ∧ (I x0 (8 * s + f)).toInt ≤ 720) {Q : Int32 → jI → jL → Prop} (hQ : ∀ r : Int32, r.toInt = shS (fun s => (I x0 (8 * s + f)).toInt) 24 → Q r I L) :
    ∀ (n s : Nat) (v2 v3 : Int32), v3.toInt = (s : Int) → s ≤ 24 → v2.toInt = shS (fun s => (I x0 (8 * s + f)).toInt) s → 25 ≤ n + s → f_X4_sumOf_L4 Z Q n v0 v1 v2 v3 I L := by
  have hS : ∀ s : Nat, s ≤ 24 → 0 ≤ shS (fun s => (I x0 (8 * s + f)).toInt) s ∧ shS (fun s => (I x0 (8 * s + f)).toInt) s ≤ 720 * (s : Int) := by
    intro s
    induction s with
    | zero => intro _; exact ⟨by show (0 : Int) ≤ 0; omega, by show (0 : Int) ≤ 720 * 0; omega⟩
    | succ s ih =>
      intro hs
      have h1 := ih (by omega)
      have h2 := hb s (by omega)
      show 0 ≤ shS (fun s => (I x0 (8 * s + f)).toInt) s + (I x0 (8 * s + f)).toInt ∧ shS (fun s => (I x0 (8 * s + f)).toInt) s + (I x0 (8 * s + f)).toInt ≤ 720 * ((s + 1 : Nat) : Int)
      omega
  have z1 : (1 : Int32).toInt = 1 := rfl
  intro n
  induction n with
  | zero => intro s v2 v3 e3 hs e2 hn; exfalso; omega
  | succ n ih =>
    intro s v2 v3 e3 hs e2 hn
    unfold f_X4_sumOf_L4
    refine ⟨fun c => ?_, fun c => ?_⟩
    · have c := (i_le (show (24 : Int32).toInt = 24 from rfl) e3).mp c
      have es : s = 24 := by omega
      subst es
      exact hQ v2 e2
    have c := (not_congr (i_le (show (24 : Int32).toInt = 24 from rfl) e3)).mp c
    refine s15_X4_shareOf w v0 v3 v1 kv0 x0 h0 s f e3 e1 (by omega) hf ?_
    intro x9 e9 x10 e10
    have h1 := hS s (by omega)
    have h2 := hb s (by omega)
    refine ih (s + 1) x9 x10 ?_ (by omega) ?_ (by omega)
    · rw [e10]; exact (i_add e3 z1 (by omega) (by omega)).trans (by omega)
    · rw [e9]
      show _ = shS (fun s => (I x0 (8 * s + f)).toInt) s + (I x0 (8 * s + f)).toInt
      exact i_add e2 rfl (by omega) (by omega)
theorem s15_X4_sumOf {Z : jZ} {I : jI} {L : jL} (w : WD Z I) (v0 : Nat) (v1 : Int32) (kv0 : jk Z v0 4) (x0 : Nat) (h0 : jr Z v0 0 = some x0) (f : Nat) (e1 : v1.toInt = (f : Int)) (hf : f < 8) (hb : ∀ s, s < 24 → 0 ≤ (I x0 (8 * s + f)).toInt ∧ (I x0 (8 * s + f)).toInt ≤ 720) {Q : Int32 → jI → jL → Prop} (hQ : ∀ r : Int32, r.toInt = shS (fun s => (I x0 (8 * s + f)).toInt) 24 → Q r I L) : f_X4_sumOf v0 v1 Z I L Q := by
  unfold f_X4_sumOf
  exact ⟨25, so_L4 w v0 v1 kv0 x0 h0 f e1 hf hb hQ 25 0 0 0 rfl (by omega) rfl (by omega)⟩
theorem bc_cnt {v : Int32} (h1 : 1 ≤ v.toInt) (h2 : v.toInt ≤ 255) : (bcV v).toInt = (cnt v 8 : Int) := by
  have key : ∀ k : Fin 256, (bcV (Int32.ofNat k.val)).toInt = (cnt (Int32.ofNat k.val) 8 : Int) := by decide +kernel
  have hn := i_nat (x := v) rfl (by omega)
  have hk : v.toNatClampNeg < 256 := by omega
  have e : v = Int32.ofNat v.toNatClampNeg := (i_eq rfl (i_nI (n := v.toNatClampNeg) (by omega))).mpr (by omega)
  rw [e]
  exact key ⟨v.toNatClampNeg, hk⟩
theorem bc_rg {v : Int32} (h1 : 1 ≤ v.toInt) (h2 : v.toInt ≤ 255) : 0 < (bcV v).toInt ∧ (bcV v).toInt ≤ 63 := by
  have a := bc_cnt h1 h2
  have b := cnt_le v 8
  have c := bc_pos h1 h2
  omega
/-- what becomes of the class's PARTS and of its sales -/
def PSt (I : jI) (uP x0 x2 : Nat) (P : Nat → Int32) (m : Nat) (H : Nat → Nat → Int32) : Prop := I x0 = P ∧ (I uP 4).toInt = (m : Int) ∧ ∀ k q, k < m → q < 192 → HC I uP x2 (I uP 3).toInt k q = H k q
theorem d_L58 {Z : jZ} {J : jI} (wJ : WD Z J) (v0 : Nat) (kv0 : jk Z v0 11) (uF : Nat) (huF : jr Z v0 2 = some uF) (kF : jk Z uF 8) (uP : Nat) (huP : jr Z uF 4 = some uP) (kP : jk Z uP 4) (x0 : Nat) (h0 : jr Z uP 0 = some x0) (v1 v2 v3 : Int32) (f n : Nat) (en : (J uF 9).toInt = (n : Int)) (hn : n ≤ 24) (e1 : v1.toInt = (f : Int)) (hf : f < 8) (h2 : 1 ≤ v2.toInt ∧ v2.toInt ≤ 255) (ho : ∀ s, s < n → 0 ≤ (J x0 (8 * s + f)).toInt ∧ (J x0 (8 * s + f)).toInt ≤ 720) {Q : Int32 → jI → jL → Prop}
    (hQ : ∀ (I : jI) (L : jL), WD Z I → FR Ws_X4_inherit Z J Z I → I x0 = diC v2 f (J x0) n → Q v3 I L) :
    ∀ (m s : Nat) (v4 : Int32) (I : jI) (L : jL), WD Z I → FR Ws_X4_inherit Z J Z I → v4.toInt = (s : Int) → s ≤ n → I x0 = diC v2 f (J x0) s → n + 1 ≤ m + s → f_X11_dies_L58 Z Q m v0 v1 v2 v3 v4 I L := by
  intro m
  induction m with
  | zero => intro s v4 I L w fr e4 hs ex hm; exfalso; omega
  | succ m ih =>
    intro s v4 I L w fr e4 hs ex hm
    have s9 : (I uF 9).toInt = (n : Int) := by rw [fr.2.2.1 uF 8 9 kF (by decide) (by decide)]; exact en
    unfold f_X11_dies_L58
    intro b1 h1
    cases huF.symm.trans h1
    refine ⟨fun c => ?_, fun c => ?_⟩
    · have c := (i_le s9 e4).mp c
      have es : s = n := by omega
      subst es
      exact hQ I L w fr ex
    have c := (not_congr (i_le s9 e4)).mp c
    intro b3 h3
    cases huF.symm.trans h3
    intro b4 h4
    cases huP.symm.trans h4
    have eo : I x0 (8 * s + f) = J x0 (8 * s + f) := by rw [ex]; exact diC_off hf s _ (by omega)
    refine s15_X4_inherit w uP v4 v1 v2 kP x0 h0 s f e4 e1 (by omega) hf h2 (bc_rg h2.1 h2.2) (by rw [eo]; exact ho s (by omega)) (fun I7 L7 w7 f7 y7 => ?_)
    intro x11 e11
    refine ih (s + 1) x11 I7 L7 w7 (fr.trans wJ.1 wJ.2.1 f7) ?_ (by omega) ?_ (by omega)
    · rw [e11]; exact (i_add e4 (show (1 : Int32).toInt = 1 from rfl) (by omega) (by omega)).trans (by omega)
    · rw [y7, ex]; rfl
end
section
/-! ===== parts, sells, dies, undo ===== -/
/-- where PARTS are kept by the class -/
def PCs (Z : jZ) (v0 uF uP x0 x2 : Nat) : Prop := jr Z v0 2 = some uF ∧ jk Z uF 8 ∧ jr Z uF 4 = some uP ∧ jk Z uP 4 ∧ jr Z uP 0 = some x0 ∧ jk Z x0 14 ∧ jr Z uP 2 = some x2 ∧ jk Z x2 14
def PARr (n : Int) (P : Nat → Int32) (v1 v2 r : Int32) : Prop := ((0 ≤ v1.toInt ∧ v1.toInt < n ∧ 0 ≤ v2.toInt ∧ v2.toInt ≤ 7) ∧ r = P (8 * v1.toNatClampNeg + v2.toNatClampNeg)) ∨ (¬ (0 ≤ v1.toInt ∧ v1.toInt < n ∧ 0 ≤ v2.toInt ∧ v2.toInt ≤ 7) ∧ r.toInt = -1)
theorem s15_X11_parts {Z : jZ} {I : jI} {L : jL} (w : WD Z I) (v0 : Nat) (v1 v2 : Int32) (kv0 : jk Z v0 11) (uF uP x0 x2 : Nat) (pc : PCs Z v0 uF uP x0 x2) {Q : Int32 → jI → jL → Prop} (hQ : ∀ r : Int32, PARr (I uF 9).toInt (I x0) v1 v2 r → Q r I L) : f_X11_parts v0 v1 v2 Z I L Q := by
  obtain ⟨huF, kF, huP, kP, h0, k0, -⟩ := pc
  have t9 : 0 ≤ (I uF 9).toInt ∧ (I uF 9).toInt ≤ 24 := w.fld 8 9 kF (by decide)
  unfold f_X11_parts
  intro b1 e1
  cases huF.symm.trans e1
  refine s_X8_has w uF v1 kF (fun r p => ⟨fun c => hQ _ (Or.inr ⟨by have c := yz c; omega, rfl⟩), fun c => ?_⟩)
  have c := nz c
  refine s_X11_isFamily w v2 (fun r' p' => ⟨fun c' => hQ _ (Or.inr ⟨by have c' := yz c'; omega, rfl⟩), fun c' => ?_⟩)
  have c' := nz c'
  have n1 := i_nat (x := v1) rfl (by omega)
  have n2 := i_nat (x := v2) rfl (by omega)
  intro b18 e18
  cases huF.symm.trans e18
  intro b19 e19
  cases huP.symm.trans e19
  exact s15_X4_shareOf w uP v1 v2 kP x0 h0 v1.toNatClampNeg v2.toNatClampNeg (by omega) (by omega) (by omega) (by omega) (hQ _ (Or.inl ⟨by omega, rfl⟩))
def SELc (n : Int) (v1 v2 v3 v4 v5 : Int32) : Prop := (0 ≤ v1.toInt ∧ v1.toInt < n) ∧ (0 ≤ v2.toInt ∧ v2.toInt ≤ 7) ∧ (0 ≤ v3.toInt ∧ v3.toInt ≤ 7) ∧ ¬ v2.toInt = v3.toInt ∧ 1 ≤ v4.toInt ∧ v4.toInt ≤ v5.toInt ∧ v5.toInt ≤ 9
def SELr (n : Int) (P P' : Nat → Int32) (m m' : Nat) (H H' : Nat → Nat → Int32) (v1 v2 v3 v4 v5 r : Int32) : Prop :=
  (SELc n v1 v2 v3 v4 v5 ∧ r = (P (8 * v1.toNatClampNeg + v2.toNatClampNeg) * v4) / v5 ∧ ¬ r = 0 ∧ P' = mvP P (8 * v1.toNatClampNeg + v2.toNatClampNeg) (8 * v1.toNatClampNeg + v3.toNatClampNeg) r ∧ m' = reM m ∧ ∀ k q, k < m' → q < 192 → H' k q = reH m H P k q) ∨
  (¬ (SELc n v1 v2 v3 v4 v5 ∧ ¬ (P (8 * v1.toNatClampNeg + v2.toNatClampNeg) * v4) / v5 = 0) ∧ r.toInt = -1 ∧ P' = P ∧ m' = m ∧ ∀ k q, k < m' → q < 192 → H' k q = H k q)
theorem s15_X11_sells {Z : jZ} {I : jI} {L : jL} (w : WD Z I) (v0 : Nat) (v1 v2 v3 v4 v5 : Int32) (kv0 : jk Z v0 11) (uF uP x0 x2 : Nat) (pc : PCs Z v0 uF uP x0 x2) {Q : Int32 → jI → jL → Prop} (hQ : ∀ (r : Int32) (I' : jI) (L' : jL), WD Z I' → FR Ws_X11_sells Z I Z I' → SELr (I uF 9).toInt (I x0) (I' x0) (I uP 4).toInt.toNat (I' uP 4).toInt.toNat (HC I uP x2 (I uP 3).toInt) (HC I' uP x2 (I' uP 3).toInt) v1 v2 v3 v4 v5 r → Q r I' L') : f_X11_sells v0 v1 v2 v3 v4 v5 Z I L Q := by
  obtain ⟨huF, kF, huP, kP, h0, k0, h2, k2⟩ := pc
  have t9 : 0 ≤ (I uF 9).toInt ∧ (I uF 9).toInt ≤ 24 := w.fld 8 9 kF (by decide)
  have bad : ¬ SELc (I uF 9).toInt v1 v2 v3 v4 v5 → Q (-1 : Int32) I L := fun h => hQ _ I L w FR.rf (Or.inr ⟨fun g => h g.1, rfl, rfl, rfl, fun _ _ _ _ => rfl⟩)
  unfold f_X11_sells
  intro b1 e1
  cases huF.symm.trans e1
  refine s_X8_has w uF v1 kF (fun r p => ⟨fun c => bad (fun g => by have c := yz c; have := g.1; omega), fun c => ?_⟩)
  have c := nz c
  refine s_X11_isFamily w v2 (fun r2 p2 => ⟨fun c => bad (fun g => by have c := yz c; have := g.2.1; omega), fun c2 => ?_⟩)
  have c2 := nz c2
  refine s_X11_isFamily w v3 (fun r3 p3 => ⟨fun c => bad (fun g => by have c := yz c; have := g.2.2.1; omega), fun c3 => ?_⟩)
  have c3 := nz c3
  refine ⟨fun c4 => ?_, fun c4 => bad (fun g => g.2.2.2.1 (by rw [c4]))⟩
  have c4 := (not_congr (i_eq (x := v2) (y := v3) rfl rfl)).mp c4
  refine ⟨fun c5 => bad (fun g => by have c5 := (i_lt (x := v4) (y := 1) rfl (show (1 : Int32).toInt = 1 from rfl)).mp c5; have := g.2.2.2.2.1; omega), fun c5 => ?_⟩
  have c5 := (not_congr (i_lt (x := v4) (y := 1) rfl (show (1 : Int32).toInt = 1 from rfl))).mp c5
  refine ⟨fun c6 => bad (fun g => by have c6 := (i_lt (x := 9) (y := v5) (show (9 : Int32).toInt = 9 from rfl) rfl).mp c6; have := g.2.2.2.2.2.2; omega), fun c6 => ?_⟩
  have c6 := (not_congr (i_lt (x := 9) (y := v5) (show (9 : Int32).toInt = 9 from rfl) rfl)).mp c6
  refine ⟨fun c7 => ?_, fun c7 => bad (fun g => by have c7 := (not_congr (i_le (x := v4) (y := v5) rfl rfl)).mp c7; have := g.2.2.2.2.2.1; omega)⟩
  have c7 := (i_le (x := v4) (y := v5) rfl rfl).mp c7
  have n1 := i_nat (x := v1) rfl (by omega)
  have n2 := i_nat (x := v2) rfl (by omega)
  have n3 := i_nat (x := v3) rfl (by omega)
  have hC : SELc (I uF 9).toInt v1 v2 v3 v4 v5 := ⟨by omega, by omega, by omega, c4, by omega, c7, by omega⟩
  intro b30 e30
  cases huF.symm.trans e30
  intro b31 e31
  cases huP.symm.trans e31
  refine s15_X4_shareOf w uP v1 v2 kP x0 h0 v1.toNatClampNeg v2.toNatClampNeg (by omega) (by omega) (by omega) (by omega) ?_
  refine ⟨fun e => by have := congrArg Int32.toInt e; rw [show (0 : Int32).toInt = 0 from rfl] at this; omega, ?_⟩
  intro x40 e40
  refine ⟨fun c8 => ?_, fun c8 => hQ _ I L w FR.rf (Or.inr ⟨fun g => g.2 (by rw [← e40]; exact c8), rfl, rfl, rfl, fun _ _ _ _ => rfl⟩)⟩
  intro b42 e42
  cases huF.symm.trans e42
  intro b43 e43
  cases huP.symm.trans e43
  refine s15_X4_remember w uP kP x0 h0 x2 h2 (fun I1 L1 w1 f1 m1 y1 => ?_)
  have o1 : I1 x0 = I x0 := f1.2.2.2 uP 4 0 x0 kP h0 (by rw [k0.2]; rfl) rfl (by decide)
  intro b50 e50
  cases huF.symm.trans e50
  intro b51 e51
  cases huP.symm.trans e51
  refine s15_X4_move w1 uP v1 v2 v3 x40 kP x0 h0 v1.toNatClampNeg v2.toNatClampNeg v3.toNatClampNeg (by omega) (by omega) (by omega) (by omega) (by omega) (by omega) (fun I2 L2 w2 f2 y2 => ?_)
  have g4 : (I2 uP 4).toInt = (reM (I uP 4).toInt.toNat : Int) := by rw [f2.2.2.1 uP 4 4 kP (by decide) (by decide)]; exact m1
  have g3 : I2 uP 3 = I1 uP 3 := f2.2.2.1 uP 4 3 kP (by decide) (by decide)
  have gx : I2 x2 = I1 x2 := f2.2.2.2 uP 4 2 x2 kP h2 (by rw [k2.2]; rfl) rfl (by decide)
  refine hQ x40 I2 L2 w2 ((f1.mono (by decide)).trans w.1 w.2.1 (f2.mono (by decide))) (Or.inl ⟨hC, e40, c8, by rw [y2, o1], by rw [g4]; exact Int.toNat_natCast _, fun k q hk hq => ?_⟩)
  rw [g4, Int.toNat_natCast] at hk
  have := y1 k q hk hq
  unfold HC at this ⊢
  rw [g3, gx]
  exact this
def UNDr (P P' : Nat → Int32) (m m' : Nat) (H H' : Nat → Nat → Int32) (r : Int32) : Prop :=
  (m = 0 ∧ r.toInt = -1 ∧ P' = P ∧ m' = m ∧ ∀ k q, k < m' → q < 192 → H' k q = H k q) ∨ (1 ≤ m ∧ r.toInt = (m : Int) - 1 ∧ m' = m - 1 ∧ (∀ q, q < 192 → P' q = H (m - 1) q) ∧ ∀ k q, k < m' → q < 192 → H' k q = H k q)
theorem s15_X11_undo {Z : jZ} {I : jI} {L : jL} (w : WD Z I) (v0 : Nat) (kv0 : jk Z v0 11) (uF uP x0 x2 : Nat) (pc : PCs Z v0 uF uP x0 x2) {Q : Int32 → jI → jL → Prop} (hQ : ∀ (r : Int32) (I' : jI) (L' : jL), WD Z I' → FR Ws_X11_undo Z I Z I' → UNDr (I x0) (I' x0) (I uP 4).toInt.toNat (I' uP 4).toInt.toNat (HC I uP x2 (I uP 3).toInt) (HC I' uP x2 (I' uP 3).toInt) r → Q r I' L') : f_X11_undo v0 Z I L Q := by
  obtain ⟨huF, kF, huP, kP, h0, k0, h2, k2⟩ := pc
  unfold f_X11_undo
  intro b1 e1
  cases huF.symm.trans e1
  intro b2 e2
  cases huP.symm.trans e2
  refine s15_X4_takeBack w uP kP x0 h0 x2 h2 (fun r I1 L1 w1 f1 p1 => ⟨fun c => ?_, fun c => ?_⟩)
  · rcases p1 with ⟨-, hm, rfl⟩ | ⟨hr, -⟩
    · exact hQ _ I1 L1 w1 (f1.mono (by decide)) (Or.inl ⟨by omega, rfl, rfl, rfl, fun _ _ _ _ => rfl⟩)
    · rw [hr] at c; exact absurd c (by decide)
  · rcases p1 with ⟨hr, -⟩ | ⟨-, hm, h4, hx⟩
    · exact absurd hr c
    · intro b11 e11
      cases huF.symm.trans e11
      intro b12 e12
      cases huP.symm.trans e12
      refine hQ _ I1 L1 w1 (f1.mono (by decide)) (Or.inr ⟨by omega, by omega, by omega, hx, fun k q _ _ => ?_⟩)
      unfold HC
      rw [f1.2.2.1 uP 4 3 kP (by decide) (by decide), f1.2.2.2 uP 4 2 x2 kP h2 (by rw [k2.2]; rfl) rfl (by decide)]
def DIEc (v1 v2 : Int32) : Prop := (0 ≤ v1.toInt ∧ v1.toInt ≤ 7) ∧ (1 ≤ v2.toInt ∧ v2.toInt ≤ 255) ∧ hbt v2 v1.toNatClampNeg = false
def DICr (n : Nat) (P P' : Nat → Int32) (m m' : Nat) (H H' : Nat → Nat → Int32) (v1 v2 r : Int32) : Prop :=
  (¬ DIEc v1 v2 ∧ r.toInt = -1 ∧ P' = P ∧ m' = m ∧ ∀ k q, k < m' → q < 192 → H' k q = H k q) ∨
  (DIEc v1 v2 ∧ r.toInt = shS (fun s => (P (8 * s + v1.toNatClampNeg)).toInt) 24 ∧ ((r.toInt ≤ 0 ∧ P' = P ∧ m' = m ∧ ∀ k q, k < m' → q < 192 → H' k q = H k q) ∨ (0 < r.toInt ∧ P' = diC v2 v1.toNatClampNeg P n ∧ m' = reM m ∧ ∀ k q, k < m' → q < 192 → H' k q = reH m H P k q)))
theorem s15_X11_dies {Z : jZ} {I : jI} {L : jL} (w : WD Z I) (v0 : Nat) (v1 v2 : Int32) (kv0 : jk Z v0 11) (uF uP x0 x2 : Nat) (pc : PCs Z v0 uF uP x0 x2) (n : Nat) (en : (I uF 9).toInt = (n : Int)) (hb : ∀ z, z < 192 → 0 ≤ (I x0 z).toInt ∧ (I x0 z).toInt ≤ 720) {Q : Int32 → jI → jL → Prop} (hQ : ∀ (r : Int32) (I' : jI) (L' : jL), WD Z I' → FR Ws_X11_dies Z I Z I' → DICr n (I x0) (I' x0) (I uP 4).toInt.toNat (I' uP 4).toInt.toNat (HC I uP x2 (I uP 3).toInt) (HC I' uP x2 (I' uP 3).toInt) v1 v2 r → Q r I' L') : f_X11_dies v0 v1 v2 Z I L Q := by
  obtain ⟨huF, kF, huP, kP, h0, k0, h2, k2⟩ := pc
  have t9 : 0 ≤ (I uF 9).toInt ∧ (I uF 9).toInt ≤ 24 := w.fld 8 9 kF (by decide)
  have bad : ¬ DIEc v1 v2 → Q (-1 : Int32) I L := fun h => hQ _ I L w FR.rf (Or.inl ⟨h, rfl, rfl, rfl, fun _ _ _ _ => rfl⟩)
  unfold f_X11_dies
  refine s_X11_isFamily w v1 (fun r p => ⟨fun c => bad (fun g => by have c := yz c; have := g.1; omega), fun c => ?_⟩)
  have c := nz c
  have n1 := i_nat (x := v1) rfl (by omega)
  have s1 : v1 = Int32.ofNat v1.toNatClampNeg := (i_eq rfl (i_nI (n := v1.toNatClampNeg) (by omega))).mpr (by omega)
  refine ⟨fun c2 => bad (fun g => by have c2 := (i_lt (x := v2) (y := 1) rfl (show (1 : Int32).toInt = 1 from rfl)).mp c2; have := g.2.1; omega), fun c2 => ?_⟩
  have c2 := (not_congr (i_lt (x := v2) (y := 1) rfl (show (1 : Int32).toInt = 1 from rfl))).mp c2
  refine ⟨fun c3 => bad (fun g => by have c3 := (i_lt (x := 255) (y := v2) (show (255 : Int32).toInt = 255 from rfl) rfl).mp c3; have := g.2.1; omega), fun c3 => ?_⟩
  have c3 := (not_congr (i_lt (x := 255) (y := v2) (show (255 : Int32).toInt = 255 from rfl) rfl)).mp c3
  refine ⟨fun c4 => ?_, fun c4 => bad (fun g => by have h9 := hbt_yes (v := v2) (k := v1.toNatClampNeg) (by rw [← s1]; exact c4); have g3 := g.2.2; rw [h9] at g3; exact absurd g3 (by decide))⟩
  have hC : DIEc v1 v2 := ⟨by omega, by omega, hbt_no (by rw [← s1]; exact c4)⟩
  intro b23 e23
  cases huF.symm.trans e23
  intro b24 e24
  cases huP.symm.trans e24
  refine s15_X4_sumOf w uP v1 kP x0 h0 v1.toNatClampNeg (by omega) (by omega) (fun s hs => hb _ (by omega)) (fun r31 h31 => ⟨fun c5 => ?_, fun c5 => ?_⟩)
  · have c5 := (i_le (x := r31) (y := 0) rfl (show (0 : Int32).toInt = 0 from rfl)).mp c5
    exact hQ r31 I L w FR.rf (Or.inr ⟨hC, h31, Or.inl ⟨c5, rfl, rfl, fun _ _ _ _ => rfl⟩⟩)
  · have c5 := (not_congr (i_le (x := r31) (y := 0) rfl (show (0 : Int32).toInt = 0 from rfl))).mp c5
    intro b33 e33
    cases huF.symm.trans e33
    intro b34 e34
    cases huP.symm.trans e34
    refine s15_X4_remember w uP kP x0 h0 x2 h2 (fun I1 L1 w1 f1 m1 y1 => ?_)
    have o1 : I1 x0 = I x0 := f1.2.2.2 uP 4 0 x0 kP h0 (by rw [k0.2]; rfl) rfl (by decide)
    have s9 : (I1 uF 9).toInt = (n : Int) := by rw [f1.2.2.1 uF 8 9 kF (by decide) (by decide)]; exact en
    refine ⟨n + 1, d_L58 w1 v0 kv0 uF huF kF uP huP kP x0 h0 v1 v2 r31 v1.toNatClampNeg n s9 (by omega) (by omega) (by omega) ⟨by omega, by omega⟩ (fun s hs => by rw [o1]; exact hb _ (by omega)) (fun I2 L2 w2 f2 y2 => ?_) (n + 1) 0 0 I1 L1 w1 FR.rf rfl (by omega) rfl (by omega)⟩
    have g4 : (I2 uP 4).toInt = (reM (I uP 4).toInt.toNat : Int) := by rw [f2.2.2.1 uP 4 4 kP (by decide) (by decide)]; exact m1
    have g3 : I2 uP 3 = I1 uP 3 := f2.2.2.1 uP 4 3 kP (by decide) (by decide)
    have gx : I2 x2 = I1 x2 := f2.2.2.2 uP 4 2 x2 kP h2 (by rw [k2.2]; rfl) rfl (by decide)
    refine hQ r31 I2 L2 w2 ((f1.mono (by decide)).trans w.1 w.2.1 (f2.mono (by decide))) (Or.inr ⟨hC, h31, Or.inr ⟨by omega, by rw [y2, o1], by rw [g4]; exact Int.toNat_natCast _, fun k q hk hq => ?_⟩⟩)
    rw [g4, Int.toNat_natCast] at hk
    have := y1 k q hk hq
    unfold HC at this ⊢
    rw [g3, gx]
    exact this
/-! ===== PARTS of the reference ===== -/
def HM (I : jI) (u53 : Nat) : Nat → Nat → Int32 := fun k q => I u53 (192 * k + q)
theorem re_L55 {Z : jZ} {J : jI} (wJ : WD Z J) (v0 : Nat) (k0 : jk Z v0 12) (u53 : Nat) (h53 : jr Z v0 53 = some u53) (k53 : jk Z u53 14) (u54 : Nat) (h54 : jr Z v0 54 = some u54) (k54 : jk Z u54 14) (v1 : Int32) (e1 : v1.toInt = 192) (m : Nat) (em : (J v0 52).toInt = (m : Int)) (hm : m ≤ 7) {Q : jI → jL → Prop}
    (hQ : ∀ (I : jI) (L : jL), WD Z I → FR Ws_X12_rememberParts Z J Z I → (I v0 52).toInt = (m : Int) + 1 → (∀ q, q < 192 → I u53 (192 * m + q) = J u54 q) → (∀ z, z < 192 * m → I u53 z = J u53 z) → Q I L) :
    ∀ (n p : Nat) (v2 : Int32) (I : jI) (L : jL), WD Z I → FR Ws_X12_rememberParts Z J Z I → I v0 52 = J v0 52 → v2.toInt = (p : Int) → p ≤ 192 → (∀ q, q < p → I u53 (192 * m + q) = J u54 q) → (∀ z, z < 192 * m → I u53 z = J u53 z) → 193 ≤ n + p → f_X12_rememberParts_L55 Z Q n v0 v1 v2 I L := by
  have z1 : (1 : Int32).toInt = 1 := rfl
  have n5 : u53 ≠ v0 := ks_ne k53 k0 (by decide)
  intro n
  induction n with
  | zero => intro p v2 I L w f e52 e2 hp h1 h2 hn; exfalso; omega
  | succ n ih =>
    intro p v2 I L w f e52 e2 hp h1 h2 hn
    have em' : (I v0 52).toInt = (m : Int) := by rw [e52]; exact em
    unfold f_X12_rememberParts_L55
    refine ⟨fun c => ?_, fun c => ?_⟩
    · have c := (i_le e1 e2).mp c
      intro I2 ei
      have t2 : ((I v0 52) + (1 : Int32)).toInt = (m : Int) + 1 := i_add em' z1 (by omega) (by omega)
      refine hQ I2 L ?_ ?_ ?_ (fun q hq => ?_) (fun z hz => ?_)
      · rw [ei]; exact WD_putF w 12 52 k0 (by decide) (by decide) (show rg 0 8 _ from ⟨by rw [t2]; omega, by rw [t2]; omega⟩)
      · refine f.trans wJ.1 wJ.2.1 ?_
        rw [ei]; exact FR_putF k0 (by decide) (by decide)
      · rw [ei, jpI_at]; exact t2
      · rw [ei, jpI_ne n5]; exact h1 q (by omega)
      · rw [ei, jpI_ne n5]; exact h2 z hz
    have c := (not_congr (i_le e1 e2)).mp c
    have q2 := i_nat e2 (by omega)
    have q2 : v2.toNatClampNeg = p := by omega
    have ti : ((v1 * (I v0 52)) + v2).toInt = 192 * (m : Int) + (p : Int) := i_add (i_mul e1 em' (by omega) (by omega)) e2 (by omega) (by omega)
    have ni := i_nat ti (by omega)
    have ni : ((v1 * (I v0 52)) + v2).toNatClampNeg = 192 * m + p := by omega
    intro b3 e3
    cases h53.symm.trans e3
    intro b4 e4
    cases h54.symm.trans e4
    refine ⟨vi_of e2 (by omega) (by omega), vi_of ti (by omega) (by omega), ?_⟩
    intro I7 e7 x8 e8
    have g54 : I u54 = J u54 := f.2.2.2 v0 12 54 u54 k0 h54 (by rw [k54.2]; rfl) rfl (by decide)
    rw [ni, q2, g54] at e7
    have w7 : WD Z I7 := by rw [e7]; exact WD_putA w 12 53 k0 h53 k53 rfl rfl (by decide) trivial
    have f7 : FR Ws_X12_rememberParts Z J Z I7 := f.trans wJ.1 wJ.2.1 (by rw [e7]; exact FR_upA w.2.1 k0 h53 k53 rfl rfl (by decide))
    refine ih (p + 1) x8 I7 L w7 f7 ?_ ?_ (by omega) (fun q hq => ?_) (fun z hz => ?_) (by omega)
    · rw [e7, jpI_ne (fun e => n5 e.symm)]; exact e52
    · rw [e8]; exact (i_add e2 z1 (by omega) (by omega)).trans (by omega)
    · by_cases hqp : q = p
      · rw [hqp, e7, jpI_at]
      · rw [e7, jpI_off (by omega)]; exact h1 q (by omega)
    · rw [e7, jpI_off (by omega)]; exact h2 z hz
theorem re_L15 {Z : jZ} {J : jI} (wJ : WD Z J) (v0 : Nat) (k0 : jk Z v0 12) (u53 : Nat) (h53 : jr Z v0 53 = some u53) (k53 : jk Z u53 14) (u54 : Nat) (h54 : jr Z v0 54 = some u54) (k54 : jk Z u54 14) (v1 : Int32) (e1 : v1.toInt = 192) (em : (J v0 52).toInt = 8) {Q : jI → jL → Prop}
    (hQ : ∀ (I : jI) (L : jL), WD Z I → FR Ws_X12_rememberParts Z J Z I → (I v0 52).toInt = 8 → (∀ q, q < 192 → I u53 (192 * 7 + q) = J u54 q) → (∀ z, z < 192 * 7 → I u53 z = J u53 (z + 192)) → Q I L) :
    ∀ (n p : Nat) (v2 : Int32) (I : jI) (L : jL), WD Z I → FR Ws_X12_rememberParts Z J Z I → I v0 52 = J v0 52 → v2.toInt = (p : Int) → p ≤ 1344 → (∀ z, z < p → I u53 z = J u53 (z + 192)) → (∀ z, p ≤ z → I u53 z = J u53 z) → 1345 ≤ n + p → f_X12_rememberParts_L15 Z Q n v0 v1 v2 I L := by
  have z1 : (1 : Int32).toInt = 1 := rfl
  have n5 : u53 ≠ v0 := ks_ne k53 k0 (by decide)
  have t7 : (v1 * (7 : Int32)).toInt = 1344 := i_mul e1 (show (7 : Int32).toInt = 7 from rfl) (by omega) (by omega)
  intro n
  induction n with
  | zero => intro p v2 I L w f e52 e2 hp h1 h2 hn; exfalso; omega
  | succ n ih =>
    intro p v2 I L w f e52 e2 hp h1 h2 hn
    have em' : (I v0 52).toInt = 8 := by rw [e52]; exact em
    unfold f_X12_rememberParts_L15
    refine ⟨fun c => ?_, fun c => ?_⟩
    · have c := (i_le t7 e2).mp c
      intro I11 e11
      have t11 : ((I v0 52) - (1 : Int32)).toInt = ((7 : Nat) : Int) := i_sub em' z1 (by omega) (by omega)
      have w11 : WD Z I11 := by rw [e11]; exact WD_putF w 12 52 k0 (by decide) (by decide) (show rg 0 8 _ from ⟨by rw [t11]; omega, by rw [t11]; omega⟩)
      have f11 : FR Ws_X12_rememberParts Z J Z I11 := f.trans wJ.1 wJ.2.1 (by rw [e11]; exact FR_putF k0 (by decide) (by decide))
      have y53 : I11 u53 = I u53 := by rw [e11, jpI_ne n5]
      have y54 : I11 u54 = J u54 := f11.2.2.2 v0 12 54 u54 k0 h54 (by rw [k54.2]; rfl) rfl (by decide)
      have y52 : (I11 v0 52).toInt = ((7 : Nat) : Int) := by rw [e11, jpI_at]; exact t11
      unfold f_X12_rememberParts_b53
      refine ⟨193, re_L55 w11 v0 k0 u53 h53 k53 u54 h54 k54 v1 e1 7 y52 (by omega) (fun I' L' w' f' g1 g2 g3 => ?_) 193 0 0 I11 L w11 FR.rf rfl rfl (by omega) (fun q hq => absurd hq (by omega)) (fun _ _ => rfl) (by omega)⟩
      refine hQ I' L' w' (f11.trans wJ.1 wJ.2.1 f') (by rw [g1]; omega) (fun q hq => by rw [g2 q hq, y54]) (fun z hz => ?_)
      rw [g3 z hz, y53]
      exact h1 z (by omega)
    have c := (not_congr (i_le t7 e2)).mp c
    have q2 := i_nat e2 (by omega)
    have q2 : v2.toNatClampNeg = p := by omega
    have ti : (v2 + v1).toInt = (p : Int) + 192 := i_add e2 e1 (by omega) (by omega)
    have ni := i_nat ti (by omega)
    have ni : (v2 + v1).toNatClampNeg = p + 192 := by omega
    intro b12 e12
    cases h53.symm.trans e12
    intro b13 e13
    cases h53.symm.trans e13
    refine ⟨vi_of ti (by omega) (by omega), vi_of e2 (by omega) (by omega), ?_⟩
    intro I16 e16 x17 e17
    rw [ni, q2] at e16
    have w16 : WD Z I16 := by rw [e16]; exact WD_putA w 12 53 k0 h53 k53 rfl rfl (by decide) trivial
    have f16 : FR Ws_X12_rememberParts Z J Z I16 := f.trans wJ.1 wJ.2.1 (by rw [e16]; exact FR_upA w.2.1 k0 h53 k53 rfl rfl (by decide))
    refine ih (p + 1) x17 I16 L w16 f16 ?_ ?_ (by omega) (fun z hz => ?_) (fun z hz => ?_) (by omega)
    · rw [e16, jpI_ne (fun e => n5 e.symm)]; exact e52
    · rw [e17]; exact (i_add e2 z1 (by omega) (by omega)).trans (by omega)
    · by_cases hqp : z = p
      · rw [hqp, e16, jpI_at]; exact h2 (p + 192) (by omega)
      · rw [e16, jpI_off (by omega)]; exact h1 z (by omega)
    · rw [e16, jpI_off (by omega)]; exact h2 z (by omega)
theorem s15_X12_rememberParts {Z : jZ} {I : jI} {L : jL} (w : WD Z I) (v0 : Nat) (k0 : jk Z v0 12) (u53 : Nat) (h53 : jr Z v0 53 = some u53) (u54 : Nat) (h54 : jr Z v0 54 = some u54) {Q : jI → jL → Prop} (hQ : ∀ (I' : jI) (L' : jL), WD Z I' → FR Ws_X12_rememberParts Z I Z I' → (I' v0 52).toInt = (reM (I v0 52).toInt.toNat : Int) → (∀ k q, k < reM (I v0 52).toInt.toNat → q < 192 → HM I' u53 k q = reH (I v0 52).toInt.toNat (HM I u53) (I u54) k q) → Q I' L') : f_X12_rememberParts v0 Z I L Q := by
  obtain ⟨x, ex, k53, l53⟩ := sh_f w.1 k0 (j := 53) (k := 14) (m := 1536) rfl
  cases h53.symm.trans ex
  obtain ⟨x, ex, k54, l54⟩ := sh_f w.1 k0 (j := 54) (k := 14) (m := 192) rfl
  cases h54.symm.trans ex
  have t52 : 0 ≤ (I v0 52).toInt ∧ (I v0 52).toInt ≤ 8 := w.fld 12 52 k0 (by decide)
  unfold f_X12_rememberParts
  refine ⟨fun c => ?_, fun c => ?_⟩
  · have c := (not_congr (i_eq (x := I v0 52) (y := 8) rfl (show (8 : Int32).toInt = 8 from rfl))).mp c
    have em : reM (I v0 52).toInt.toNat = (I v0 52).toInt.toNat + 1 := by unfold reM; rw [if_neg (by omega)]
    unfold f_X12_rememberParts_b53
    refine ⟨193, re_L55 w v0 k0 u53 h53 k53 u54 h54 k54 192 rfl (I v0 52).toInt.toNat (by omega) (by omega) (fun I' L' w' f' g1 g2 g3 => ?_) 193 0 0 I L w FR.rf rfl rfl (by omega) (fun q hq => absurd hq (by omega)) (fun _ _ => rfl) (by omega)⟩
    refine hQ I' L' w' f' (by rw [g1, em]; omega) (fun k q hk hq => ?_)
    rw [em] at hk
    unfold HM reH
    rw [em]
    by_cases hkm : k = (I v0 52).toInt.toNat
    · rw [if_pos (by omega), hkm]; exact g2 q hq
    · rw [if_neg (by omega), if_neg (by omega)]; exact g3 _ (by omega)
  · have c := (i_eq (x := I v0 52) (y := 8) rfl (show (8 : Int32).toInt = 8 from rfl)).mp c
    have em : reM (I v0 52).toInt.toNat = 8 := by unfold reM; rw [if_pos (by omega)]
    refine ⟨1345, re_L15 w v0 k0 u53 h53 k53 u54 h54 k54 192 rfl c (fun I' L' w' f' g1 g2 g3 => ?_) 1345 0 0 I L w FR.rf rfl rfl (by omega) (fun q hq => absurd hq (by omega)) (fun _ _ => rfl) (by omega)⟩
    refine hQ I' L' w' f' (by rw [g1, em]; rfl) (fun k q hk hq => ?_)
    rw [em] at hk
    unfold HM reH
    rw [em]
    by_cases hkm : k = 7
    · rw [if_pos (by omega), hkm]; exact g2 q hq
    · rw [if_neg (by omega), if_pos (by omega), g3 _ (by omega)]
      congr 1
      omega
/-- where PARTS are kept by the reference -/
def PMs (Z : jZ) (v0 u5 u53 u54 : Nat) : Prop := jr Z v0 5 = some u5 ∧ jk Z u5 14 ∧ jr Z v0 53 = some u53 ∧ jk Z u53 14 ∧ jr Z v0 54 = some u54 ∧ jk Z u54 14
theorem s15_X12_parts {Z : jZ} {I : jI} {L : jL} (w : WD Z I) (v0 : Nat) (v1 v2 : Int32) (kv0 : jk Z v0 12) (u5 u53 u54 : Nat) (pm : PMs Z v0 u5 u53 u54) {Q : Int32 → jI → jL → Prop} (hQ : ∀ (r : Int32) (I' : jI) (L' : jL), WD Z I' → FR Ws_X12_parts Z I Z I' → PARr (I v0 0).toInt (I u5) v1 v2 r → Q r I' L') : f_X12_parts v0 v1 v2 Z I L Q := by
  obtain ⟨h5, k5, -⟩ := pm
  have t0 : 0 ≤ (I v0 0).toInt ∧ (I v0 0).toInt ≤ 24 := w.fld 12 0 kv0 (by decide)
  unfold f_X12_parts
  intro I1 e1
  have w1 : WD Z I1 := by rw [e1]; exact WD_putF w 12 22 kv0 (by decide) (by decide) trivial
  have f1 : FR Ws_X12_parts Z I Z I1 := by rw [e1]; exact FR_putF kv0 (by decide) (by decide)
  have s0 : I1 v0 0 = I v0 0 := by rw [e1]; exact jpI_o (by decide)
  have o5 : I1 u5 = I u5 := by rw [e1]; exact jpI_ne (ks_ne k5 kv0 (by decide))
  refine s_X12_isStep w1 v0 v1 kv0 (fun r p => ?_)
  rw [s0] at p
  refine ⟨fun c => hQ _ I1 L w1 f1 (Or.inr ⟨by have c := yz c; omega, rfl⟩), fun c => ?_⟩
  have c := nz c
  refine s_X12_isFamily w1 v2 (fun r' p' => ⟨fun c' => hQ _ I1 L w1 f1 (Or.inr ⟨by have c' := yz c'; omega, rfl⟩), fun c' => ?_⟩)
  have c' := nz c'
  have n1 := i_nat (x := v1) rfl (by omega)
  have n2 := i_nat (x := v2) rfl (by omega)
  have ti : (((8 : Int32) * v1) + v2).toInt = 8 * v1.toInt + v2.toInt := i_add (i_mul (show (8 : Int32).toInt = 8 from rfl) rfl (by omega) (by omega)) rfl (by omega) (by omega)
  have ni := i_nat ti (by omega)
  have ni : (((8 : Int32) * v1) + v2).toNatClampNeg = 8 * v1.toNatClampNeg + v2.toNatClampNeg := by omega
  intro b18 e18
  cases h5.symm.trans e18
  refine ⟨vi_of ti (by omega) (by omega), ?_⟩
  rw [ni, o5]
  exact hQ _ I1 L w1 f1 (Or.inl ⟨by omega, rfl⟩)
theorem se_L85 {Z : jZ} {J : jI} (wJ : WD Z J) (v0 : Nat) (k0 : jk Z v0 12) (u5 u53 u54 : Nat) (pm : PMs Z v0 u5 u53 u54) (v1 v2 v3 v6 : Int32) (s f t : Nat) (e1 : v1.toInt = (s : Int)) (e2 : v2.toInt = (f : Int)) (e3 : v3.toInt = (t : Int)) (hs : s < 24) (hf : f < 8) (ht : t < 8) {Q : Int32 → jI → jL → Prop}
    (hQ : ∀ (I : jI) (L : jL), WD Z I → FR [(12, 5), (12, 52), (12, 53), (12, 54)] Z J Z I → I u5 = mvP (J u5) (8 * s + f) (8 * s + t) v6 → (I v0 52).toInt = (reM (J v0 52).toInt.toNat : Int) → (∀ k q, k < reM (J v0 52).toInt.toNat → q < 192 → HM I u53 k q = reH (J v0 52).toInt.toNat (HM J u53) (J u5) k q) → Q v6 I L) :
    ∀ (n p : Nat) (v7 : Int32) (I : jI) (L : jL), WD Z I → FR [(12, 54)] Z J Z I → v7.toInt = (p : Int) → p ≤ 192 → (∀ q, q < p → I u54 q = J u5 q) → 193 ≤ n + p → f_X12_sells_L85 Z Q n v0 v1 v2 v3 v6 v7 I L := by
  obtain ⟨h5, k5, h53, k53, h54, k54⟩ := pm
  have z1 : (1 : Int32).toInt = 1 := rfl
  have a2 : (((8 : Int32) * v1) + v2).toInt = 8 * (s : Int) + (f : Int) := i_add (i_mul (show (8 : Int32).toInt = 8 from rfl) e1 (by omega) (by omega)) e2 (by omega) (by omega)
  have a3 : (((8 : Int32) * v1) + v3).toInt = 8 * (s : Int) + (t : Int) := i_add (i_mul (show (8 : Int32).toInt = 8 from rfl) e1 (by omega) (by omega)) e3 (by omega) (by omega)
  have n2 := i_nat a2 (by omega)
  have n2 : (((8 : Int32) * v1) + v2).toNatClampNeg = 8 * s + f := by omega
  have n3 := i_nat a3 (by omega)
  have n3 : (((8 : Int32) * v1) + v3).toNatClampNeg = 8 * s + t := by omega
  intro n
  induction n with
  | zero => intro p v7 I L w fr e7 hp h1 hn; exfalso; omega
  | succ n ih =>
    intro p v7 I L w fr e7 hp h1 hn
    have y5 : I u5 = J u5 := fr.2.2.2 v0 12 5 u5 k0 h5 (by rw [k5.2]; rfl) rfl (by decide)
    have y53 : I u53 = J u53 := fr.2.2.2 v0 12 53 u53 k0 h53 (by rw [k53.2]; rfl) rfl (by decide)
    have y52 : I v0 52 = J v0 52 := fr.2.2.1 v0 12 52 k0 (by decide) (by decide)
    unfold f_X12_sells_L85
    intro b1 eb1
    cases h54.symm.trans eb1
    refine ⟨fun c => ?_, fun c => ?_⟩
    · have c := (i_le (show (192 : Int32).toInt = 192 from rfl) e7).mp c
      refine s15_X12_rememberParts w v0 k0 u53 h53 u54 h54 (fun I5 L5 w5 f5 g1 g2 => ?_)
      have q5 : FR [(12, 5), (12, 52), (12, 53), (12, 54)] Z J Z I5 := (fr.mono (by decide)).trans wJ.1 wJ.2.1 (f5.mono (by decide))
      have x5 : I5 u5 = J u5 := (f5.2.2.2 v0 12 5 u5 k0 h5 (by rw [k5.2]; rfl) rfl (by decide)).trans y5
      intro b9 e9
      cases h5.symm.trans e9
      refine ⟨vi_of a2 (by omega) (by omega), vi_of a2 (by omega) (by omega), ?_⟩
      intro I12 e12
      have w12 : WD Z I12 := by rw [e12]; exact WD_putA w5 12 5 k0 h5 k5 rfl rfl (by decide) trivial
      have f12 : FR [(12, 5)] Z I5 Z I12 := by rw [e12]; exact FR_upA w5.2.1 k0 h5 k5 rfl rfl List.mem_cons_self
      have x12 : I12 u5 = upd (J u5) (8 * s + f) (J u5 (8 * s + f) - v6) := by rw [e12, n2]; exact (va_up_self _ _ _).trans (by rw [x5])
      intro b13 e13
      cases h5.symm.trans e13
      refine ⟨vi_of a3 (by omega) (by omega), vi_of a3 (by omega) (by omega), ?_⟩
      intro I16 e16
      have w16 : WD Z I16 := by rw [e16]; exact WD_putA w12 12 5 k0 h5 k5 rfl rfl (by decide) trivial
      have f16 : FR [(12, 5)] Z I12 Z I16 := by rw [e16]; exact FR_upA w12.2.1 k0 h5 k5 rfl rfl List.mem_cons_self
      have x16 : I16 u5 = mvP (J u5) (8 * s + f) (8 * s + t) v6 := by
        rw [e16, n3]
        refine (va_up_self _ _ _).trans ?_
        rw [x12]
        rfl
      have z53 : I16 u53 = I5 u53 := (f16.2.2.2 v0 12 53 u53 k0 h53 (by rw [k53.2]; rfl) rfl (by decide)).trans (f12.2.2.2 v0 12 53 u53 k0 h53 (by rw [k53.2]; rfl) rfl (by decide))
      refine hQ I16 L5 w16 ((q5.trans wJ.1 wJ.2.1 (f12.mono (by decide))).trans wJ.1 wJ.2.1 (f16.mono (by decide))) x16 ?_ (fun k q hk hq => ?_)
      · rw [f16.2.2.1 v0 12 52 k0 (by decide) (by decide), f12.2.2.1 v0 12 52 k0 (by decide) (by decide), g1, y52]
      · have g := g2 k q (by rw [y52]; exact hk) hq
        unfold HM reH at g ⊢
        rw [z53, g, y52, y53]
        split
        · exact h1 q (by omega)
        · rfl
    have c := (not_congr (i_le (show (192 : Int32).toInt = 192 from rfl) e7)).mp c
    have q7 := i_nat e7 (by omega)
    have q7 : v7.toNatClampNeg = p := by omega
    intro b17 e17
    cases h54.symm.trans e17
    intro b18 e18
    cases h5.symm.trans e18
    refine ⟨vi_of e7 (by omega) (by omega), vi_of e7 (by omega) (by omega), ?_⟩
    intro I21 e21 x22 e22
    rw [q7, y5] at e21
    refine ih (p + 1) x22 I21 L ?_ ?_ ?_ (by omega) (fun q hq => ?_) (by omega)
    · rw [e21]; exact WD_putA w 12 54 k0 h54 k54 rfl rfl (by decide) trivial
    · refine fr.trans wJ.1 wJ.2.1 ?_
      rw [e21]; exact FR_upA w.2.1 k0 h54 k54 rfl rfl List.mem_cons_self
    · rw [e22]; exact (i_add e7 z1 (by omega) (by omega)).trans (by omega)
    · by_cases hqp : q = p
      · rw [hqp, e21, jpI_at]
      · rw [e21, jpI_off hqp]; exact h1 q (by omega)
theorem s15_X12_sells {Z : jZ} {I : jI} {L : jL} (w : WD Z I) (v0 : Nat) (v1 v2 v3 v4 v5 : Int32) (kv0 : jk Z v0 12) (u5 u53 u54 : Nat) (pm : PMs Z v0 u5 u53 u54) {Q : Int32 → jI → jL → Prop} (hQ : ∀ (r : Int32) (I' : jI) (L' : jL), WD Z I' → FR Ws_X12_sells Z I Z I' → SELr (I v0 0).toInt (I u5) (I' u5) (I v0 52).toInt.toNat (I' v0 52).toInt.toNat (HM I u53) (HM I' u53) v1 v2 v3 v4 v5 r → Q r I' L') : f_X12_sells v0 v1 v2 v3 v4 v5 Z I L Q := by
  have pm' := pm
  obtain ⟨h5, k5, h53, k53, h54, k54⟩ := pm
  have t0 : 0 ≤ (I v0 0).toInt ∧ (I v0 0).toInt ≤ 24 := w.fld 12 0 kv0 (by decide)
  have z1 : (1 : Int32).toInt = 1 := rfl
  have z9 : (9 : Int32).toInt = 9 := rfl
  unfold f_X12_sells
  intro I1 e1
  have w1 : WD Z I1 := by rw [e1]; exact WD_putF w 12 22 kv0 (by decide) (by decide) trivial
  have f1 : FR Ws_X12_sells Z I Z I1 := by rw [e1]; exact FR_putF kv0 (by decide) (by decide)
  have s0 : I1 v0 0 = I v0 0 := by rw [e1]; exact jpI_o (by decide)
  have s52 : I1 v0 52 = I v0 52 := by rw [e1]; exact jpI_o (by decide)
  have o5 : I1 u5 = I u5 := by rw [e1]; exact jpI_ne (ks_ne k5 kv0 (by decide))
  have o53 : I1 u53 = I u53 := by rw [e1]; exact jpI_ne (ks_ne k53 kv0 (by decide))
  have same : ∀ k q, HM I1 u53 k q = HM I u53 k q := fun k q => by unfold HM; rw [o53]
  have bad : ¬ SELc (I v0 0).toInt v1 v2 v3 v4 v5 → Q (-1 : Int32) I1 L := fun h => hQ _ I1 L w1 f1 (Or.inr ⟨fun g => h g.1, rfl, o5, by rw [s52], fun k q _ _ => same k q⟩)
  refine s_X12_isStep w1 v0 v1 kv0 (fun r p => ?_)
  rw [s0] at p
  refine ⟨fun c => bad (fun g => by have c := yz c; have := g.1; omega), fun c => ?_⟩
  have c := nz c
  refine s_X12_isFamily w1 v2 (fun r2 p2 => ⟨fun c => bad (fun g => by have c := yz c; have := g.2.1; omega), fun c2 => ?_⟩)
  have c2 := nz c2
  refine s_X12_isFamily w1 v3 (fun r3 p3 => ⟨fun c => bad (fun g => by have c := yz c; have := g.2.2.1; omega), fun c3 => ?_⟩)
  have c3 := nz c3
  refine ⟨fun c4 => bad (fun g => g.2.2.2.1 (by rw [c4])), fun c4 => ?_⟩
  have c4 := (not_congr (i_eq (x := v2) (y := v3) rfl rfl)).mp c4
  refine s_X12_in w1 _ _ _ (fun r5 p5 => ⟨fun c => bad (fun g => by have c := yz c; have := g.2.2.2.2; omega), fun c5 => ?_⟩)
  have c5 := nz c5
  refine s_X12_in w1 _ _ _ (fun r6 p6 => ⟨fun c6 => ?_, fun c6 => bad (fun g => by have c6 := yz c6; have := g.2.2.2.2; omega)⟩)
  have c6 := nz c6
  have n1 := i_nat (x := v1) rfl (by omega)
  have n2 := i_nat (x := v2) rfl (by omega)
  have n3 := i_nat (x := v3) rfl (by omega)
  have hC : SELc (I v0 0).toInt v1 v2 v3 v4 v5 := ⟨by omega, by omega, by omega, c4, by omega, by omega, by omega⟩
  have ti : (((8 : Int32) * v1) + v2).toInt = 8 * v1.toInt + v2.toInt := i_add (i_mul (show (8 : Int32).toInt = 8 from rfl) rfl (by omega) (by omega)) rfl (by omega) (by omega)
  have ni := i_nat ti (by omega)
  have ni : (((8 : Int32) * v1) + v2).toNatClampNeg = 8 * v1.toNatClampNeg + v2.toNatClampNeg := by omega
  intro b65 e65
  cases h5.symm.trans e65
  refine ⟨vi_of ti (by omega) (by omega), fun e => by have := congrArg Int32.toInt e; rw [show (0 : Int32).toInt = 0 from rfl] at this; omega, ?_⟩
  intro x68 e68
  rw [ni, o5] at e68
  refine ⟨fun c8 => ?_, fun c8 => hQ _ I1 L w1 f1 (Or.inr ⟨fun g => g.2 (by rw [← e68]; exact c8), rfl, o5, by rw [s52], fun k q _ _ => same k q⟩)⟩
  refine ⟨193, se_L85 w1 v0 kv0 u5 u53 u54 pm' v1 v2 v3 x68 v1.toNatClampNeg v2.toNatClampNeg v3.toNatClampNeg (by omega) (by omega) (by omega) (by omega) (by omega) (by omega) (fun I' L' w' f' g1 g2 g3 => ?_) 193 0 0 I1 L w1 FR.rf rfl (by omega) (fun q hq => absurd hq (by omega)) (by omega)⟩
  rw [o5] at g1
  rw [s52] at g2
  refine hQ x68 I' L' w' (f1.trans w.1 w.2.1 (f'.mono (by decide))) (Or.inl ⟨hC, e68, c8, g1, by rw [g2]; exact Int.toNat_natCast _, fun k q hk hq => ?_⟩)
  rw [g2, Int.toNat_natCast] at hk
  have g := g3 k q (by rw [s52]; exact hk) hq
  rw [g, s52]
  unfold reH
  rw [o5]
  split
  · rfl
  · split
    · exact same _ _
    · exact same _ _
theorem un_L26 {Z : jZ} {J : jI} (wJ : WD Z J) (v0 : Nat) (k0 : jk Z v0 12) (u5 u53 u54 : Nat) (pm : PMs Z v0 u5 u53 u54) (m : Nat) (em : (J v0 52).toInt = (m : Int)) (hm : m ≤ 7) {Q : Int32 → jI → jL → Prop}
    (hQ : ∀ (I : jI) (L : jL), WD Z I → FR [(12, 5)] Z J Z I → (∀ q, q < 192 → I u5 q = J u53 (192 * m + q)) → Q (I v0 52) I L) :
    ∀ (n p : Nat) (v1 : Int32) (I : jI) (L : jL), WD Z I → FR [(12, 5)] Z J Z I → v1.toInt = (p : Int) → p ≤ 192 → (∀ q, q < p → I u5 q = J u53 (192 * m + q)) → 193 ≤ n + p → f_X12_undo_L26 Z Q n v0 v1 I L := by
  obtain ⟨h5, k5, h53, k53, h54, k54⟩ := pm
  have z1 : (1 : Int32).toInt = 1 := rfl
  intro n
  induction n with
  | zero => intro p v1 I L w fr e1 hp h1 hn; exfalso; omega
  | succ n ih =>
    intro p v1 I L w fr e1 hp h1 hn
    have y53 : I u53 = J u53 := fr.2.2.2 v0 12 53 u53 k0 h53 (by rw [k53.2]; rfl) rfl (by decide)
    have y52 : (I v0 52).toInt = (m : Int) := by rw [fr.2.2.1 v0 12 52 k0 (by decide) (by decide)]; exact em
    unfold f_X12_undo_L26
    refine ⟨fun c => ?_, fun c => ?_⟩
    · have c := (i_le (show (192 : Int32).toInt = 192 from rfl) e1).mp c
      exact hQ I L w fr (fun q hq => h1 q (by omega))
    have c := (not_congr (i_le (show (192 : Int32).toInt = 192 from rfl) e1)).mp c
    have q1 := i_nat e1 (by omega)
    have q1 : v1.toNatClampNeg = p := by omega
    have ti : (((192 : Int32) * (I v0 52)) + v1).toInt = 192 * (m : Int) + (p : Int) := i_add (i_mul (show (192 : Int32).toInt = 192 from rfl) y52 (by omega) (by omega)) e1 (by omega) (by omega)
    have ni := i_nat ti (by omega)
    have ni : (((192 : Int32) * (I v0 52)) + v1).toNatClampNeg = 192 * m + p := by omega
    intro b2 e2
    cases h5.symm.trans e2
    intro b3 e3
    cases h53.symm.trans e3
    refine ⟨vi_of ti (by omega) (by omega), vi_of e1 (by omega) (by omega), ?_⟩
    intro I6 e6 x7 e7
    rw [q1, ni, y53] at e6
    refine ih (p + 1) x7 I6 L ?_ ?_ ?_ (by omega) (fun q hq => ?_) (by omega)
    · rw [e6]; exact WD_putA w 12 5 k0 h5 k5 rfl rfl (by decide) trivial
    · refine fr.trans wJ.1 wJ.2.1 ?_
      rw [e6]; exact FR_upA w.2.1 k0 h5 k5 rfl rfl List.mem_cons_self
    · rw [e7]; exact (i_add e1 z1 (by omega) (by omega)).trans (by omega)
    · by_cases hqp : q = p
      · rw [hqp, e6, jpI_at]
      · rw [e6, jpI_off hqp]; exact h1 q (by omega)
theorem s15_X12_undo {Z : jZ} {I : jI} {L : jL} (w : WD Z I) (v0 : Nat) (kv0 : jk Z v0 12) (u5 u53 u54 : Nat) (pm : PMs Z v0 u5 u53 u54) {Q : Int32 → jI → jL → Prop} (hQ : ∀ (r : Int32) (I' : jI) (L' : jL), WD Z I' → FR Ws_X12_undo Z I Z I' → UNDr (I u5) (I' u5) (I v0 52).toInt.toNat (I' v0 52).toInt.toNat (HM I u53) (HM I' u53) r → Q r I' L') : f_X12_undo v0 Z I L Q := by
  have pm' := pm
  obtain ⟨h5, k5, h53, k53, h54, k54⟩ := pm
  have z1 : (1 : Int32).toInt = 1 := rfl
  have t52 : 0 ≤ (I v0 52).toInt ∧ (I v0 52).toInt ≤ 8 := w.fld 12 52 kv0 (by decide)
  unfold f_X12_undo
  intro I8 e8
  have w8 : WD Z I8 := by rw [e8]; exact WD_putF w 12 22 kv0 (by decide) (by decide) trivial
  have f8 : FR Ws_X12_undo Z I Z I8 := by rw [e8]; exact FR_putF kv0 (by decide) (by decide)
  have s52 : I8 v0 52 = I v0 52 := by rw [e8]; exact jpI_o (by decide)
  have o5 : I8 u5 = I u5 := by rw [e8]; exact jpI_ne (ks_ne k5 kv0 (by decide))
  have o53 : I8 u53 = I u53 := by rw [e8]; exact jpI_ne (ks_ne k53 kv0 (by decide))
  refine ⟨fun c => ?_, fun c => ?_⟩
  · rw [s52] at c
    have c := nz c
    intro I10 e10
    have t10 : ((I8 v0 52) - (1 : Int32)).toInt = (I v0 52).toInt - 1 := by rw [s52]; exact i_sub rfl z1 (by omega) (by omega)
    have w10 : WD Z I10 := by rw [e10]; exact WD_putF w8 12 52 kv0 (by decide) (by decide) (show rg 0 8 _ from ⟨by rw [t10]; omega, by rw [t10]; omega⟩)
    have f10 : FR Ws_X12_undo Z I Z I10 := f8.trans w.1 w.2.1 (by rw [e10]; exact FR_putF kv0 (by decide) (by decide))
    have y52 : (I10 v0 52).toInt = (((I v0 52).toInt.toNat - 1 : Nat) : Int) := by rw [e10, jpI_at, t10]; omega
    have y53 : I10 u53 = I u53 := by rw [e10, jpI_ne (ks_ne k53 kv0 (by decide)), o53]
    refine ⟨193, un_L26 w10 v0 kv0 u5 u53 u54 pm' _ y52 (by omega) (fun I' L' w' f' g1 => ?_) 193 0 0 I10 L w10 FR.rf rfl (by omega) (fun q hq => absurd hq (by omega)) (by omega)⟩
    have z52 : (I' v0 52).toInt = (((I v0 52).toInt.toNat - 1 : Nat) : Int) := by rw [f'.2.2.1 v0 12 52 kv0 (by decide) (by decide)]; exact y52
    refine hQ _ I' L' w' (f10.trans w.1 w.2.1 (f'.mono (by decide))) (Or.inr ⟨by omega, by omega, by omega, fun q hq => by rw [g1 q hq, y53]; rfl, fun k q _ _ => ?_⟩)
    unfold HM
    rw [f'.2.2.2 v0 12 53 u53 kv0 h53 (by rw [k53.2]; rfl) rfl (by decide), y53]
  · rw [s52] at c
    have c := yz c
    exact hQ _ I8 L w8 f8 (Or.inl ⟨by omega, rfl, o5, by rw [s52], fun k q _ _ => by unfold HM; rw [o53]⟩)
end
section
/-! ===== a death, as the reference does it ===== -/
def inhM (v : Int32) (B : Nat) (q : Int32) (rem : Int) (P : Nat → Int32) : Nat → Nat → Int32
  | 0 => P
  | k + 1 => if hbt v k = true then upd (inhM v B q rem P k) (B + k) (inhM v B q rem P k (B + k) + (q + od1 v rem k)) else inhM v B q rem P k
def diM (v : Int32) (f : Nat) (P : Nat → Int32) : Nat → Nat → Int32
  | 0 => P
  | s + 1 => inhM v (8 * s) (diM v f P s (8 * s + f) / bcV v) ((diM v f P s (8 * s + f)).toInt % (bcV v).toInt) (upd (diM v f P s) (8 * s + f) 0) 8
theorem x12_has {Z : jZ} {I : jI} {L : jL} {v0 v1 : Int32} {k : Nat} (e : v1 = Int32.ofNat k) {Q : Int32 → jI → jL → Prop} (h1 : hbt v0 k = true → Q 1 I L) (h2 : hbt v0 k = false → Q 0 I L) : f_X12_has v0 v1 Z I L Q := by
  unfold f_X12_has
  subst e
  refine ⟨fun c => h2 (hbt_no ?_), fun c => h1 (hbt_yes (fun e => ?_))⟩
  · rcases and1 (v0 >>> (Int32.ofNat k &&& 31)) with h | h
    · exact h
    · exact absurd h c
  · rw [e] at c
    exact absurd c (by decide)
theorem dm_L115 {Z : jZ} {J : jI} (wJ : WD Z J) (v0 : Nat) (k0 : jk Z v0 12) (u5 : Nat) (h5 : jr Z v0 5 = some u5) (k5 : jk Z u5 14) (l5 : jlen Z u5 = 192) (v1 v2 v3 v4 v5 v6 : Int32) (s : Nat) (e5 : v5.toInt = (s : Int)) (hs : s < 24) (h3 : 0 < v3.toInt ∧ v3.toInt ≤ 63) (h4 : 0 ≤ v4.toInt ∧ v4.toInt ≤ 100000) (h6 : 0 ≤ v6.toInt ∧ v6.toInt ≤ 720) {K : Nat → Int32 → Int32 → Int32 → Int32 → Int32 → jI → jL → Prop} {Q : Int32 → jI → jL → Prop}
    (hK : ∀ (I : jI) (L : jL) (x6 x7 : Int32), WD Z I → FR [(12, 5)] Z J Z I → I u5 = inhM v2 (8 * s) (v6 / v3) (v6.toInt % v3.toInt) (J u5) 8 → x6.toInt = v4.toInt + v6.toInt → x7.toInt = ((s + 1 : Nat) : Int) → K v0 v1 v2 v3 x6 x7 I L) :
    ∀ (n k : Nat) (v7 v8 : Int32) (I : jI) (L : jL), WD Z I → FR [(12, 5)] Z J Z I → v8.toInt = (k : Int) → k ≤ 8 → v7.toInt = (cnt v2 k : Int) → I u5 = inhM v2 (8 * s) (v6 / v3) (v6.toInt % v3.toInt) (J u5) k → 9 ≤ n + k → f_X12_dies_L115 K Z Q n v0 v1 v2 v3 v4 v5 v6 v7 v8 I L := by
  have z1 : (1 : Int32).toInt = 1 := rfl
  have hn3 : ¬ v3 = 0 := fun e => by have := congrArg Int32.toInt e; rw [show (0 : Int32).toInt = 0 from rfl] at this; omega
  have hr : (v6 - v6 / v3 * v3).toInt = v6.toInt % v3.toInt := i_rem rfl rfl h6.1 h3.1
  intro n
  induction n with
  | zero => intro k v7 v8 I L w fr e8 hk e7 ex hn; exfalso; omega
  | succ n ih =>
    intro k v7 v8 I L w fr e8 hk e7 ex hn
    have hc := cnt_le v2 k
    unfold f_X12_dies_L115
    refine ⟨fun c => ?_, fun c => ?_⟩
    · have c := (i_le (show (8 : Int32).toInt = 8 from rfl) e8).mp c
      have ek : k = 8 := by omega
      subst ek
      intro x6 e6 x7 e7'
      refine hK I L x6 x7 w fr ex ?_ ?_
      · rw [e6]; exact i_add rfl rfl (by omega) (by omega)
      · rw [e7']; exact (i_add e5 z1 (by omega) (by omega)).trans (by omega)
    have c := (not_congr (i_le (show (8 : Int32).toInt = 8 from rfl) e8)).mp c
    have s8 : v8 = Int32.ofNat k := (i_eq e8 (i_nI (n := k) (by omega))).mpr rfl
    have nx : ∀ x : Int32, x = v8 + 1 → x.toInt = ((k + 1 : Nat) : Int) := fun x e => by rw [e]; exact (i_add e8 z1 (by omega) (by omega)).trans (by omega)
    have ti : (((8 : Int32) * v5) + v8).toInt = 8 * (s : Int) + (k : Int) := i_add (i_mul (show (8 : Int32).toInt = 8 from rfl) e5 (by omega) (by omega)) e8 (by omega) (by omega)
    have ni := i_nat ti (by omega)
    have ni : (((8 : Int32) * v5) + v8).toNatClampNeg = 8 * s + k := by omega
    refine x12_has s8 (fun hb => ⟨fun _ => ?_, fun c => absurd c (by decide)⟩) (fun hb => ⟨fun c => absurd rfl c, fun _ => ?_⟩)
    · intro b16 e16
      cases h5.symm.trans e16
      refine ⟨vi_of ti (by omega) (by omega), hn3, hn3, ?_⟩
      have go : ∀ s4 : Int32, s4 = od1 v2 (v6.toInt % v3.toInt) k → f_X12_dies_b166 K (f_X12_dies_L115 K Z Q n) Z Q v0 v1 v2 v3 v4 v5 v6 v7 v8 u5 (((8 : Int32) * v5) + v8) (I u5 (((8 : Int32) * v5) + v8).toNatClampNeg) (v6 / v3) s4 I L := fun s4 hs4 => by
        unfold f_X12_dies_b166
        refine ⟨by rw [l5]; exact vi_of ti (by omega) (by omega), ?_⟩
        intro I3 e3 x4 e4
        rw [ni] at e3
        unfold f_X12_dies_b172
        intro x1 ex1
        refine ih (k + 1) x4 x1 I3 L ?_ ?_ (nx x1 ex1) (by omega) ?_ ?_ (by omega)
        · rw [e3]; exact WD_putA w 12 5 k0 h5 k5 rfl rfl (by decide) trivial
        · refine fr.trans wJ.1 wJ.2.1 ?_
          rw [e3]; exact FR_upA w.2.1 k0 h5 k5 rfl rfl List.mem_cons_self
        · rw [e4]
          show _ = ((cnt v2 k + (if hbt v2 k = true then 1 else 0) : Nat) : Int)
          rw [hb, if_pos rfl]
          exact (i_add e7 z1 (by omega) (by omega)).trans (by omega)
        · rw [e3, hs4]
          refine (va_up_self _ _ _).trans ?_
          show _ = (if hbt v2 k = true then _ else _)
          rw [hb, if_pos rfl, ex]
      refine ⟨fun c2 => go 0 ?_, fun c2 => go 1 ?_⟩
      · have c2 := (i_le hr e7).mp c2
        unfold od1
        rw [if_neg (by omega)]
      · have c2 := (not_congr (i_le hr e7)).mp c2
        unfold od1
        rw [if_pos (by omega)]
    · unfold f_X12_dies_b172
      intro x1 ex1
      refine ih (k + 1) v7 x1 I L w fr (nx x1 ex1) (by omega) ?_ ?_ (by omega)
      · rw [e7]
        show _ = ((cnt v2 k + (if hbt v2 k = true then 1 else 0) : Nat) : Int)
        rw [hb, if_neg (by decide)]
        omega
      · rw [ex]
        show _ = (if hbt v2 k = true then _ else _)
        rw [hb, if_neg (by decide)]
/-- both ways come to the same -/
def tk (v : Int32) (Q rem : Int) : Nat → Int
  | 0 => 0
  | k + 1 => tk v Q rem k + (if hbt v k = true then Q + (if (cnt v k : Int) < rem then 1 else 0) else 0)
theorem tk_eq (v : Int32) (Q rem : Int) (hr : 0 ≤ rem) : ∀ k, tk v Q rem k = (cnt v k : Int) * Q + min (cnt v k : Int) rem := by
  intro k
  induction k with
  | zero =>
    show (0 : Int) = ((0 : Nat) : Int) * Q + min ((0 : Nat) : Int) rem
    rw [show ((0 : Nat) : Int) = 0 from rfl, Int.zero_mul]
    omega
  | succ k ih =>
    show tk v Q rem k + (if hbt v k = true then Q + (if (cnt v k : Int) < rem then 1 else 0) else 0) = ((cnt v k + (if hbt v k = true then 1 else 0) : Nat) : Int) * Q + min ((cnt v k + (if hbt v k = true then 1 else 0) : Nat) : Int) rem
    rw [ih]
    by_cases c : hbt v k = true
    · rw [if_pos c, if_pos c, show ((cnt v k + 1 : Nat) : Int) = (cnt v k : Int) + 1 from rfl, Int.add_mul, Int.one_mul]
      generalize (cnt v k : Int) * Q = T
      split <;> omega
    · rw [if_neg c, if_neg c]
      show _ + 0 = ((cnt v k : Nat) : Int) * Q + min ((cnt v k : Nat) : Int) rem
      omega
theorem tk_le (v : Int32) (Q rem : Int) (h0 : 0 ≤ Q) : ∀ k, 0 ≤ tk v Q rem k ∧ tk v Q rem k ≤ tk v Q rem (k + 1) := by
  intro k
  have st : ∀ j, tk v Q rem j ≤ tk v Q rem (j + 1) := fun j => by
    show _ ≤ tk v Q rem j + (if hbt v j = true then Q + (if (cnt v j : Int) < rem then 1 else 0) else 0)
    split
    · split <;> omega
    · omega
  refine ⟨?_, st k⟩
  induction k with
  | zero => exact Int.le_refl 0
  | succ k ih => exact Int.le_trans ih (st k)
theorem tk_mono (v : Int32) (Q rem : Int) (h0 : 0 ≤ Q) : ∀ k n, tk v Q rem k ≤ tk v Q rem (k + n) := by
  intro k n
  induction n with
  | zero => exact Int.le_refl _
  | succ n ih => exact Int.le_trans ih (tk_le v Q rem h0 (k + n)).2
theorem inh_eq {v : Int32} {B f : Nat} {P : Nat → Int32} (hf : f < 8) (hv : 1 ≤ v.toInt ∧ v.toInt ≤ 255) (hb : hbt v f = false) (ho : 0 ≤ (P (B + f)).toInt ∧ (P (B + f)).toInt ≤ 720) : inhC v B f (P (B + f) / bcV v) ((P (B + f)).toInt % (bcV v).toInt) P 8 = inhM v B (P (B + f) / bcV v) ((P (B + f)).toInt % (bcV v).toInt) (upd P (B + f) 0) 8 := by
  have bc := bc_rg hv.1 hv.2
  have hq : (P (B + f) / bcV v).toInt = (P (B + f)).toInt / (bcV v).toInt := i_div rfl rfl ho.1 bc.1
  have m0 := Int.emod_nonneg (P (B + f)).toInt (show (bcV v).toInt ≠ 0 by omega)
  have m1 := Int.emod_lt_of_pos (P (B + f)).toInt bc.1
  have q0 : 0 ≤ (P (B + f)).toInt / (bcV v).toInt := Int.ediv_nonneg ho.1 (by omega)
  have hdm := Int.mul_ediv_add_emod (P (B + f)).toInt (bcV v).toInt
  generalize hQ : (P (B + f)).toInt / (bcV v).toInt = QQ at hq q0 hdm
  generalize hR : (P (B + f)).toInt % (bcV v).toInt = RR at m0 m1 hdm
  generalize hq' : P (B + f) / bcV v = qq at hq
  have total : tk v QQ RR 8 = (P (B + f)).toInt := by
    rw [tk_eq v QQ RR m0 8, ← bc_cnt hv.1 hv.2]
    generalize hT : (bcV v).toInt * QQ = T at hdm
    omega
  have key : ∀ k, k ≤ 8 → (∀ z, z ≠ B + f → inhC v B f qq RR P k z = inhM v B qq RR (upd P (B + f) 0) k z) ∧ inhM v B qq RR (upd P (B + f) 0) k (B + f) = 0 ∧ (inhC v B f qq RR P k (B + f)).toInt = (P (B + f)).toInt - tk v QQ RR k := by
    intro k
    induction k with
    | zero =>
      intro _
      refine ⟨fun z hz => (if_neg hz : upd P (B + f) 0 z = P z).symm, (if_pos rfl : upd P (B + f) 0 (B + f) = 0), ?_⟩
      show (P (B + f)).toInt = (P (B + f)).toInt - 0
      omega
    | succ k ih =>
      intro hk
      obtain ⟨i1, i2, i3⟩ := ih (by omega)
      have tm := tk_mono v QQ RR q0 (k + 1) (8 - (k + 1))
      rw [show k + 1 + (8 - (k + 1)) = 8 by omega, total] at tm
      have t0 := (tk_le v QQ RR q0 k).1
      by_cases c : hbt v k = true
      · have hkf : B + k ≠ B + f := fun e => by
          have : k = f := by omega
          rw [this, hb] at c
          exact absurd c (by decide)
        have c1 : inhC v B f qq RR P (k + 1) = mvP (inhC v B f qq RR P k) (B + f) (B + k) (qq + od1 v RR k) := by show (if _ then _ else _) = _; rw [if_pos c]
        have c2 : inhM v B qq RR (upd P (B + f) 0) (k + 1) = upd (inhM v B qq RR (upd P (B + f) 0) k) (B + k) (inhM v B qq RR (upd P (B + f) 0) k (B + k) + (qq + od1 v RR k)) := by show (if _ then _ else _) = _; rw [if_pos c]
        have tS : tk v QQ RR (k + 1) = tk v QQ RR k + (QQ + (if (cnt v k : Int) < RR then 1 else 0)) := by show _ + (if _ then _ else _) = _; rw [if_pos c]
        have ox : (od1 v RR k).toInt = (if (cnt v k : Int) < RR then 1 else 0) := by unfold od1; split <;> rfl
        have hx : (qq + od1 v RR k).toInt = QQ + (if (cnt v k : Int) < RR then 1 else 0) := i_add hq ox (by split <;> omega) (by split <;> omega)
        rw [c1, c2]
        refine ⟨fun z hz => ?_, ?_, ?_⟩
        · by_cases hzk : z = B + k
          · rw [hzk]
            unfold mvP
            refine (if_pos rfl : upd _ (B + k) _ (B + k) = _).trans ?_
            refine Eq.trans ?_ (if_pos rfl : upd (inhM v B qq RR (upd P (B + f) 0) k) (B + k) _ (B + k) = _).symm
            rw [show upd (inhC v B f qq RR P k) (B + f) (inhC v B f qq RR P k (B + f) - (qq + od1 v RR k)) (B + k) = inhC v B f qq RR P k (B + k) from if_neg hkf, i1 (B + k) hkf]
          · unfold mvP
            refine (if_neg hzk : upd _ (B + k) _ z = _).trans ?_
            refine (if_neg hz : upd _ (B + f) _ z = _).trans ?_
            exact (i1 z hz).trans (if_neg hzk : upd (inhM v B qq RR (upd P (B + f) 0) k) (B + k) _ z = _).symm
        · exact (if_neg (fun e => hkf e.symm) : upd (inhM v B qq RR (upd P (B + f) 0) k) (B + k) _ (B + f) = _).trans i2
        · unfold mvP
          rw [show upd (upd (inhC v B f qq RR P k) (B + f) (inhC v B f qq RR P k (B + f) - (qq + od1 v RR k))) (B + k) (upd (inhC v B f qq RR P k) (B + f) (inhC v B f qq RR P k (B + f) - (qq + od1 v RR k)) (B + k) + (qq + od1 v RR k)) (B + f) = inhC v B f qq RR P k (B + f) - (qq + od1 v RR k) from (if_neg (fun e => hkf e.symm)).trans (if_pos rfl)]
          rw [i_sub i3 hx (by omega) (by omega)]
          omega
      · have c1 : inhC v B f qq RR P (k + 1) = inhC v B f qq RR P k := by show (if _ then _ else _) = _; rw [if_neg c]
        have c2 : inhM v B qq RR (upd P (B + f) 0) (k + 1) = inhM v B qq RR (upd P (B + f) 0) k := by show (if _ then _ else _) = _; rw [if_neg c]
        have tS : tk v QQ RR (k + 1) = tk v QQ RR k := by show _ + (if _ then _ else _) = _; rw [if_neg c]; omega
        rw [c1, c2, tS]
        exact ⟨i1, i2, i3⟩
  obtain ⟨i1, i2, i3⟩ := key 8 (Nat.le_refl 8)
  funext z
  by_cases hz : z = B + f
  · rw [hz, i2]
    refine (i_eq rfl (show (0 : Int32).toInt = 0 from rfl)).mpr ?_
    rw [i3, total]
    omega
  · exact i1 z hz
theorem di_eq {v : Int32} {f : Nat} {P : Nat → Int32} (hf : f < 8) (hv : 1 ≤ v.toInt ∧ v.toInt ≤ 255) (hb : hbt v f = false) : ∀ n, (∀ s, s < n → 0 ≤ (P (8 * s + f)).toInt ∧ (P (8 * s + f)).toInt ≤ 720) → diC v f P n = diM v f P n := by
  intro n
  induction n with
  | zero => intro _; rfl
  | succ n ih =>
    intro h
    have e := ih (fun s hs => h s (by omega))
    have eo : diC v f P n (8 * n + f) = P (8 * n + f) := diC_off hf n _ (by omega)
    show inhC v (8 * n) f (diC v f P n (8 * n + f) / bcV v) ((diC v f P n (8 * n + f)).toInt % (bcV v).toInt) (diC v f P n) 8 = inhM v (8 * n) (diM v f P n (8 * n + f) / bcV v) ((diM v f P n (8 * n + f)).toInt % (bcV v).toInt) (upd (diM v f P n) (8 * n + f) 0) 8
    rw [← e]
    exact inh_eq hf hv hb (by rw [eo]; exact h n (by omega))
/-- dies of the reference -/
def DIMr (n : Nat) (P P' : Nat → Int32) (m m' : Nat) (H H' : Nat → Nat → Int32) (v1 v2 r : Int32) : Prop :=
  (¬ DIEc v1 v2 ∧ r.toInt = -1 ∧ P' = P ∧ m' = m ∧ ∀ k q, k < m' → q < 192 → H' k q = H k q) ∨
  (DIEc v1 v2 ∧ r.toInt = shS (fun s => (P (8 * s + v1.toNatClampNeg)).toInt) n ∧ P' = diM v2 v1.toNatClampNeg P n ∧ ((r.toInt ≤ 0 ∧ m' = m ∧ ∀ k q, k < m' → q < 192 → H' k q = H k q) ∨ (0 < r.toInt ∧ m' = reM m ∧ ∀ k q, k < m' → q < 192 → H' k q = reH m H P k q)))
theorem inhM_off {v : Int32} {B : Nat} {q : Int32} {rem : Int} {P : Nat → Int32} {z : Nat} (hz : z < B ∨ B + 8 ≤ z) : ∀ k, k ≤ 8 → inhM v B q rem P k z = P z := by
  intro k
  induction k with
  | zero => intro _; rfl
  | succ k ih =>
    intro hk
    show (if hbt v k = true then upd (inhM v B q rem P k) (B + k) _ else inhM v B q rem P k) z = P z
    split
    · exact (if_neg (by omega) : upd _ (B + k) _ z = _).trans (ih (by omega))
    · exact ih (by omega)
theorem diM_off {v : Int32} {f : Nat} {P : Nat → Int32} (hf : f < 8) : ∀ (s z : Nat), 8 * s ≤ z → diM v f P s z = P z := by
  intro s
  induction s with
  | zero => intro z _; rfl
  | succ s ih =>
    intro z hz
    show inhM v (8 * s) _ _ (upd (diM v f P s) (8 * s + f) 0) 8 z = P z
    rw [inhM_off (by omega) 8 (Nat.le_refl 8)]
    exact (if_neg (by omega) : upd _ (8 * s + f) _ z = _).trans (ih z (by omega))
theorem shS_bd {g : Nat → Int} {n : Nat} (h : ∀ i, i < n → 0 ≤ g i ∧ g i ≤ 720) : ∀ i, i ≤ n → 0 ≤ shS g i ∧ shS g i ≤ 720 * (i : Int) := by
  intro i
  induction i with
  | zero => intro _; exact ⟨by show (0 : Int) ≤ 0; omega, by show (0 : Int) ≤ 720 * 0; omega⟩
  | succ i ih =>
    intro hi
    have h1 := ih (by omega)
    have h2 := h i (by omega)
    show 0 ≤ shS g i + g i ∧ shS g i + g i ≤ 720 * ((i + 1 : Nat) : Int)
    omega
theorem dm_L73 {Z : jZ} {J : jI} (wJ : WD Z J) (v0 : Nat) (k0 : jk Z v0 12) (u5 u53 u54 : Nat) (pm : PMs Z v0 u5 u53 u54) (v1 v2 : Int32) (f n : Nat) (en : (J v0 0).toInt = (n : Int)) (hn : n ≤ 24) (e1 : v1.toInt = (f : Int)) (hf : f < 8) (h2 : 1 ≤ v2.toInt ∧ v2.toInt ≤ 255) (ho : ∀ s, s < n → 0 ≤ (J u5 (8 * s + f)).toInt ∧ (J u5 (8 * s + f)).toInt ≤ 720) {Q : Int32 → jI → jL → Prop}
    (hQ : ∀ (r : Int32) (I : jI) (L : jL), WD Z I → FR [(12, 5), (12, 52), (12, 53)] Z J Z I → I u5 = diM v2 f (J u5) n → r.toInt = shS (fun s => (J u5 (8 * s + f)).toInt) n → ((r.toInt ≤ 0 ∧ I v0 52 = J v0 52 ∧ I u53 = J u53) ∨ (0 < r.toInt ∧ (I v0 52).toInt = (reM (J v0 52).toInt.toNat : Int) ∧ ∀ k q, k < reM (J v0 52).toInt.toNat → q < 192 → HM I u53 k q = reH (J v0 52).toInt.toNat (HM J u53) (J u54) k q)) → Q r I L) :
    ∀ (m s : Nat) (v4 v5 : Int32) (I : jI) (L : jL), WD Z I → FR [(12, 5)] Z J Z I → v5.toInt = (s : Int) → s ≤ n → v4.toInt = shS (fun s => (J u5 (8 * s + f)).toInt) s → I u5 = diM v2 f (J u5) s → n + 1 ≤ m + s → f_X12_dies_L73 Z Q m v0 v1 v2 (bcV v2) v4 v5 I L := by
  have pm' := pm
  obtain ⟨h5, k5, h53, k53, h54, k54⟩ := pm
  obtain ⟨x, ex, -, l5⟩ := sh_f wJ.1 k0 (j := 5) (k := 14) (m := 192) rfl
  cases h5.symm.trans ex
  have hS := shS_bd (g := fun s => (J u5 (8 * s + f)).toInt) (n := n) ho
  intro m
  induction m with
  | zero => intro s v4 v5 I L w fr e5 hs e4 ex hm; exfalso; omega
  | succ m ih =>
    intro s v4 v5 I L w fr e5 hs e4 ex hm
    have s0 : (I v0 0).toInt = (n : Int) := by rw [fr.2.2.1 v0 12 0 k0 (by decide) (by decide)]; exact en
    have y52 : I v0 52 = J v0 52 := fr.2.2.1 v0 12 52 k0 (by decide) (by decide)
    have y53 : I u53 = J u53 := fr.2.2.2 v0 12 53 u53 k0 h53 (by rw [k53.2]; rfl) rfl (by decide)
    have y54 : I u54 = J u54 := fr.2.2.2 v0 12 54 u54 k0 h54 (by rw [k54.2]; rfl) rfl (by decide)
    have hb4 := hS s hs
    unfold f_X12_dies_L73
    refine ⟨fun c => ?_, fun c => ?_⟩
    · have c := (i_le s0 e5).mp c
      have es : s = n := by omega
      subst es
      refine ⟨fun c2 => ?_, fun c2 => ?_⟩
      · have c2 := (i_le (x := v4) (y := 0) rfl (show (0 : Int32).toInt = 0 from rfl)).mp c2
        exact hQ v4 I L w (fr.mono (by decide)) ex e4 (Or.inl ⟨c2, y52, y53⟩)
      · have c2 := (not_congr (i_le (x := v4) (y := 0) rfl (show (0 : Int32).toInt = 0 from rfl))).mp c2
        refine s15_X12_rememberParts w v0 k0 u53 h53 u54 h54 (fun I' L' w' f' g1 g2 => ?_)
        refine hQ v4 I' L' w' ((fr.mono (by decide)).trans wJ.1 wJ.2.1 (f'.mono (by decide))) ?_ e4 (Or.inr ⟨by omega, by rw [g1, y52], fun k q hk hq => ?_⟩)
        · rw [f'.2.2.2 v0 12 5 u5 k0 h5 (by rw [k5.2]; rfl) rfl (by decide)]; exact ex
        · have g := g2 k q (by rw [y52]; exact hk) hq
          rw [g, y52, y54]
          unfold reH HM
          rw [y53]
    have c := (not_congr (i_le s0 e5)).mp c
    have ti : (((8 : Int32) * v5) + v1).toInt = 8 * (s : Int) + (f : Int) := i_add (i_mul (show (8 : Int32).toInt = 8 from rfl) e5 (by omega) (by omega)) e1 (by omega) (by omega)
    have ni := i_nat ti (by omega)
    have ni : (((8 : Int32) * v5) + v1).toNatClampNeg = 8 * s + f := by omega
    have eo : I u5 (8 * s + f) = J u5 (8 * s + f) := by rw [ex]; exact diM_off hf s _ (by omega)
    have hos := ho s (by omega)
    intro b29 e29
    cases h5.symm.trans e29
    refine ⟨vi_of ti (by omega) (by omega), ?_⟩
    intro x31 e31 b32 e32
    cases h5.symm.trans e32
    rw [ni] at e31
    refine ⟨vi_of ti (by omega) (by omega), ?_⟩
    intro I34 e34
    rw [ni] at e34
    have w34 : WD Z I34 := by rw [e34]; exact WD_putA w 12 5 k0 h5 k5 rfl rfl (by decide) trivial
    have f34 : FR [(12, 5)] Z I Z I34 := by rw [e34]; exact FR_upA w.2.1 k0 h5 k5 rfl rfl List.mem_cons_self
    have y34 : I34 u5 = upd (diM v2 f (J u5) s) (8 * s + f) 0 := by rw [e34]; exact (va_up_self _ _ _).trans (by rw [ex])
    have x31e : x31 = diM v2 f (J u5) s (8 * s + f) := by rw [e31, ex]
    have h6 : 0 ≤ x31.toInt ∧ x31.toInt ≤ 720 := by rw [e31, eo]; exact hos
    refine ⟨9, dm_L115 w34 v0 k0 u5 h5 k5 l5 v1 v2 (bcV v2) v4 v5 x31 s e5 (by omega) (bc_rg h2.1 h2.2) (by omega) h6 (fun I' L' x6 x7 w' f' g1 g2 g3 => ?_) 9 0 0 0 I34 L w34 FR.rf rfl (by omega) rfl rfl (by omega)⟩
    refine ih (s + 1) x6 x7 I' L' w' ((fr.trans wJ.1 wJ.2.1 f34).trans wJ.1 wJ.2.1 f') g3 (by omega) ?_ ?_ (by omega)
    · rw [g2, e4, e31, eo]; rfl
    · rw [g1, y34, x31e]; rfl
theorem dm_L35 {Z : jZ} {J : jI} (wJ : WD Z J) (v0 : Nat) (k0 : jk Z v0 12) (u5 u53 u54 : Nat) (pm : PMs Z v0 u5 u53 u54) (v1 v2 : Int32) (f n : Nat) (en : (J v0 0).toInt = (n : Int)) (hn : n ≤ 24) (e1 : v1.toInt = (f : Int)) (hf : f < 8) (h2 : 1 ≤ v2.toInt ∧ v2.toInt ≤ 255) (ho : ∀ s, s < n → 0 ≤ (J u5 (8 * s + f)).toInt ∧ (J u5 (8 * s + f)).toInt ≤ 720) {Q : Int32 → jI → jL → Prop}
    (hQ : ∀ (r : Int32) (I : jI) (L : jL), WD Z I → FR [(12, 5), (12, 52), (12, 53), (12, 54)] Z J Z I → I u5 = diM v2 f (J u5) n → r.toInt = shS (fun s => (J u5 (8 * s + f)).toInt) n → ((r.toInt ≤ 0 ∧ I v0 52 = J v0 52 ∧ I u53 = J u53) ∨ (0 < r.toInt ∧ (I v0 52).toInt = (reM (J v0 52).toInt.toNat : Int) ∧ ∀ k q, k < reM (J v0 52).toInt.toNat → q < 192 → HM I u53 k q = reH (J v0 52).toInt.toNat (HM J u53) (J u5) k q)) → Q r I L) :
    ∀ (m p : Nat) (v3 : Int32) (I : jI) (L : jL), WD Z I → FR [(12, 54)] Z J Z I → v3.toInt = (p : Int) → p ≤ 192 → (∀ q, q < p → I u54 q = J u5 q) → 193 ≤ m + p → f_X12_dies_L35 Z Q m v0 v1 v2 v3 I L := by
  have pm' := pm
  obtain ⟨h5, k5, h53, k53, h54, k54⟩ := pm
  have z1 : (1 : Int32).toInt = 1 := rfl
  intro m
  induction m with
  | zero => intro p v3 I L w fr e3 hp h1 hm; exfalso; omega
  | succ m ih =>
    intro p v3 I L w fr e3 hp h1 hm
    have y5 : I u5 = J u5 := fr.2.2.2 v0 12 5 u5 k0 h5 (by rw [k5.2]; rfl) rfl (by decide)
    have y53 : I u53 = J u53 := fr.2.2.2 v0 12 53 u53 k0 h53 (by rw [k53.2]; rfl) rfl (by decide)
    have y52 : I v0 52 = J v0 52 := fr.2.2.1 v0 12 52 k0 (by decide) (by decide)
    have y0 : (I v0 0).toInt = (n : Int) := by rw [fr.2.2.1 v0 12 0 k0 (by decide) (by decide)]; exact en
    unfold f_X12_dies_L35
    intro b36 e36
    cases h54.symm.trans e36
    refine ⟨fun c => ?_, fun c => ?_⟩
    · have c := (i_le (show (192 : Int32).toInt = 192 from rfl) e3).mp c
      refine s_J6_bitCount_0f7a4 w v2 (fun r44 p44 => ?_)
      obtain ⟨rfl, -⟩ := p44
      refine ⟨n + 1, dm_L73 w v0 k0 u5 u53 u54 pm' v1 v2 f n y0 hn e1 hf h2 (fun s hs => by rw [y5]; exact ho s hs) (fun r I' L' w' f' g1 g2 g3 => ?_) (n + 1) 0 0 0 I L w FR.rf rfl (by omega) rfl rfl (by omega)⟩
      rw [y5] at g1 g2
      refine hQ r I' L' w' ((fr.mono (by decide)).trans wJ.1 wJ.2.1 (f'.mono (by decide))) g1 g2 ?_
      rcases g3 with ⟨a1, a2, a3⟩ | ⟨a1, a2, a3⟩
      · exact Or.inl ⟨a1, by rw [a2, y52], by rw [a3, y53]⟩
      · refine Or.inr ⟨a1, by rw [a2, y52], fun k q hk hq => ?_⟩
        rw [a3 k q (by rw [y52]; exact hk) hq, y52]
        unfold reH HM
        rw [y53]
        split
        · exact h1 q (by omega)
        · rfl
    have c := (not_congr (i_le (show (192 : Int32).toInt = 192 from rfl) e3)).mp c
    have q3 := i_nat e3 (by omega)
    have q3 : v3.toNatClampNeg = p := by omega
    intro b46 e46
    cases h54.symm.trans e46
    intro b47 e47
    cases h5.symm.trans e47
    refine ⟨vi_of e3 (by omega) (by omega), vi_of e3 (by omega) (by omega), ?_⟩
    intro I50 e50 x51 e51
    rw [q3, y5] at e50
    refine ih (p + 1) x51 I50 L ?_ ?_ ?_ (by omega) (fun q hq => ?_) (by omega)
    · rw [e50]; exact WD_putA w 12 54 k0 h54 k54 rfl rfl (by decide) trivial
    · refine fr.trans wJ.1 wJ.2.1 ?_
      rw [e50]; exact FR_upA w.2.1 k0 h54 k54 rfl rfl List.mem_cons_self
    · rw [e51]; exact (i_add e3 z1 (by omega) (by omega)).trans (by omega)
    · by_cases hqp : q = p
      · rw [hqp, e50, jpI_at]
      · rw [e50, jpI_off hqp]; exact h1 q (by omega)
theorem s15_X12_dies {Z : jZ} {I : jI} {L : jL} (w : WD Z I) (v0 : Nat) (v1 v2 : Int32) (kv0 : jk Z v0 12) (u5 u53 u54 : Nat) (pm : PMs Z v0 u5 u53 u54) (n : Nat) (en : (I v0 0).toInt = (n : Int)) (hb : ∀ z, z < 8 * n → 0 ≤ (I u5 z).toInt ∧ (I u5 z).toInt ≤ 720) {Q : Int32 → jI → jL → Prop} (hQ : ∀ (r : Int32) (I' : jI) (L' : jL), WD Z I' → FR Ws_X12_dies Z I Z I' → DIMr n (I u5) (I' u5) (I v0 52).toInt.toNat (I' v0 52).toInt.toNat (HM I u53) (HM I' u53) v1 v2 r → Q r I' L') : f_X12_dies v0 v1 v2 Z I L Q := by
  have pm' := pm
  obtain ⟨h5, k5, h53, k53, h54, k54⟩ := pm
  have t0 : 0 ≤ (I v0 0).toInt ∧ (I v0 0).toInt ≤ 24 := w.fld 12 0 kv0 (by decide)
  have z1 : (1 : Int32).toInt = 1 := rfl
  have z255 : (255 : Int32).toInt = 255 := rfl
  unfold f_X12_dies
  intro I1 e1
  have w1 : WD Z I1 := by rw [e1]; exact WD_putF w 12 22 kv0 (by decide) (by decide) trivial
  have f1 : FR Ws_X12_dies Z I Z I1 := by rw [e1]; exact FR_putF kv0 (by decide) (by decide)
  have s0 : (I1 v0 0).toInt = (n : Int) := by rw [e1, jpI_o (by decide)]; exact en
  have s52 : I1 v0 52 = I v0 52 := by rw [e1]; exact jpI_o (by decide)
  have o5 : I1 u5 = I u5 := by rw [e1]; exact jpI_ne (ks_ne k5 kv0 (by decide))
  have o53 : I1 u53 = I u53 := by rw [e1]; exact jpI_ne (ks_ne k53 kv0 (by decide))
  have same : ∀ k q, HM I1 u53 k q = HM I u53 k q := fun k q => by unfold HM; rw [o53]
  have bad : ¬ DIEc v1 v2 → Q (-1 : Int32) I1 L := fun h => hQ _ I1 L w1 f1 (Or.inl ⟨h, rfl, o5, by rw [s52], fun k q _ _ => same k q⟩)
  refine s_X12_isFamily w1 v1 (fun r p => ⟨fun c => bad (fun g => by have c := yz c; have := g.1; omega), fun c => ?_⟩)
  have c := nz c
  have n1 := i_nat (x := v1) rfl (by omega)
  have s1 : v1 = Int32.ofNat v1.toNatClampNeg := (i_eq rfl (i_nI (n := v1.toNatClampNeg) (by omega))).mpr (by omega)
  refine s_X12_in w1 _ _ _ (fun r2 p2 => ⟨fun c => bad (fun g => by have c := yz c; have := g.2.1; omega), fun c2 => ?_⟩)
  have c2 := nz c2
  refine x12_has s1 (fun hbv => ⟨fun c => absurd c (by decide), fun _ => bad (fun g => by have g3 := g.2.2; rw [hbv] at g3; exact absurd g3 (by decide))⟩) (fun hbv => ⟨fun _ => ?_, fun c => absurd rfl c⟩)
  have hC : DIEc v1 v2 := ⟨by omega, by omega, hbv⟩
  refine ⟨193, dm_L35 w1 v0 kv0 u5 u53 u54 pm' v1 v2 v1.toNatClampNeg n s0 (by omega) (by omega) (by omega) ⟨by omega, by omega⟩ (fun s hs => by rw [o5]; exact hb _ (by omega)) (fun r I' L' w' f' g1 g2 g3 => ?_) 193 0 0 I1 L w1 FR.rf rfl (by omega) (fun q hq => absurd hq (by omega)) (by omega)⟩
  rw [o5] at g1 g2
  refine hQ r I' L' w' (f1.trans w.1 w.2.1 (f'.mono (by decide))) (Or.inr ⟨hC, g2, g1, ?_⟩)
  rcases g3 with ⟨a1, a2, a3⟩ | ⟨a1, a2, a3⟩
  · exact Or.inl ⟨a1, by rw [a2, s52], fun k q _ _ => by unfold HM; rw [a3, o53]⟩
  · rw [s52] at a2
    refine Or.inr ⟨a1, by rw [a2]; exact Int.toNat_natCast _, fun k q hk hq => ?_⟩
    rw [a2, Int.toNat_natCast] at hk
    rw [a3 k q (by rw [s52]; exact hk) hq, s52]
    unfold reH
    rw [o5]
    split
    · rfl
    · split
      · exact same _ _
      · exact same _ _
end
section
/-! ===== PARTS as THE STAIRS tell them ===== -/
theorem fl_L5 {Z : jZ} {J : jI} (wJ : WD Z J) (v0 : Nat) (k0 : jk Z v0 4) (x0 : Nat) (h0 : jr Z v0 0 = some x0) (kx : jk Z x0 14) (l0 : jlen Z x0 = 192) (v3 : Int32) (e3 : v3.toInt = 192) {Q : jI → jL → Prop} (hQ : ∀ (I : jI) (L : jL), WD Z I → FR [(4, 0)] Z J Z I → (∀ q, q < 192 → I x0 q = 0) → Q I L) :
    ∀ (n p : Nat) (v2 : Int32) (I : jI) (L : jL), WD Z I → FR [(4, 0)] Z J Z I → v2.toInt = (p : Int) → p ≤ 192 → (∀ q, q < p → I x0 q = 0) → 193 ≤ n + p → f_J7_fill_53178_L5 Z Q n x0 0 v2 v3 I L := by
  intro n
  induction n with
  | zero => intro p v2 I L w f e2 hp h1 hn; exfalso; omega
  | succ n ih =>
    intro p v2 I L w f e2 hp h1 hn
    unfold f_J7_fill_53178_L5
    refine ⟨fun c => ?_, fun c => ?_⟩
    · have c := (i_le e3 e2).mp c
      exact hQ I L w f (fun q hq => h1 q (by omega))
    have c := (not_congr (i_le e3 e2)).mp c
    have q2 := i_nat e2 (by omega)
    have q2 : v2.toNatClampNeg = p := by omega
    refine ⟨by rw [l0]; exact vi_of e2 (by omega) (by omega), ?_⟩
    intro I3 ei x4 e4
    rw [q2] at ei
    refine ih (p + 1) x4 I3 L ?_ ?_ ?_ (by omega) (fun q hq => ?_) (by omega)
    · rw [ei]; exact WD_putA w 4 0 k0 h0 kx rfl rfl (by decide) trivial
    · refine f.trans wJ.1 wJ.2.1 ?_
      rw [ei]; exact FR_upA w.2.1 k0 h0 kx rfl rfl List.mem_cons_self
    · rw [e4]; exact (i_add e2 (show (1 : Int32).toInt = 1 from rfl) (by omega) (by omega)).trans (by omega)
    · by_cases hqp : q = p
      · rw [hqp, ei, jpI_at]
      · rw [ei, jpI_off hqp]; exact h1 q (by omega)
def DLc (n : Int) (W : Nat → Int32) (P : Nat → Int32) (i : Nat) : Prop := ∀ s g : Nat, s < 24 → g < 8 → (P (8 * s + g)).toInt = if (s < i ∧ (s : Int) < n) ∧ (g : Int) = (W s).toInt then 720 else 0
theorem de_L10 {Z : jZ} {J : jI} (wJ : WD Z J) (v0 : Nat) (k0 : jk Z v0 4) (x0 : Nat) (h0 : jr Z v0 0 = some x0) (kx : jk Z x0 14) (v1 : Nat) (k1 : jk Z v1 14) (l1 : jlen Z v1 = 24) (n1 : v1 ≠ x0) (v2 : Int32) {Q : jI → jL → Prop}
    (hQ : ∀ (I : jI) (L : jL), WD Z I → FR Ws_X4_deal Z J Z I → (I v0 4).toInt = 0 → DLc v2.toInt (J v1) (I x0) 24 → Q I L) :
    ∀ (m i : Nat) (v3 : Int32) (I : jI) (L : jL), WD Z I → FR [(4, 0)] Z J Z I → I v1 = J v1 → v3.toInt = (i : Int) → i ≤ 24 → DLc v2.toInt (J v1) (I x0) i → 25 ≤ m + i → f_X4_deal_L10 Z Q m v0 v1 v2 v3 I L := by
  have z24 : (24 : Int32).toInt = 24 := rfl
  have zn : (nI (jlen Z v1)).toInt = 24 := by rw [l1]; exact i_nI (n := 24) (by omega)
  intro m
  induction m with
  | zero => intro i v3 I L w f ey e3 hi hd hm; exfalso; omega
  | succ m ih =>
    intro i v3 I L w f ey e3 hi hd hm
    have last : (24 ≤ i ∨ v2.toInt ≤ (i : Int)) → f_X4_deal_b58 Z Q v0 I L := fun hc => by
      unfold f_X4_deal_b58
      intro I1 e1
      have w1 : WD Z I1 := by rw [e1]; exact WD_putF w 4 4 k0 (by decide) (by decide) (show rg 0 8 _ from ⟨by decide, by decide⟩)
      have f1 : FR Ws_X4_deal Z J Z I1 := (f.mono (by decide)).trans wJ.1 wJ.2.1 (by rw [e1]; exact FR_putF k0 (by decide) (by decide))
      refine s_X4_findMains w1 v0 k0 (fun I4 L4 w4 f4 => ?_)
      refine hQ I4 L4 w4 (f1.trans wJ.1 wJ.2.1 (f4.mono (by decide))) ?_ (fun s g hs hg => ?_)
      · rw [f4.2.2.1 v0 4 4 k0 (by decide) (by decide), e1, jpI_at]; rfl
      · rw [f4.2.2.2 v0 4 0 x0 k0 h0 (by rw [kx.2]; rfl) rfl (by decide), e1, jpI_ne (ks_ne kx k0 (by decide)), hd s g hs hg]
        have : ((s < i ∧ (s : Int) < v2.toInt) ∧ (g : Int) = (J v1 s).toInt) ↔ ((s < 24 ∧ (s : Int) < v2.toInt) ∧ (g : Int) = (J v1 s).toInt) := by
          constructor
          · rintro ⟨⟨a, b⟩, c⟩; exact ⟨⟨hs, b⟩, c⟩
          · rintro ⟨⟨a, b⟩, c⟩; exact ⟨⟨by omega, b⟩, c⟩
        by_cases q : (s < i ∧ (s : Int) < v2.toInt) ∧ (g : Int) = (J v1 s).toInt
        · rw [if_pos q, if_pos (this.mp q)]
        · rw [if_neg q, if_neg (fun h => q (this.mpr h))]
    unfold f_X4_deal_L10
    refine ⟨fun c => last (Or.inr ((i_le rfl e3).mp c)), fun c => ⟨fun c2 => last (Or.inl (by have := (i_le zn e3).mp c2; omega)), fun c2 => ⟨fun c3 => last (Or.inl (by have := (i_le z24 e3).mp c3; omega)), fun c3 => ?_⟩⟩⟩
    have c := (not_congr (i_le (x := v2) (y := v3) rfl e3)).mp c
    have c3 := (not_congr (i_le z24 e3)).mp c3
    have q3 := i_nat e3 (by omega)
    have q3 : v3.toNatClampNeg = i := by omega
    have nx : ∀ x : Int32, x = v3 + 1 → x.toInt = ((i + 1 : Nat) : Int) := fun x e => by rw [e]; exact (i_add e3 (show (1 : Int32).toInt = 1 from rfl) (by omega) (by omega)).trans (by omega)
    refine ⟨by rw [l1]; exact vi_of e3 (by omega) (by omega), ?_⟩
    rw [q3, ey]
    refine s_X11_isFamily w _ (fun r p => ⟨fun c4 => ?_, fun c4 => ?_⟩)
    · have c4 := yz c4
      unfold f_X4_deal_b52
      intro x8 e8
      refine ih (i + 1) x8 I L w f ey (nx x8 e8) (by omega) (fun s g hs hg => ?_) (by omega)
      rw [hd s g hs hg]
      by_cases q : (s < i ∧ (s : Int) < v2.toInt) ∧ (g : Int) = (J v1 s).toInt
      · rw [if_pos q, if_pos ⟨⟨by omega, q.1.2⟩, q.2⟩]
      · rw [if_neg q, if_neg (fun h => q ⟨⟨by
          by_cases hsi : s = i
          · rw [hsi] at h; omega
          · omega, h.1.2⟩, h.2⟩)]
    · have c4 := nz c4
      have ti : ((v3 * (8 : Int32)) + (J v1 i)).toInt = 8 * (i : Int) + (J v1 i).toInt := (i_add (i_mul e3 (show (8 : Int32).toInt = 8 from rfl) (by omega) (by omega)) rfl (by omega) (by omega)).trans (by omega)
      have ni := i_nat ti (by omega)
      have ni : ((v3 * (8 : Int32)) + (J v1 i)).toNatClampNeg = 8 * i + (J v1 i).toInt.toNat := by omega
      intro b21 e21
      cases h0.symm.trans e21
      refine ⟨by rw [l1]; exact vi_of e3 (by omega) (by omega), ?_⟩
      rw [ey]
      refine ⟨vi_of ti (by omega) (by omega), ?_⟩
      intro I24 e24
      rw [ni] at e24
      unfold f_X4_deal_b52
      intro x8 e8
      refine ih (i + 1) x8 I24 L ?_ ?_ ?_ (nx x8 e8) (by omega) (fun s g hs hg => ?_) (by omega)
      · rw [e24]; exact WD_putA w 4 0 k0 h0 kx rfl rfl (by decide) trivial
      · refine f.trans wJ.1 wJ.2.1 ?_
        rw [e24]; exact FR_upA w.2.1 k0 h0 kx rfl rfl List.mem_cons_self
      · rw [e24, jpI_ne n1]; exact ey
      · by_cases hz : 8 * s + g = 8 * i + (J v1 i).toInt.toNat
        · have hsi : s = i := by omega
          have hgi : (g : Int) = (J v1 i).toInt := by omega
          rw [hz, e24, jpI_at, if_pos (by rw [hsi]; exact ⟨⟨by omega, by omega⟩, hgi⟩)]
          rfl
        · rw [e24, jpI_off hz, hd s g hs hg]
          by_cases q : (s < i ∧ (s : Int) < v2.toInt) ∧ (g : Int) = (J v1 s).toInt
          · rw [if_pos q, if_pos ⟨⟨by omega, q.1.2⟩, q.2⟩]
          · rw [if_neg q, if_neg (fun h => q ⟨⟨by
              by_cases hsi : s = i
              · rw [hsi] at h
                have := h.2
                omega
              · omega, h.1.2⟩, h.2⟩)]
theorem s15_X4_deal {Z : jZ} {I : jI} {L : jL} (w : WD Z I) (v0 v1 : Nat) (v2 : Int32) (kv0 : jk Z v0 4) (x0 : Nat) (h0 : jr Z v0 0 = some x0) (k1 : jk Z v1 14) (l1 : jlen Z v1 = 24) (n1 : v1 ≠ x0) (oN : Nat) (kN : jk Z oN 9) (hN : jr Z oN 4 = some v1) {Q : jI → jL → Prop} (hQ : ∀ (I' : jI) (L' : jL), WD Z I' → FR Ws_X4_deal Z I Z I' → (I' v0 4).toInt = 0 → DLc v2.toInt (I v1) (I' x0) 24 → Q I' L') : f_X4_deal v0 v1 v2 Z I L Q := by
  obtain ⟨x, ex, kx, l0⟩ := sh_f w.1 kv0 (j := 0) (k := 14) (m := 192) rfl
  cases h0.symm.trans ex
  unfold f_X4_deal
  intro b25 e25
  cases h0.symm.trans e25
  unfold f_J7_fill_53178
  intro x5 e5
  refine ⟨193, fl_L5 w v0 kv0 x0 h0 kx l0 x5 (by rw [e5, l0]; exact i_nI (n := 192) (by omega)) (fun I1 L1 w1 f1 y1 => ?_) 193 0 0 I L w FR.rf rfl (by omega) (fun q hq => absurd hq (by omega)) (by omega)⟩
  have e1 : I1 v1 = I v1 := f1.2.2.2 oN 9 4 v1 kN hN (by rw [k1.2]; rfl) rfl (by decide)
  refine ⟨25, de_L10 w1 v0 kv0 x0 h0 kx v1 k1 l1 n1 v2 (fun I2 L2 w2 f2 g1 g2 => ?_) 25 0 0 I1 L1 w1 FR.rf rfl rfl (by omega) (fun s g hs hg => ?_) (by omega)⟩
  · rw [e1] at g2
    exact hQ I2 L2 w2 ((f1.mono (by decide)).trans w.1 w.2.1 f2) g1 g2
  · rw [y1 (8 * s + g) (by omega), if_neg (fun h => absurd h.1.1 (by omega))]
    rfl
theorem lnA_fam {g : Int → Int} {a n : Int} (h0 : 0 ≤ a) (h : (lnA g a n).1 = -1) : 0 ≤ lnV g a 4 ∧ lnV g a 4 ≤ 7 := by
  have nb0 := nbad_eq g a
  have nr0 := nd_rng g a
  unfold lnA at h
  by_cases c1 : 1 ≤ nd g a ∧ 1 ≤ nv g a ∧ nv g a ≤ 30
  · rw [if_pos c1] at h
    by_cases d1 : g (a + nd g a) = 44
    · rw [if_pos d1] at h
      have nb1 := nbad_eq g (a + nd g a + 1)
      have nr1 := nd_rng g (a + nd g a + 1)
      unfold lnB at h
      by_cases c2 : 1 ≤ nd g (a + nd g a + 1) ∧ 0 ≤ nv g (a + nd g a + 1) ∧ nv g (a + nd g a + 1) ≤ 9
      · rw [if_pos c2] at h
        by_cases d2 : g (a + nd g a + 1 + nd g (a + nd g a + 1)) = 44
        · rw [if_pos d2] at h
          have nb2 := nbad_eq g (a + nd g a + 1 + nd g (a + nd g a + 1) + 1)
          have nr2 := nd_rng g (a + nd g a + 1 + nd g (a + nd g a + 1) + 1)
          unfold lnC at h
          by_cases c3 : 1 ≤ nd g (a + nd g a + 1 + nd g (a + nd g a + 1) + 1) ∧ 0 ≤ nv g (a + nd g a + 1 + nd g (a + nd g a + 1) + 1) ∧ nv g (a + nd g a + 1 + nd g (a + nd g a + 1) + 1) ≤ 20
          · rw [if_pos c3] at h
            by_cases d3 : g (a + nd g a + 1 + nd g (a + nd g a + 1) + 1 + nd g (a + nd g a + 1 + nd g (a + nd g a + 1) + 1)) = 64
            · rw [if_pos d3] at h
              unfold lnD at h
              by_cases c4 : 48 ≤ g (a + nd g a + 1 + nd g (a + nd g a + 1) + 1 + nd g (a + nd g a + 1 + nd g (a + nd g a + 1) + 1) + 1) ∧ g (a + nd g a + 1 + nd g (a + nd g a + 1) + 1 + nd g (a + nd g a + 1 + nd g (a + nd g a + 1) + 1) + 1) ≤ 55
              · show 0 ≤ g (a + nd g a + 1 + nd g (a + nd g a + 1) + 1 + nd g (a + nd g a + 1 + nd g (a + nd g a + 1) + 1) + 1) - 48 ∧ g (a + nd g a + 1 + nd g (a + nd g a + 1) + 1 + nd g (a + nd g a + 1 + nd g (a + nd g a + 1) + 1) + 1) - 48 ≤ 7
                omega
              · rw [if_neg c4] at h
                have h : a + nd g a + 1 + nd g (a + nd g a + 1) + 1 + nd g (a + nd g a + 1 + nd g (a + nd g a + 1) + 1) + 1 = -1 := h
                omega
            · rw [if_neg d3] at h
              have h : a + nd g a + 1 + nd g (a + nd g a + 1) + 1 + nd g (a + nd g a + 1 + nd g (a + nd g a + 1) + 1) = -1 := h
              omega
          · rw [if_neg c3] at h
            have h : nbad g (a + nd g a + 1 + nd g (a + nd g a + 1) + 1) = -1 := h
            omega
        · rw [if_neg d2] at h
          have h : a + nd g a + 1 + nd g (a + nd g a + 1) = -1 := h
          omega
      · rw [if_neg c2] at h
        have h : nbad g (a + nd g a + 1) = -1 := h
        omega
    · rw [if_neg d1] at h
      have h : a + nd g a = -1 := h
      omega
  · rw [if_neg c1] at h
    have h : nbad g a = -1 := h
    omega
theorem cS_fam {g : Int → Int} {lim : Int} : ∀ (k : Nat) (a n N : Int), 0 ≤ a → rdS g lim k a n = (-1, N) → ∀ s : Nat, n ≤ (s : Int) → (s : Int) < N → 0 ≤ cS g k a n 4 s ∧ cS g k a n 4 s ≤ 7 := by
  intro k
  induction k with
  | zero =>
    intro a n N h0 h s h1 h2
    have h : (a, n) = (-1, N) := h
    have := (Prod.mk.inj h).1
    omega
  | succ k ih =>
    intro a n N h0 h s h1 h2
    unfold rdS at h
    by_cases c : n < 24
    · rw [if_pos c] at h
      by_cases d : (lnA g a n).1 = -1
      · rw [if_pos d] at h
        have ok := lnA_ok c d h0
        by_cases hs : (s : Int) < n + (lnA g a n).2.2
        · rw [cS_here hs]; exact lnA_fam h0 d
        · rw [cS_step hs]
          by_cases e : (lnA g a n).2.1 < lim
          · rw [if_pos e] at h
            by_cases f : g (lnA g a n).2.1 = 59
            · rw [if_pos f] at h
              exact ih _ _ N (by omega) h s (by omega) h2
            · rw [if_neg f] at h
              have := (Prod.mk.inj h).1
              omega
          · rw [if_neg e] at h
            have := (Prod.mk.inj h).2
            omega
      · rw [if_neg d] at h
        exact absurd (Prod.mk.inj h).1 d
    · rw [if_neg c] at h
      have := (Prod.mk.inj h).1
      omega
theorem stA_ok {f : Nat → Int32} {s : Int} (h : 0 ≤ stA f s) : rdS (GS f (min s 76)) (min s 76) 77 0 0 = (-1, stA f s) := by
  have hlo := rdS_lo (g := GS f (min s 76)) (lim := min s 76) 77 0 0 (by omega)
  unfold stA at h ⊢
  by_cases c : s ≤ 0
  · rw [if_pos c] at h
    exact absurd h (by decide)
  · rw [if_neg c] at h ⊢
    by_cases d : (rdS (GS f (min s 76)) (min s 76) 77 0 0).1 = -1
    · rw [if_pos d] at h ⊢
      by_cases e : s ≤ 76
      · rw [if_pos e] at h ⊢
        by_cases q : 2 ≤ (rdS (GS f (min s 76)) (min s 76) 77 0 0).2
        · rw [if_pos q]
          exact Prod.ext d rfl
        · rw [if_neg q] at h
          exact absurd h (by decide)
      · rw [if_neg e] at h
        exact absurd h (by decide)
    · rw [if_neg d] at h
      omega
theorem cT_fam {f : Nat → Int32} {s : Int} (h : 0 ≤ stA f s) (q : Nat) (hq : (q : Int) < stA f s) : 0 ≤ cT f s 4 q ∧ cT f s 4 q ≤ 7 := cS_fam 77 0 0 (stA f s) (by omega) (stA_ok h) q (by omega) hq
def EQC (I I' : jI) (uP x0 x2 : Nat) : Prop := I' x0 = I x0 ∧ I' uP 4 = I uP 4 ∧ I' uP 3 = I uP 3 ∧ I' x2 = I x2
theorem EQC_fr {W : List (Nat × Nat)} {Z Z' : jZ} {I I' : jI} {v0 uF uP x0 x2 : Nat} (f : FR W Z I Z' I') (pc : PCs Z v0 uF uP x0 x2) (n : (4, 0) ∉ W ∧ (4, 2) ∉ W ∧ (4, 3) ∉ W ∧ (4, 4) ∉ W) : EQC I I' uP x0 x2 := by
  obtain ⟨huF, kF, huP, kP, h0, k0, h2, k2⟩ := pc
  exact ⟨f.2.2.2 uP 4 0 x0 kP h0 (by rw [k0.2]; rfl) rfl n.1, f.2.2.1 uP 4 4 kP (by decide) n.2.2.2, f.2.2.1 uP 4 3 kP (by decide) n.2.2.1, f.2.2.2 uP 4 2 x2 kP h2 (by rw [k2.2]; rfl) rfl n.2.1⟩
set_option maxHeartbeats 1000000 in
theorem s15_X8_build {Z : jZ} {I : jI} {L : jL} (w : WD Z I) (v0 v1 : Nat) (kv0 : jk Z v0 8) (kv1 : jk Z v1 9) {Q : jI → jL → Prop} (hQ : ∀ (I' : jI) (L' : jL), WD Z I' → FR Ws_X8_build Z I Z I' → (I' v0 9).toInt = (I v1 5).toInt → (∀ j u u', j < 4 → jr Z v1 j = some u → jr Z v0 j = some u' → ∀ s : Nat, s < 24 → I' u' s = I u s) → (∀ uP x0 u, jr Z v0 4 = some uP → jr Z uP 0 = some x0 → jr Z v1 4 = some u → (I' uP 4).toInt = 0 ∧ DLc (I v1 5).toInt (I u) (I' x0) 24) → Q I' L') : f_X8_build v0 v1 Z I L Q := by
  obtain ⟨r0, hr0, kr0, -⟩ := sh_f w.1 kv1 (j := 0) (k := 14) (m := 24) rfl
  obtain ⟨r1, hr1, kr1, -⟩ := sh_f w.1 kv1 (j := 1) (k := 14) (m := 24) rfl
  obtain ⟨r2, hr2, kr2, -⟩ := sh_f w.1 kv1 (j := 2) (k := 14) (m := 24) rfl
  obtain ⟨r3, hr3, kr3, -⟩ := sh_f w.1 kv1 (j := 3) (k := 14) (m := 24) rfl
  obtain ⟨r4, hr4, kr4, lr4⟩ := sh_f w.1 kv1 (j := 4) (k := 14) (m := 24) rfl
  obtain ⟨a0, ha0, ka0, -⟩ := sh_f w.1 kv0 (j := 0) (k := 14) (m := 24) rfl
  obtain ⟨a1, ha1, ka1, -⟩ := sh_f w.1 kv0 (j := 1) (k := 14) (m := 24) rfl
  obtain ⟨a2, ha2, ka2, -⟩ := sh_f w.1 kv0 (j := 2) (k := 14) (m := 24) rfl
  obtain ⟨a3, ha3, ka3, -⟩ := sh_f w.1 kv0 (j := 3) (k := 14) (m := 24) rfl
  obtain ⟨a4, ha4, ka4⟩ := sh_o w.1 kv0 (j := 4) (k := 4) rfl
  have x89 : ∀ {j j' a r}, jr Z v0 j = some a → jr Z v1 j' = some r → jsr 8 j = false → jsr 9 j' = false → r ≠ a := fun ha hr s s' e => by
    subst e
    have := (w.2.1.2.2 _ _ _ _ _ _ _ kv0 kv1 ha hr s s').1
    exact ks_ne kv0 kv1 (by decide) this
  have t5 : 0 ≤ (I v1 5).toInt ∧ (I v1 5).toInt ≤ 24 := w.fld 9 5 kv1 (by decide)
  unfold f_X8_build
  intro I1 e1
  have w1 : WD Z I1 := by rw [e1]; exact WD_putF w 8 9 kv0 (by decide) (by decide) ⟨by omega, by omega⟩
  have f1 : FR Ws_X8_build Z I Z I1 := by rw [e1]; exact FR_putF kv0 (by decide) (by decide)
  have o1 : ∀ a, a ≠ v0 → I1 a = I a := fun a ha => by rw [e1]; exact jpI_ne ha
  intro b2 e2
  cases hr0.symm.trans e2
  intro b3 e3
  cases ha0.symm.trans e3
  refine ⟨by decide, ?_⟩
  intro I5 e5
  have w5 : WD Z I5 := by rw [e5]; exact WD_cpy w1 8 0 kv0 ha0 ka0 rfl rfl (by decide) (fun _ _ _ => trivial)
  have f5 : FR Ws_X8_build Z I Z I5 := f1.trans w.1 w.2.1 (by rw [e5]; exact FR_upA w1.2.1 kv0 ha0 ka0 rfl rfl (by decide))
  have o5 : ∀ a, a ≠ a0 → I5 a = I1 a := fun a ha => by rw [e5]; exact va_up_ne _ _ ha
  intro b6 e6
  cases hr1.symm.trans e6
  intro b7 e7
  cases ha1.symm.trans e7
  refine ⟨by decide, ?_⟩
  intro I9 e9
  have w9 : WD Z I9 := by rw [e9]; exact WD_cpy w5 8 1 kv0 ha1 ka1 rfl rfl (by decide) (fun _ _ _ => trivial)
  have f9 : FR Ws_X8_build Z I Z I9 := f5.trans w.1 w.2.1 (by rw [e9]; exact FR_upA w5.2.1 kv0 ha1 ka1 rfl rfl (by decide))
  have o9 : ∀ a, a ≠ a1 → I9 a = I5 a := fun a ha => by rw [e9]; exact va_up_ne _ _ ha
  intro b10 e10
  cases hr2.symm.trans e10
  intro b11 e11
  cases ha2.symm.trans e11
  refine ⟨by decide, ?_⟩
  intro I13 e13
  have g2 : ∀ q, rg 0 20 (I9 r2 q) := fun q => w9.arr 9 2 kv1 hr2 kr2 rfl rfl q
  have w13 : WD Z I13 := by rw [e13]; exact WD_cpy w9 8 2 kv0 ha2 ka2 rfl rfl (by decide) (fun q _ _ => g2 _)
  have f13 : FR Ws_X8_build Z I Z I13 := f9.trans w.1 w.2.1 (by rw [e13]; exact FR_upA w9.2.1 kv0 ha2 ka2 rfl rfl (by decide))
  have o13 : ∀ a, a ≠ a2 → I13 a = I9 a := fun a ha => by rw [e13]; exact va_up_ne _ _ ha
  intro b14 e14
  cases hr3.symm.trans e14
  intro b15 e15
  cases ha3.symm.trans e15
  refine ⟨by decide, ?_⟩
  intro I17 e17
  have w17 : WD Z I17 := by rw [e17]; exact WD_cpy w13 8 3 kv0 ha3 ka3 rfl rfl (by decide) (fun _ _ _ => trivial)
  have f17 : FR Ws_X8_build Z I Z I17 := f13.trans w.1 w.2.1 (by rw [e17]; exact FR_upA w13.2.1 kv0 ha3 ka3 rfl rfl (by decide))
  have o17 : ∀ a, a ≠ a3 → I17 a = I13 a := fun a ha => by rw [e17]; exact va_up_ne _ _ ha
  intro b18 e18
  cases ha4.symm.trans e18
  intro b19 e19
  cases hr4.symm.trans e19
  have d : ∀ {j j' b b'}, jr Z v0 j = some b → jr Z v0 j' = some b' → jsr 8 j = false → jsr 8 j' = false → j ≠ j' → b ≠ b' := fun h h' s s' n => ds_ne w.2.1 kv0 h h' s s' n
  have y0 : ∀ s : Nat, s < 24 → I17 a0 s = I r0 s := fun s hs => by
    rw [o17 a0 (d ha0 ha3 rfl rfl (by decide)), o13 a0 (d ha0 ha2 rfl rfl (by decide)), o9 a0 (d ha0 ha1 rfl rfl (by decide)), e5, va_up_self, z24, cpy_all hs, o1 r0 (ks_ne kr0 kv0 (by decide))]
  have y1 : ∀ s : Nat, s < 24 → I17 a1 s = I r1 s := fun s hs => by
    rw [o17 a1 (d ha1 ha3 rfl rfl (by decide)), o13 a1 (d ha1 ha2 rfl rfl (by decide)), e9, va_up_self, z24, cpy_all hs, o5 r1 (x89 ha0 hr1 rfl rfl), o1 r1 (ks_ne kr1 kv0 (by decide))]
  have y2 : ∀ s : Nat, s < 24 → I17 a2 s = I r2 s := fun s hs => by
    rw [o17 a2 (d ha2 ha3 rfl rfl (by decide)), e13, va_up_self, z24, cpy_all hs, o9 r2 (x89 ha1 hr2 rfl rfl), o5 r2 (x89 ha0 hr2 rfl rfl), o1 r2 (ks_ne kr2 kv0 (by decide))]
  have y3 : ∀ s : Nat, s < 24 → I17 a3 s = I r3 s := fun s hs => by
    rw [e17, va_up_self, z24, cpy_all hs, o13 r3 (x89 ha2 hr3 rfl rfl), o9 r3 (x89 ha1 hr3 rfl rfl), o5 r3 (x89 ha0 hr3 rfl rfl), o1 r3 (ks_ne kr3 kv0 (by decide))]
  obtain ⟨p0, hp0, kp0, -⟩ := sh_f w.1 ka4 (j := 0) (k := 14) (m := 192) rfl
  have np : r4 ≠ p0 := fun e => by
    subst e
    have := (w.2.1.2.2 _ _ _ _ _ _ _ ka4 kv1 hp0 hr4 rfl rfl).1
    exact ks_ne ka4 kv1 (by decide) this
  refine s15_X4_deal w17 a4 r4 _ ka4 p0 hp0 kr4 lr4 np v1 kv1 hr4 (fun I22 L22 w22 f22 g4 gd => ?_)
  refine hQ I22 L22 w22 (f17.trans w.1 w.2.1 (f22.mono (by decide))) ?_ (fun j u u' hj hu hu' s hs => ?_) (fun q0 q1 q2 c0 c1 c2 => ?_)
  · rw [f22.2.2.1 v0 8 9 kv0 (by decide) (by decide), o17 v0 (ks_ne kv0 ka3 (by decide)), o13 v0 (ks_ne kv0 ka2 (by decide)), o9 v0 (ks_ne kv0 ka1 (by decide)), o5 v0 (ks_ne kv0 ka0 (by decide)), e1, jpI_at]
  · have hj : j = 0 ∨ j = 1 ∨ j = 2 ∨ j = 3 := by omega
    rcases hj with rfl | rfl | rfl | rfl
    · cases hr0.symm.trans hu; cases ha0.symm.trans hu'
      rw [f22.2.2.2 v0 8 0 a0 kv0 ha0 (by rw [ka0.2]; rfl) rfl (by decide)]; exact y0 s hs
    · cases hr1.symm.trans hu; cases ha1.symm.trans hu'
      rw [f22.2.2.2 v0 8 1 a1 kv0 ha1 (by rw [ka1.2]; rfl) rfl (by decide)]; exact y1 s hs
    · cases hr2.symm.trans hu; cases ha2.symm.trans hu'
      rw [f22.2.2.2 v0 8 2 a2 kv0 ha2 (by rw [ka2.2]; rfl) rfl (by decide)]; exact y2 s hs
    · cases hr3.symm.trans hu; cases ha3.symm.trans hu'
      rw [f22.2.2.2 v0 8 3 a3 kv0 ha3 (by rw [ka3.2]; rfl) rfl (by decide)]; exact y3 s hs
  · cases ha4.symm.trans c0; cases hp0.symm.trans c1; cases hr4.symm.trans c2
    have y9 : (I17 v0 9).toInt = (I v1 5).toInt := by rw [o17 v0 (ks_ne kv0 ka3 (by decide)), o13 v0 (ks_ne kv0 ka2 (by decide)), o9 v0 (ks_ne kv0 ka1 (by decide)), o5 v0 (ks_ne kv0 ka0 (by decide)), e1, jpI_at]
    have yr : I17 r4 = I r4 := by rw [o17 r4 (x89 ha3 hr4 rfl rfl), o13 r4 (x89 ha2 hr4 rfl rfl), o9 r4 (x89 ha1 hr4 rfl rfl), o5 r4 (x89 ha0 hr4 rfl rfl), o1 r4 (ks_ne kr4 kv0 (by decide))]
    rw [y9, yr] at gd
    exact ⟨g4, gd⟩
theorem s15_X11_stairs {Z : jZ} {I : jI} {L : jL} (w : WD Z I) (v0 : Nat) (kv0 : jk Z v0 11) (uT : Nat) (huT : jr Z v0 0 = some uT) (uB : Nat) (huB : jr Z uT 0 = some uB) (uF : Nat) (huF : jr Z v0 2 = some uF) (uN : Nat) (huN : jr Z v0 1 = some uN) (p0 : BY (I uB)) (uS : Nat) (huS : jr Z v0 8 = some uS) {Q : Int32 → jI → jL → Prop}
    (hQ : ∀ (r : Int32) (I' : jI) (L' : jL), WD Z I' → FR Ws_X11_stairs Z I Z I' → ((I' uT 1).toInt = 0 ∧ r.toInt = stA (I uB) (I uT 1).toInt ∧ (0 ≤ r.toInt → (I' uF 9).toInt = r.toInt) ∧ (r.toInt < 0 → (I' uF 9).toInt = (I uF 9).toInt) ∧ (r.toInt < 0 → ∀ b, jk Z b 2 → I' b 8 = I b 8) ∧ (0 ≤ r.toInt → ∀ i b, i < 2 → jr Z uS i = some b → I' b 8 = 0)) → ((0 ≤ r.toInt → CF (cT (I uB) (I uT 1).toInt) Z I' uF r.toInt) ∧ (r.toInt < 0 → ∀ j u, j < 4 → jr Z uF j = some u → I' u = I u)) → ((0 ≤ r.toInt → ∀ uP x0, jr Z uF 4 = some uP → jr Z uP 0 = some x0 → (I' uP 4).toInt = 0 ∧ ∀ s g : Nat, s < 24 → g < 8 → (I' x0 (8 * s + g)).toInt = if (s : Int) < r.toInt ∧ (g : Int) = cT (I uB) (I uT 1).toInt 4 s then 720 else 0) ∧ (r.toInt < 0 → ∀ uP x0 x2, jr Z uF 4 = some uP → jr Z uP 0 = some x0 → jr Z uP 2 = some x2 → EQC I I' uP x0 x2)) → Q r I' L') : f_X11_stairs v0 Z I L Q := by
  have kT : jk Z uT 10 := by obtain ⟨b9, e9, k9⟩ := sh_o w.1 kv0 (j := 0) (k := 10) rfl; cases huT.symm.trans e9; exact k9
  have kF : jk Z uF 8 := by obtain ⟨b9, e9, k9⟩ := sh_o w.1 kv0 (j := 2) (k := 8) rfl; cases huF.symm.trans e9; exact k9
  have kN : jk Z uN 9 := by obtain ⟨b9, e9, k9⟩ := sh_o w.1 kv0 (j := 1) (k := 9) rfl; cases huN.symm.trans e9; exact k9
  obtain ⟨x, ex, kS, lS⟩ := sh_f w.1 kv0 (j := 8) (k := 17) (m := 2) rfl
  cases huS.symm.trans ex
  obtain ⟨uE, hE, kE, lE⟩ := sh_f w.1 kv0 (j := 5) (k := 14) (m := 8) rfl
  have kj : ∀ j u, j < 4 → jr Z uF j = some u → jk Z u 14 := fun j u hj hu => by
    have hj : j = 0 ∨ j = 1 ∨ j = 2 ∨ j = 3 := by omega
    rcases hj with rfl | rfl | rfl | rfl
    · obtain ⟨b, e, kb, -⟩ := sh_f w.1 kF (j := 0) (k := 14) (m := 24) rfl; cases hu.symm.trans e; exact kb
    · obtain ⟨b, e, kb, -⟩ := sh_f w.1 kF (j := 1) (k := 14) (m := 24) rfl; cases hu.symm.trans e; exact kb
    · obtain ⟨b, e, kb, -⟩ := sh_f w.1 kF (j := 2) (k := 14) (m := 24) rfl; cases hu.symm.trans e; exact kb
    · obtain ⟨b, e, kb, -⟩ := sh_f w.1 kF (j := 3) (k := 14) (m := 24) rfl; cases hu.symm.trans e; exact kb
  have fk : ∀ {W : List (Nat × Nat)} {A C : jI}, FR W Z A Z C → ((8, 0) ∉ W ∧ (8, 1) ∉ W ∧ (8, 2) ∉ W ∧ (8, 3) ∉ W) → ∀ j u, j < 4 → jr Z uF j = some u → C u = A u := fun f hn j u hj hu => by
    refine f.2.2.2 uF 8 j u kF hu (by rw [(kj j u hj hu).2]; rfl) ?_ ?_
    · have hj : j = 0 ∨ j = 1 ∨ j = 2 ∨ j = 3 := by omega
      rcases hj with rfl | rfl | rfl | rfl <;> rfl
    · have hj : j = 0 ∨ j = 1 ∨ j = 2 ∨ j = 3 := by omega
      rcases hj with rfl | rfl | rfl | rfl
      · exact hn.1
      · exact hn.2.1
      · exact hn.2.2.1
      · exact hn.2.2.2
  unfold f_X11_stairs
  intro b33 e33
  cases huN.symm.trans e33
  intro b34 e34
  cases huT.symm.trans e34
  refine s13_X9_read w uN uT kN kT uB huB p0 (fun r I1 L1 w1 f1 p1 => ?_)
  intro b42 e42
  cases huT.symm.trans e42
  refine s9_X10_clear w1 uT kT (fun I2 L2 w2 f2 p2 => ?_)
  have g2 : FR Ws_X11_stairs Z I Z I2 := (f1.mono (by decide)).trans w.1 w.2.1 (f2.mono (by decide))
  refine ⟨fun c => ?_, fun c => ?_⟩
  · have c := (i_le (x := 0) (y := r) (show (0 : Int32).toInt = 0 from rfl) rfl).mp c
    intro b50 e50
    cases huF.symm.trans e50
    intro b51 e51
    cases huN.symm.trans e51
    refine s15_X8_build w2 uF uN kF kN (fun I3 L3 w3 f3 p3 y3 y4 => ?_)
    have g3 : FR Ws_X11_stairs Z I Z I3 := g2.trans w.1 w.2.1 (f3.mono (by decide))
    have s3 : (I3 uF 9).toInt = r.toInt := by rw [p3, f2.2.2.1 uN 9 5 kN (by decide) (by decide)]; exact p1.2.1 c
    have t3 : (I3 uT 1).toInt = 0 := by rw [f3.2.2.1 uT 10 1 kT (by decide) (by decide)]; exact p2
    have r24 : r.toInt ≤ 24 := by have := (show rg 0 24 (I3 uF 9) from w3.fld 8 9 kF (by decide)).2; omega
    have c3 : CF (cT (I uB) (I uT 1).toInt) Z I3 uF r.toInt := by
      intro j u hj hu s hs
      have hj5 : j = 0 ∨ j = 1 ∨ j = 2 ∨ j = 3 := by omega
      obtain ⟨a, ha, ka⟩ : ∃ a, jr Z uN j = some a ∧ jk Z a 14 := by
        rcases hj5 with rfl | rfl | rfl | rfl
        · obtain ⟨b, e, kb, -⟩ := sh_f w.1 kN (j := 0) (k := 14) (m := 24) rfl; exact ⟨b, e, kb⟩
        · obtain ⟨b, e, kb, -⟩ := sh_f w.1 kN (j := 1) (k := 14) (m := 24) rfl; exact ⟨b, e, kb⟩
        · obtain ⟨b, e, kb, -⟩ := sh_f w.1 kN (j := 2) (k := 14) (m := 24) rfl; exact ⟨b, e, kb⟩
        · obtain ⟨b, e, kb, -⟩ := sh_f w.1 kN (j := 3) (k := 14) (m := 24) rfl; exact ⟨b, e, kb⟩
      rw [y3 j a u hj ha hu s (by omega)]
      have e2 : I2 a = I1 a := by
        refine f2.2.2.2 uN 9 j a kN ha (by rw [ka.2]; rfl) ?_ ?_
        · rcases hj5 with rfl | rfl | rfl | rfl <;> rfl
        · rcases hj5 with rfl | rfl | rfl | rfl <;> decide
      rw [e2]
      exact p1.2.2 c j a (by omega) ha s hs
    refine ⟨7, hk_L38 w3 v0 kv0 r (fun I4 L4 w4 f4 => ?_) 7 0 I3 L3 w3 FR.rf (by decide) (by decide) (by decide)⟩
    intro b10 e10
    cases hE.symm.trans e10
    have g4 : FR Ws_X11_stairs Z I Z I4 := g3.trans w.1 w.2.1 (f4.mono (by decide))
    refine s_J7_fill_53178 w4 uE 0 kE v0 11 5 kv0 hE (by decide) rfl (by rw [lE]; omega) (fun _ => trivial) (fun I5 L5 w5 f5 => ?_)
    have g5 : FR Ws_X11_stairs Z I Z I5 := g4.trans w.1 w.2.1 (f5.mono (by decide))
    refine ⟨3, hk_L76 w5 v0 r uS huS kS lS (fun I6 L6 w6 f6 z6 => ?_) 3 0 0 I5 L5 w5 FR.rf rfl (by omega) (fun k b hk => absurd hk (Nat.not_lt_zero k)) (by omega)⟩
    refine hQ r I6 L6 w6 (g5.trans w.1 w.2.1 (f6.mono (by decide))) ⟨?_, p1.1, fun _ => ?_, fun h => absurd c (by omega), fun h => absurd c (by omega), fun _ => z6⟩ ⟨fun _ => ?_, fun h => absurd c (by omega)⟩ ⟨fun _ uP x0 hP h0 => ?_, fun h => absurd c (by omega)⟩
    · rw [f6.2.2.1 uT 10 1 kT (by decide) (by decide), f5.2.2.1 uT 10 1 kT (by decide) (by decide), f4.2.2.1 uT 10 1 kT (by decide) (by decide)]; exact t3
    · rw [f6.2.2.1 uF 8 9 kF (by decide) (by decide), f5.2.2.1 uF 8 9 kF (by decide) (by decide), f4.2.2.1 uF 8 9 kF (by decide) (by decide)]; exact s3
    · intro j u hj hu s hs
      rw [fk f6 (by decide) j u hj hu, fk f5 (by decide) j u hj hu, fk f4 (by decide) j u hj hu]
      exact c3 j u hj hu s hs
    · obtain ⟨x, ex, kP⟩ := sh_o w.1 kF (j := 4) (k := 4) rfl
      cases hP.symm.trans ex
      obtain ⟨x, ex, k0, -⟩ := sh_f w.1 kP (j := 0) (k := 14) (m := 192) rfl
      cases h0.symm.trans ex
      obtain ⟨u, hu, ku, -⟩ := sh_f w.1 kN (j := 4) (k := 14) (m := 24) rfl
      obtain ⟨g4', gd⟩ := y4 uP x0 u hP h0 hu
      have z6 : I6 x0 = I3 x0 := by rw [f6.2.2.2 uP 4 0 x0 kP h0 (by rw [k0.2]; rfl) rfl (by decide), f5.2.2.2 uP 4 0 x0 kP h0 (by rw [k0.2]; rfl) rfl (by decide), f4.2.2.2 uP 4 0 x0 kP h0 (by rw [k0.2]; rfl) rfl (by decide)]
      have e5 : (I2 uN 5).toInt = r.toInt := by rw [f2.2.2.1 uN 9 5 kN (by decide) (by decide)]; exact p1.2.1 c
      have eu : I2 u = I1 u := f2.2.2.2 uN 9 4 u kN hu (by rw [ku.2]; rfl) rfl (by decide)
      rw [e5, eu] at gd
      refine ⟨by rw [f6.2.2.1 uP 4 4 kP (by decide) (by decide), f5.2.2.1 uP 4 4 kP (by decide) (by decide), f4.2.2.1 uP 4 4 kP (by decide) (by decide)]; exact g4', fun s g hs hg => ?_⟩
      rw [z6, gd s g hs hg]
      by_cases q : (s : Int) < r.toInt
      · have hv := p1.2.2 c 4 u (by omega) hu s q
        by_cases q2 : (g : Int) = (I1 u s).toInt
        · rw [if_pos ⟨⟨hs, q⟩, q2⟩, if_pos ⟨q, q2.trans hv⟩]
        · rw [if_neg (fun h => q2 h.2), if_neg (fun h => q2 (h.2.trans hv.symm))]
      · rw [if_neg (fun h => q h.1.2), if_neg (fun h => q h.1)]
  · have c := (not_congr (i_le (x := 0) (y := r) (show (0 : Int32).toInt = 0 from rfl) rfl)).mp c
    refine hQ r I2 L2 w2 g2 ⟨p2, p1.1, fun h => absurd h c, fun _ => ?_, fun _ b kb => ?_, fun h => absurd h c⟩ ⟨fun h => absurd h c, fun _ j u hj hu => ?_⟩ ⟨fun h => absurd h c, fun _ uP x0 x2 hP h0 h2 => ?_⟩
    · rw [f2.2.2.1 uF 8 9 kF (by decide) (by decide), f1.2.2.1 uF 8 9 kF (by decide) (by decide)]
    · rw [f2.2.2.1 b 2 8 kb (by decide) (by decide), f1.2.2.1 b 2 8 kb (by decide) (by decide)]
    · rw [fk f2 (by decide) j u hj hu, fk f1 (by decide) j u hj hu]
    · obtain ⟨x, ex, kP⟩ := sh_o w.1 kF (j := 4) (k := 4) rfl
      cases hP.symm.trans ex
      obtain ⟨x, ex, k0, -⟩ := sh_f w.1 kP (j := 0) (k := 14) (m := 192) rfl
      cases h0.symm.trans ex
      obtain ⟨x, ex, k2, -⟩ := sh_f w.1 kP (j := 2) (k := 14) (m := 1536) rfl
      cases h2.symm.trans ex
      have pc : PCs Z v0 uF uP x0 x2 := ⟨huF, kF, hP, kP, h0, k0, h2, k2⟩
      have a := EQC_fr f1 pc (by decide)
      have b := EQC_fr f2 pc (by decide)
      exact ⟨b.1.trans a.1, b.2.1.trans a.2.1, b.2.2.1.trans a.2.2.1, b.2.2.2.trans a.2.2.2⟩
end
section
/-! ===== PARTS of both sides ===== -/
/-- of each of n STEPS the PARTS are 720 together, none below 0 -/
def OWP (n : Nat) (P : Nat → Int32) : Prop := ∀ s, s < n → (∀ g, g < 8 → 0 ≤ (P (8 * s + g)).toInt) ∧ shS (fun g => (P (8 * s + g)).toInt) 8 = 720
theorem shS_ge {g : Nat → Int} {n : Nat} (h : ∀ i, i < n → 0 ≤ g i) : ∀ k, k ≤ n → 0 ≤ shS g k ∧ ∀ i, i < k → g i ≤ shS g k := by
  intro k
  induction k with
  | zero => intro _; exact ⟨Int.le_refl 0, fun i hi => absurd hi (Nat.not_lt_zero i)⟩
  | succ k ih =>
    intro hk
    obtain ⟨a, b⟩ := ih (by omega)
    have hg := h k (by omega)
    refine ⟨by show 0 ≤ shS g k + g k; omega, fun i hi => ?_⟩
    show g i ≤ shS g k + g k
    by_cases c : i = k
    · rw [c]; omega
    · have := b i (by omega)
      omega
theorem OWP_le {n : Nat} {P : Nat → Int32} (h : OWP n P) {z : Nat} (hz : z < 8 * n) : 0 ≤ (P z).toInt ∧ (P z).toInt ≤ 720 := by
  obtain ⟨a, b⟩ := h (z / 8) (by omega)
  have c := (shS_ge (g := fun g => (P (8 * (z / 8) + g)).toInt) (n := 8) a 8 (Nat.le_refl 8)).2 (z % 8) (by omega)
  have d := a (z % 8) (by omega)
  rw [b] at c
  have c : (P (8 * (z / 8) + z % 8)).toInt ≤ 720 := c
  rw [show 8 * (z / 8) + z % 8 = z by omega] at c d
  exact ⟨d, c⟩
theorem shS_upd {g : Nat → Int} {a : Nat} {y : Int} : ∀ n, shS (fun i => if i = a then y else g i) n = shS g n + (if a < n then y - g a else 0) := by
  intro n
  induction n with
  | zero =>
    show (0 : Int) = 0 + (if a < 0 then y - g a else 0)
    rw [if_neg (by omega)]
    rfl
  | succ n ih =>
    show shS (fun i => if i = a then y else g i) n + (if n = a then y else g n) = shS g n + g n + (if a < n + 1 then y - g a else 0)
    rw [ih]
    by_cases c : n = a
    · subst c
      rw [if_pos rfl, if_neg (by omega), if_pos (by omega)]
      omega
    · rw [if_neg c]
      by_cases d : a < n
      · rw [if_pos d, if_pos (by omega)]; omega
      · rw [if_neg d, if_neg (by omega)]; omega
theorem OWP_cg {n : Nat} {P P' : Nat → Int32} (h : OWP n P) (e : ∀ z, z < 8 * n → P' z = P z) : OWP n P' := fun s hs => by
  obtain ⟨a, b⟩ := h s hs
  refine ⟨fun g hg => by rw [e _ (by omega)]; exact a g hg, ?_⟩
  rw [← b]
  exact shS_cg 8 (fun i hi => by rw [e _ (by omega)])
/-- a sale within a STEP -/
theorem OWP_mv {n : Nat} {P : Nat → Int32} {s f t : Nat} {x : Int32} (h : OWP n P) (hs : s < n) (hf : f < 8) (ht : t < 8) (hft : f ≠ t) (hx : 0 ≤ x.toInt ∧ x.toInt ≤ (P (8 * s + f)).toInt) : OWP n (mvP P (8 * s + f) (8 * s + t) x) := by
  have lf := OWP_le h (z := 8 * s + f) (by omega)
  have lt := OWP_le h (z := 8 * s + t) (by omega)
  have e1 : (P (8 * s + f) - x).toInt = (P (8 * s + f)).toInt - x.toInt := i_sub rfl rfl (by omega) (by omega)
  have e2 : (P (8 * s + t) + x).toInt = (P (8 * s + t)).toInt + x.toInt := i_add rfl rfl (by omega) (by omega)
  have off : ∀ z, z ≠ 8 * s + f → z ≠ 8 * s + t → mvP P (8 * s + f) (8 * s + t) x z = P z := fun z h1 h2 => by
    unfold mvP
    exact (if_neg h2 : upd _ (8 * s + t) _ z = _).trans (if_neg h1)
  have atf : mvP P (8 * s + f) (8 * s + t) x (8 * s + f) = P (8 * s + f) - x := by
    unfold mvP
    exact (if_neg (by omega) : upd _ (8 * s + t) _ (8 * s + f) = _).trans (if_pos rfl)
  have att : mvP P (8 * s + f) (8 * s + t) x (8 * s + t) = P (8 * s + t) + x := by
    unfold mvP
    refine (if_pos rfl : upd _ (8 * s + t) _ (8 * s + t) = _).trans ?_
    rw [show upd P (8 * s + f) (P (8 * s + f) - x) (8 * s + t) = P (8 * s + t) from if_neg (by omega)]
  intro q hq
  obtain ⟨a, b⟩ := h q hq
  by_cases c : q = s
  · subst c
    refine ⟨fun g hg => ?_, ?_⟩
    · by_cases g1 : g = f
      · rw [g1, atf, e1]; omega
      · by_cases g2 : g = t
        · rw [g2, att, e2]; omega
        · rw [off _ (by omega) (by omega)]; exact a g hg
    · have ef : ∀ g, g < 8 → (mvP P (8 * q + f) (8 * q + t) x (8 * q + g)).toInt = (fun i => if i = t then (P (8 * q + t)).toInt + x.toInt else (fun j => if j = f then (P (8 * q + f)).toInt - x.toInt else (P (8 * q + j)).toInt) i) g := fun g hg => by
        show _ = if g = t then _ else (if g = f then _ else _)
        by_cases g2 : g = t
        · rw [if_pos g2, g2, att, e2]
        · rw [if_neg g2]
          by_cases g1 : g = f
          · rw [if_pos g1, g1, atf, e1]
          · rw [if_neg g1, off _ (by omega) (by omega)]
      rw [shS_cg 8 ef, shS_upd 8, shS_upd 8, if_pos ht, if_pos hf, b]
      show 720 + ((P (8 * q + f)).toInt - x.toInt - (P (8 * q + f)).toInt) + ((P (8 * q + t)).toInt + x.toInt - (if t = f then (P (8 * q + f)).toInt - x.toInt else (P (8 * q + t)).toInt)) = 720
      rw [if_neg (fun e => hft e.symm)]
      omega
  · refine ⟨fun g hg => by rw [off _ (by omega) (by omega)]; exact a g hg, ?_⟩
    rw [← b]
    exact shS_cg 8 (fun i hi => by rw [off _ (by omega) (by omega)])
theorem ARr_mv {R : Int} {P T : Nat → Int32} {a b : Nat} {x : Int32} (h : ARr R P T) (ha : (a : Int) < R) (hb : (b : Int) < R) : ARr R (mvP P a b x) (mvP T a b x) := by
  have h1 : ARr R (upd P a (P a - x)) (upd T a (T a - x)) := by rw [h a ha]; exact ARr_upd h
  unfold mvP
  rw [h1 b hb]
  exact ARr_upd h1
theorem mv_off {P : Nat → Int32} {a b z : Nat} {x : Int32} (h1 : z ≠ a) (h2 : z ≠ b) : mvP P a b x z = P z := by
  unfold mvP
  exact (if_neg h2 : upd _ b _ z = _).trans (if_neg h1)
/-- class and reference: the STEPS there are alike; behind them the class has none; the sums are right -/
def PP (n : Nat) (P T : Nat → Int32) : Prop := ARr (8 * (n : Int)) P T ∧ (∀ z, 8 * n ≤ z → z < 192 → P z = 0) ∧ OWP n T
theorem PP_cg {n : Nat} {P P' T T' : Nat → Int32} (hn : n ≤ 24) (h : PP n P T) (e1 : ∀ z, z < 192 → P' z = P z) (e2 : ∀ z, z < 192 → T' z = T z) : PP n P' T' :=
  ⟨fun s hs => by rw [e1 s (by omega), e2 s (by omega)]; exact h.1 s hs, fun z h1 h2 => by rw [e1 z h2]; exact h.2.1 z h1 h2, OWP_cg h.2.2 (fun z hz => e2 z (by omega))⟩
theorem PP_le {n : Nat} {P T : Nat → Int32} (h : PP n P T) {z : Nat} (hz : z < 192) : 0 ≤ (P z).toInt ∧ (P z).toInt ≤ 720 := by
  by_cases c : z < 8 * n
  · rw [h.1 z (by omega)]; exact OWP_le h.2.2 c
  · rw [h.2.1 z (by omega) hz]; decide
/-- and so the sales -/
def PQ (n : Nat) (P T : Nat → Int32) (m m' : Nat) (H G : Nat → Nat → Int32) : Prop := PP n P T ∧ m = m' ∧ ∀ k, k < m → PP n (H k) (G k)
theorem PQ_re {n m : Nat} {P T : Nat → Int32} {H G H' G' : Nat → Nat → Int32} (hn : n ≤ 24) (hp : PP n P T) (h : ∀ k, k < m → PP n (H k) (G k)) (hm : m ≤ 8) (e1 : ∀ k q, k < reM m → q < 192 → H' k q = reH m H P k q) (e2 : ∀ k q, k < reM m → q < 192 → G' k q = reH m G T k q) : ∀ k, k < reM m → PP n (H' k) (G' k) := by
  intro k hk
  by_cases c : k = reM m - 1
  · refine PP_cg hn hp (fun z hz => ?_) (fun z hz => ?_)
    · rw [e1 k z hk hz]; unfold reH; rw [if_pos c]
    · rw [e2 k z hk hz]; unfold reH; rw [if_pos c]
  · by_cases d : m = 8
    · have hk8 : k + 1 < m := by unfold reM at hk c; rw [if_pos d] at hk c; omega
      refine PP_cg hn (h (k + 1) hk8) (fun z hz => ?_) (fun z hz => ?_)
      · rw [e1 k z hk hz]; unfold reH; rw [if_neg c, if_pos d]
      · rw [e2 k z hk hz]; unfold reH; rw [if_neg c, if_pos d]
    · have hk8 : k < m := by unfold reM at hk c; rw [if_neg d] at hk c; omega
      refine PP_cg hn (h k hk8) (fun z hz => ?_) (fun z hz => ?_)
      · rw [e1 k z hk hz]; unfold reH; rw [if_neg c, if_neg d]
      · rw [e2 k z hk hz]; unfold reH; rw [if_neg c, if_neg d]
theorem PARr_eq {n : Nat} {P T : Nat → Int32} {v1 v2 r q : Int32} (h : PP n P T) (p : PARr (n : Int) P v1 v2 r) (g : PARr (n : Int) T v1 v2 q) : r.toInt = q.toInt := by
  rcases p with ⟨p1, p2⟩ | ⟨p1, p2⟩
  · rcases g with ⟨g1, g2⟩ | ⟨g1, g2⟩
    · have n1 := i_nat (x := v1) rfl p1.1
      have n2 := i_nat (x := v2) rfl p1.2.2.1
      rw [p2, g2, h.1 (8 * v1.toNatClampNeg + v2.toNatClampNeg) (by omega)]
    · exact absurd p1 g1
  · rcases g with ⟨g1, g2⟩ | ⟨g1, g2⟩
    · exact absurd g1 p1
    · rw [p2, g2]
theorem SELr_eq {n m m2 m' m2' : Nat} {P P' T T' : Nat → Int32} {H H' G G' : Nat → Nat → Int32} {v1 v2 v3 v4 v5 r q : Int32} (hn : n ≤ 24) (hm : m ≤ 8) (h : PQ n P T m m2 H G) (p : SELr (n : Int) P P' m m' H H' v1 v2 v3 v4 v5 r) (g : SELr (n : Int) T T' m2 m2' G G' v1 v2 v3 v4 v5 q) : r.toInt = q.toInt ∧ PQ n P' T' m' m2' H' G' := by
  obtain ⟨hp, rfl, hh⟩ := h
  have ei : SELc (n : Int) v1 v2 v3 v4 v5 → P (8 * v1.toNatClampNeg + v2.toNatClampNeg) = T (8 * v1.toNatClampNeg + v2.toNatClampNeg) := fun c => by
    have n1 := i_nat (x := v1) rfl c.1.1
    have n2 := i_nat (x := v2) rfl c.2.1.1
    have c1 := c.1
    have c2 := c.2.1
    exact hp.1 _ (by omega)
  rcases p with ⟨p1, p2, p3, p4, p5, p6⟩ | ⟨p1, p2, p3, p4, p5⟩
  · rcases g with ⟨g1, g2, g3, g4, g5, g6⟩ | ⟨g1, g2, g3, g4, g5⟩
    · have er : r = q := by rw [p2, g2, ei p1]
      subst er
      obtain ⟨a1, a2, a3, a4, a5, a6, a7⟩ := p1
      have n1 := i_nat (x := v1) rfl a1.1
      have n2 := i_nat (x := v2) rfl a2.1
      have n3 := i_nat (x := v3) rfl a3.1
      have lt := OWP_le hp.2.2 (z := 8 * v1.toNatClampNeg + v2.toNatClampNeg) (by omega)
      have mul0 : 0 ≤ (T (8 * v1.toNatClampNeg + v2.toNatClampNeg)).toInt * v4.toInt := Int.mul_nonneg lt.1 (by omega)
      have mul1 : (T (8 * v1.toNatClampNeg + v2.toNatClampNeg)).toInt * v4.toInt ≤ 720 * 9 := Int.mul_le_mul lt.2 (by omega) (by omega) (by omega)
      have tm : (T (8 * v1.toNatClampNeg + v2.toNatClampNeg) * v4).toInt = (T (8 * v1.toNatClampNeg + v2.toNatClampNeg)).toInt * v4.toInt := i_mul rfl rfl (by omega) (by omega)
      have td : r.toInt = (T (8 * v1.toNatClampNeg + v2.toNatClampNeg)).toInt * v4.toInt / v5.toInt := by rw [g2]; exact i_div tm rfl mul0 (by omega)
      have r0 : 0 ≤ r.toInt := by rw [td]; exact Int.ediv_nonneg mul0 (by omega)
      have r1 : r.toInt ≤ (T (8 * v1.toNatClampNeg + v2.toNatClampNeg)).toInt := by
        rw [td]
        exact Int.ediv_le_of_le_mul (by omega) (Int.mul_le_mul_of_nonneg_left (by omega) lt.1)
      refine ⟨rfl, ⟨?_, fun z h1 h2 => ?_, ?_⟩, by rw [p5, g5], fun k hk => ?_⟩
      · rw [p4, g4]; exact ARr_mv hp.1 (by omega) (by omega)
      · rw [p4, mv_off (by omega) (by omega)]; exact hp.2.1 z h1 h2
      · rw [g4]; exact OWP_mv hp.2.2 (by omega) (by omega) (by omega) (by omega) ⟨r0, r1⟩
      · rw [p5] at hk p6
        rw [g5] at g6
        exact PQ_re hn hp hh hm p6 g6 k hk
    · exact absurd ⟨p1, by rw [← ei p1, ← p2]; exact p3⟩ g1
  · rcases g with ⟨g1, g2, g3, g4, g5, g6⟩ | ⟨g1, g2, g3, g4, g5⟩
    · exact absurd ⟨g1, by rw [ei g1, ← g2]; exact g3⟩ p1
    · refine ⟨p2.trans g2.symm, ⟨by rw [p3, g3]; exact hp.1, by rw [p3]; exact hp.2.1, by rw [g3]; exact hp.2.2⟩, by rw [p4, g4], fun k hk => ?_⟩
      exact PP_cg hn (hh k (by omega)) (fun z hz => p5 k z hk hz) (fun z hz => g5 k z (by omega) hz)
theorem UNDr_eq {n m m2 m' m2' : Nat} {P P' T T' : Nat → Int32} {H H' G G' : Nat → Nat → Int32} {r q : Int32} (hn : n ≤ 24) (h : PQ n P T m m2 H G) (p : UNDr P P' m m' H H' r) (g : UNDr T T' m2 m2' G G' q) : r.toInt = q.toInt ∧ PQ n P' T' m' m2' H' G' := by
  obtain ⟨hp, rfl, hh⟩ := h
  rcases p with ⟨p1, p2, p3, p4, p5⟩ | ⟨p1, p2, p3, p4, p5⟩
  · rcases g with ⟨g1, g2, g3, g4, g5⟩ | ⟨g1, g2, g3, g4, g5⟩
    · exact ⟨p2.trans g2.symm, ⟨by rw [p3, g3]; exact hp.1, by rw [p3]; exact hp.2.1, by rw [g3]; exact hp.2.2⟩, by rw [p4, g4], fun k hk => PP_cg hn (hh k (by omega)) (fun z hz => p5 k z hk hz) (fun z hz => g5 k z (by omega) hz)⟩
    · omega
  · rcases g with ⟨g1, g2, g3, g4, g5⟩ | ⟨g1, g2, g3, g4, g5⟩
    · omega
    · exact ⟨p2.trans g2.symm, PP_cg hn (hh (m - 1) (by omega)) p4 g4, by rw [p3, g3], fun k hk => PP_cg hn (hh k (by omega)) (fun z hz => p5 k z hk hz) (fun z hz => g5 k z (by omega) hz)⟩
/-! ===== a death on both sides; what is kept of PARTS ===== -/
theorem shS_tail {g : Nat → Int} {n : Nat} : ∀ k, (∀ i, n ≤ i → i < n + k → g i = 0) → shS g (n + k) = shS g n := by
  intro k
  induction k with
  | zero => intro _; rfl
  | succ k ih =>
    intro h
    show shS g (n + k) + g (n + k) = shS g n
    rw [ih (fun i h1 h2 => h i h1 (by omega)), h (n + k) (by omega) (by omega)]
    omega
theorem inhC_cg {v : Int32} {B f : Nat} {q : Int32} {rem R : Int} {P T : Nat → Int32} (h : ARr R P T) (hf : f < 8) (hR : (B : Int) + 8 ≤ R) : ∀ k, k ≤ 8 → ARr R (inhC v B f q rem P k) (inhC v B f q rem T k) := by
  intro k
  induction k with
  | zero => intro _; exact h
  | succ k ih =>
    intro hk
    show ARr R (if hbt v k = true then _ else _) (if hbt v k = true then _ else _)
    by_cases c : hbt v k = true
    · rw [if_pos c, if_pos c]; exact ARr_mv (ih (by omega)) (by omega) (by omega)
    · rw [if_neg c, if_neg c]; exact ih (by omega)
theorem diC_cg {v : Int32} {f : Nat} {R : Int} {P T : Nat → Int32} (h : ARr R P T) (hf : f < 8) : ∀ s : Nat, 8 * (s : Int) ≤ R → ARr R (diC v f P s) (diC v f T s) := by
  intro s
  induction s with
  | zero => intro _; exact h
  | succ s ih =>
    intro hR
    have i := ih (by omega)
    show ARr R (inhC v (8 * s) f (diC v f P s (8 * s + f) / bcV v) ((diC v f P s (8 * s + f)).toInt % (bcV v).toInt) (diC v f P s) 8) (inhC v (8 * s) f (diC v f T s (8 * s + f) / bcV v) ((diC v f T s (8 * s + f)).toInt % (bcV v).toInt) (diC v f T s) 8)
    rw [i (8 * s + f) (by omega)]
    exact inhC_cg i hf (by omega) 8 (Nat.le_refl 8)
theorem inh_ok {v : Int32} {n s f : Nat} {P : Nat → Int32} (h : OWP n P) (hs : s < n) (hf : f < 8) (hv : 1 ≤ v.toInt ∧ v.toInt ≤ 255) (hb : hbt v f = false) : OWP n (inhC v (8 * s) f (P (8 * s + f) / bcV v) ((P (8 * s + f)).toInt % (bcV v).toInt) P 8) := by
  have ho := OWP_le h (z := 8 * s + f) (by omega)
  have bc := bc_rg hv.1 hv.2
  have hq : (P (8 * s + f) / bcV v).toInt = (P (8 * s + f)).toInt / (bcV v).toInt := i_div rfl rfl ho.1 bc.1
  have m0 := Int.emod_nonneg (P (8 * s + f)).toInt (show (bcV v).toInt ≠ 0 by omega)
  have m1 := Int.emod_lt_of_pos (P (8 * s + f)).toInt bc.1
  have q0 : 0 ≤ (P (8 * s + f)).toInt / (bcV v).toInt := Int.ediv_nonneg ho.1 (by omega)
  have hdm := Int.mul_ediv_add_emod (P (8 * s + f)).toInt (bcV v).toInt
  generalize hQ : (P (8 * s + f)).toInt / (bcV v).toInt = QQ at hq q0 hdm
  generalize hR : (P (8 * s + f)).toInt % (bcV v).toInt = RR at m0 m1 hdm
  generalize hq' : P (8 * s + f) / bcV v = qq at hq
  have total : tk v QQ RR 8 = (P (8 * s + f)).toInt := by
    rw [tk_eq v QQ RR m0 8, ← bc_cnt hv.1 hv.2]
    generalize hT : (bcV v).toInt * QQ = T at hdm
    omega
  have key : ∀ k, k ≤ 8 → OWP n (inhC v (8 * s) f qq RR P k) ∧ (inhC v (8 * s) f qq RR P k (8 * s + f)).toInt = (P (8 * s + f)).toInt - tk v QQ RR k := by
    intro k
    induction k with
    | zero =>
      intro _
      refine ⟨h, ?_⟩
      show (P (8 * s + f)).toInt = (P (8 * s + f)).toInt - 0
      omega
    | succ k ih =>
      intro hk
      obtain ⟨i1, i3⟩ := ih (by omega)
      have tm := tk_mono v QQ RR q0 (k + 1) (8 - (k + 1))
      rw [show k + 1 + (8 - (k + 1)) = 8 by omega, total] at tm
      have t0 := (tk_le v QQ RR q0 k).1
      by_cases c : hbt v k = true
      · have hkf : f ≠ k := fun e => by
          rw [← e, hb] at c
          exact absurd c (by decide)
        have c1 : inhC v (8 * s) f qq RR P (k + 1) = mvP (inhC v (8 * s) f qq RR P k) (8 * s + f) (8 * s + k) (qq + od1 v RR k) := by show (if _ then _ else _) = _; rw [if_pos c]
        have tS : tk v QQ RR (k + 1) = tk v QQ RR k + (QQ + (if (cnt v k : Int) < RR then 1 else 0)) := by show _ + (if _ then _ else _) = _; rw [if_pos c]
        have ox : (od1 v RR k).toInt = (if (cnt v k : Int) < RR then 1 else 0) := by unfold od1; split <;> rfl
        have ob : 0 ≤ (if (cnt v k : Int) < RR then (1 : Int) else 0) ∧ (if (cnt v k : Int) < RR then (1 : Int) else 0) ≤ 1 := by split <;> omega
        have hx : (qq + od1 v RR k).toInt = QQ + (if (cnt v k : Int) < RR then 1 else 0) := i_add hq ox (by omega) (by omega)
        rw [c1]
        refine ⟨OWP_mv i1 hs hf (by omega) hkf (by omega), ?_⟩
        unfold mvP
        rw [show upd (upd (inhC v (8 * s) f qq RR P k) (8 * s + f) (inhC v (8 * s) f qq RR P k (8 * s + f) - (qq + od1 v RR k))) (8 * s + k) (upd (inhC v (8 * s) f qq RR P k) (8 * s + f) (inhC v (8 * s) f qq RR P k (8 * s + f) - (qq + od1 v RR k)) (8 * s + k) + (qq + od1 v RR k)) (8 * s + f) = inhC v (8 * s) f qq RR P k (8 * s + f) - (qq + od1 v RR k) from (if_neg (by omega)).trans (if_pos rfl)]
        rw [i_sub i3 hx (by omega) (by omega)]
        omega
      · have c1 : inhC v (8 * s) f qq RR P (k + 1) = inhC v (8 * s) f qq RR P k := by show (if _ then _ else _) = _; rw [if_neg c]
        have tS : tk v QQ RR (k + 1) = tk v QQ RR k := by show _ + (if _ then _ else _) = _; rw [if_neg c]; omega
        rw [c1, tS]
        exact ⟨i1, i3⟩
  exact (key 8 (Nat.le_refl 8)).1
theorem di_ok {v : Int32} {n f : Nat} {P : Nat → Int32} (h : OWP n P) (hf : f < 8) (hv : 1 ≤ v.toInt ∧ v.toInt ≤ 255) (hb : hbt v f = false) : ∀ s, s ≤ n → OWP n (diC v f P s) := by
  intro s
  induction s with
  | zero => intro _; exact h
  | succ s ih =>
    intro hs
    exact inh_ok (ih (by omega)) (by omega) hf hv hb
theorem upd_id {P : Nat → Int32} {i : Nat} {x : Int32} (h : P i = x) : upd P i x = P := by
  funext z
  by_cases c : z = i
  · rw [c]; exact (if_pos rfl : upd P i x i = x).trans h.symm
  · exact if_neg c
theorem diM_zero {v : Int32} {f : Nat} {P : Nat → Int32} (hv : 1 ≤ v.toInt ∧ v.toInt ≤ 255) : ∀ n, (∀ s, s < n → P (8 * s + f) = 0) → diM v f P n = P := by
  have bc := bc_rg hv.1 hv.2
  have d0 : (0 : Int32) / bcV v = 0 := (i_eq (i_div (show (0 : Int32).toInt = 0 from rfl) rfl (by omega) bc.1) (show (0 : Int32).toInt = 0 from rfl)).mpr (Int.zero_ediv _)
  have im : ∀ (B : Nat) (T : Nat → Int32) k, inhM v B 0 0 T k = T := by
    intro B T k
    induction k with
    | zero => rfl
    | succ k ih =>
      show (if hbt v k = true then _ else _) = T
      split
      · rw [ih]
        refine upd_id ?_
        have : od1 v 0 k = 0 := by unfold od1; rw [if_neg (by omega)]
        rw [this]
        refine (i_eq rfl rfl).mpr ?_
        rw [show (0 : Int32) + 0 = 0 from rfl]
        have := i_rng (T (B + k))
        rw [i_add (x := T (B + k)) rfl (show (0 : Int32).toInt = 0 from rfl) (by omega) (by omega)]
        omega
      · exact ih
  intro n
  induction n with
  | zero => intro _; rfl
  | succ n ih =>
    intro h
    have e := ih (fun s hs => h s (by omega))
    show inhM v (8 * n) (diM v f P n (8 * n + f) / bcV v) ((diM v f P n (8 * n + f)).toInt % (bcV v).toInt) (upd (diM v f P n) (8 * n + f) 0) 8 = P
    rw [e, h n (by omega), d0, show (0 : Int32).toInt % (bcV v).toInt = 0 from Int.zero_emod _, im, upd_id (h n (by omega))]
theorem DIE_eq {n m m2 m' m2' : Nat} {P P' T T' : Nat → Int32} {H H' G G' : Nat → Nat → Int32} {v1 v2 r q : Int32} (hn : n ≤ 24) (hm : m ≤ 8) (h : PQ n P T m m2 H G) (p : DICr n P P' m m' H H' v1 v2 r) (g : DIMr n T T' m2 m2' G G' v1 v2 q) : r.toInt = q.toInt ∧ PQ n P' T' m' m2' H' G' := by
  obtain ⟨hp, rfl, hh⟩ := h
  rcases p with ⟨p1, p2, p3, p4, p5⟩ | ⟨p1, p2, p3⟩
  · rcases g with ⟨g1, g2, g3, g4, g5⟩ | ⟨g1, -⟩
    · exact ⟨p2.trans g2.symm, ⟨by rw [p3, g3]; exact hp.1, by rw [p3]; exact hp.2.1, by rw [g3]; exact hp.2.2⟩, by rw [p4, g4], fun k hk => PP_cg hn (hh k (by omega)) (fun z hz => p5 k z hk hz) (fun z hz => g5 k z (by omega) hz)⟩
    · exact absurd g1 p1
  · rcases g with ⟨g1, -⟩ | ⟨-, g2, g3, g4⟩
    · exact absurd p1 g1
    · obtain ⟨a1, a2, a3⟩ := p1
      have n1 := i_nat (x := v1) rfl a1.1
      have hf : v1.toNatClampNeg < 8 := by omega
      have er : r.toInt = q.toInt := by
        rw [p2, g2]
        have e1 := shS_tail (g := fun s => (P (8 * s + v1.toNatClampNeg)).toInt) (n := n) (24 - n) (fun i h1 h2 => by
          show (P (8 * i + v1.toNatClampNeg)).toInt = 0
          rw [hp.2.1 (8 * i + v1.toNatClampNeg) (by omega) (by omega)]
          rfl)
        rw [show n + (24 - n) = 24 by omega] at e1
        rw [e1]
        exact shS_cg n (fun i hi => by rw [hp.1 (8 * i + v1.toNatClampNeg) (by omega)])
      have ow : ∀ s, s < n → 0 ≤ (T (8 * s + v1.toNatClampNeg)).toInt ∧ (T (8 * s + v1.toNatClampNeg)).toInt ≤ 720 := fun s hs => OWP_le hp.2.2 (by omega)
      refine ⟨er, ?_⟩
      rcases p3 with ⟨b1, b2, b3, b4⟩ | ⟨b1, b2, b3, b4⟩
      · rcases g4 with ⟨c1, c2, c3⟩ | ⟨c1, -⟩
        · have z : ∀ s, s < n → T (8 * s + v1.toNatClampNeg) = 0 := fun s hs => by
            have h1 := (shS_ge (g := fun s => (T (8 * s + v1.toNatClampNeg)).toInt) (n := n) (fun i hi => (ow i hi).1) n (Nat.le_refl n)).2 s hs
            have h1 : (T (8 * s + v1.toNatClampNeg)).toInt ≤ shS (fun s => (T (8 * s + v1.toNatClampNeg)).toInt) n := h1
            have h2 := (ow s hs).1
            exact (i_eq rfl (show (0 : Int32).toInt = 0 from rfl)).mpr (by omega)
          rw [diM_zero a2 n z] at g3
          exact ⟨⟨by rw [b2, g3]; exact hp.1, by rw [b2]; exact hp.2.1, by rw [g3]; exact hp.2.2⟩, by rw [b3, c2], fun k hk => PP_cg hn (hh k (by omega)) (fun z hz => b4 k z hk hz) (fun z hz => c3 k z (by omega) hz)⟩
        · omega
      · rcases g4 with ⟨c1, -⟩ | ⟨c1, c2, c3⟩
        · omega
        · rw [← di_eq hf a2 a3 n ow] at g3
          refine ⟨⟨?_, fun z h1 h2 => ?_, ?_⟩, by rw [b3, c2], fun k hk => ?_⟩
          · rw [b2, g3]; exact diC_cg hp.1 hf n (by omega)
          · rw [b2, diC_off hf n z h1]; exact hp.2.1 z h1 h2
          · rw [g3]; exact di_ok hp.2.2 hf a2 a3 n (Nat.le_refl n)
          · rw [b3] at hk b4
            rw [c2] at c3
            exact PQ_re hn hp hh hm b4 c3 k hk
/-- what is kept of PARTS -/
def KP2 (Z : jZ) (I : jI) (uS u62 n : Nat) : Prop := ∀ i b a, i < 2 → jr Z uS i = some b → ¬ I b 8 = 0 → jr Z b 2 = some a → PP n (I a) (fun q => I u62 (266 * i + 48 + q))
theorem KP2_fr {W : List (Nat × Nat)} {Z Z' : jZ} {I I' : jI} {uS v2 u62 n : Nat} (f : FR W Z I Z' I') (sh : SH Z) (kS : jk Z uS 17) (lS : jlen Z uS = 2) (k2 : jk Z v2 12) (h62 : jr Z v2 62 = some u62) (k62 : jk Z u62 14) (n1 : (2, 8) ∉ W) (n2 : (2, 2) ∉ W) (n3 : (12, 62) ∉ W) (h : KP2 Z I uS u62 n) : KP2 Z' I' uS u62 n := by
  intro i b a hi hb hh ha
  rw [f.2.1 uS 17 i kS (by omega) (by omega)] at hb
  obtain ⟨y, ey, kb⟩ := sh.2.2.1 uS kS i (by rw [lS]; exact hi)
  cases hb.symm.trans ey
  rw [f.2.1 b 2 2 kb (by omega) (by omega)] at ha
  obtain ⟨x, ex, ka, -⟩ := sh_f sh kb (j := 2) (k := 14) (m := 192) rfl
  cases ha.symm.trans ex
  rw [f.2.2.1 b 2 8 kb (by decide) n1] at hh
  rw [f.2.2.2 b 2 2 a kb ha (by rw [ka.2]; rfl) rfl n2, f.2.2.2 v2 12 62 u62 k2 h62 (by rw [k62.2]; rfl) rfl n3]
  exact h i b a hi hb hh ha
theorem KP2_frp {Z Z' : jZ} {I I' : jI} {uS u62 n : Nat} (f : FRp Z I Z' I') (sh : SH Z) (kS : jk Z uS 17) (lS : jlen Z uS = 2) (k62 : jk Z u62 14) (h : KP2 Z I uS u62 n) : KP2 Z' I' uS u62 n := by
  intro i b a hi hb hh ha
  rw [f.1 uS 17 i kS (by decide)] at hb
  obtain ⟨y, ey, kb⟩ := sh.2.2.1 uS kS i (by rw [lS]; exact hi)
  cases hb.symm.trans ey
  rw [f.1 b 2 2 kb (by decide)] at ha
  obtain ⟨x, ex, ka, -⟩ := sh_f sh kb (j := 2) (k := 14) (m := 192) rfl
  cases ha.symm.trans ex
  rw [f.2 b 2 8 kb (by decide)] at hh
  rw [show I' a = I a from funext fun i => f.2 a 14 i ka (by omega), show I' u62 = I u62 from funext fun i => f.2 u62 14 i k62 (by omega)]
  exact h i b a hi hb hh ha
theorem KP2_stairs {Z Z2 : jZ} {I0 I1 I2 : jI} {uS v2 u62 n m : Nat} {r1 r2 : Int} (f1 : FR Ws_X11_stairs Z I0 Z I1) (f2 : FR Ws_X12_stairs Z I1 Z2 I2) (sh : SH Z) (kS : jk Z uS 17) (lS : jlen Z uS = 2) (k2 : jk Z v2 12) (h62 : jr Z v2 62 = some u62) (k62 : jk Z u62 14) (er : r1 = r2)
    (p1 : (r1 < 0 → ∀ b, jk Z b 2 → I1 b 8 = I0 b 8) ∧ (0 ≤ r1 → ∀ i b, i < 2 → jr Z uS i = some b → I1 b 8 = 0)) (em : r2 < 0 → m = n) (h : KP2 Z I0 uS u62 n) : KP2 Z2 I2 uS u62 m := by
  intro i b a hi hb hh ha
  rw [f2.2.1 uS 17 i kS (by omega) (by omega)] at hb
  obtain ⟨y, ey, kb⟩ := sh.2.2.1 uS kS i (by rw [lS]; exact hi)
  cases hb.symm.trans ey
  rw [f2.2.1 b 2 2 kb (by omega) (by omega)] at ha
  obtain ⟨x, ex, ka, -⟩ := sh_f sh kb (j := 2) (k := 14) (m := 192) rfl
  cases ha.symm.trans ex
  rw [f2.2.2.1 b 2 8 kb (by decide) (by decide)] at hh
  by_cases c : 0 ≤ r1
  · exact absurd (p1.2 c i b hi hb) hh
  · rw [p1.1 (by omega) b kb] at hh
    rw [f2.2.2.2 b 2 2 a kb ha (by rw [ka.2]; rfl) rfl (by decide), f1.2.2.2 b 2 2 a kb ha (by rw [ka.2]; rfl) rfl (by decide), f2.2.2.2 v2 12 62 u62 k2 h62 (by rw [k62.2]; rfl) rfl (by decide), f1.2.2.2 v2 12 62 u62 k2 h62 (by rw [k62.2]; rfl) rfl (by decide), em (by omega)]
    exact h i b a hi hb hh ha
end
section
/-! ===== PARTS of both sides, over all calls ===== -/
def PR (I : jI) (uP x0 x2 v2 u5 u53 : Nat) : Prop := PQ (I v2 0).toInt.toNat (I x0) (I u5) (I uP 4).toInt.toNat (I v2 52).toInt.toNat (HC I uP x2 (I uP 3).toInt) (HM I u53)
def EQM (I I' : jI) (v2 u5 u53 : Nat) : Prop := I' u5 = I u5 ∧ I' v2 52 = I v2 52 ∧ I' u53 = I u53 ∧ I' v2 0 = I v2 0
theorem EQM_fr {W : List (Nat × Nat)} {Z Z' : jZ} {I I' : jI} {v2 u5 u53 u54 : Nat} (f : FR W Z I Z' I') (k : jk Z v2 12) (pm : PMs Z v2 u5 u53 u54) (n : (12, 5) ∉ W ∧ (12, 52) ∉ W ∧ (12, 53) ∉ W ∧ (12, 0) ∉ W) : EQM I I' v2 u5 u53 := by
  obtain ⟨h5, k5, h53, k53, -⟩ := pm
  exact ⟨f.2.2.2 v2 12 5 u5 k h5 (by rw [k5.2]; rfl) rfl n.1, f.2.2.1 v2 12 52 k (by decide) n.2.1, f.2.2.2 v2 12 53 u53 k h53 (by rw [k53.2]; rfl) rfl n.2.2.1, f.2.2.1 v2 12 0 k (by decide) n.2.2.2⟩
theorem EQC_frp {Z Z' : jZ} {I I' : jI} {v0 uF uP x0 x2 : Nat} (f : FRp Z I Z' I') (pc : PCs Z v0 uF uP x0 x2) : EQC I I' uP x0 x2 := by
  obtain ⟨huF, kF, huP, kP, h0, k0, h2, k2⟩ := pc
  exact ⟨funext fun i => f.2 x0 14 i k0 (by omega), f.2 uP 4 4 kP (by omega), f.2 uP 4 3 kP (by omega), funext fun i => f.2 x2 14 i k2 (by omega)⟩
theorem EQM_frp {Z Z' : jZ} {I I' : jI} {v2 u5 u53 u54 : Nat} (f : FRp Z I Z' I') (k : jk Z v2 12) (pm : PMs Z v2 u5 u53 u54) : EQM I I' v2 u5 u53 := by
  obtain ⟨h5, k5, h53, k53, -⟩ := pm
  exact ⟨funext fun i => f.2 u5 14 i k5 (by omega), f.2 v2 12 52 k (by omega), funext fun i => f.2 u53 14 i k53 (by omega), f.2 v2 12 0 k (by omega)⟩
theorem PCs_x {Z Z' : jZ} {v0 uF uP x0 x2 : Nat} (x : jext Z Z') (r : ∀ a c j, jk Z a c → (c = 11 ∨ c = 8 ∨ c = 4) → jr Z' a j = jr Z a j) (k0 : jk Z v0 11) (pc : PCs Z v0 uF uP x0 x2) : PCs Z' v0 uF uP x0 x2 := by
  obtain ⟨a, b, c, d, e, f, g, h⟩ := pc
  exact ⟨(r v0 11 2 k0 (by omega)).trans a, (x _ _ b).1, (r uF 8 4 b (by omega)).trans c, (x _ _ d).1, (r uP 4 0 d (by omega)).trans e, (x _ _ f).1, (r uP 4 2 d (by omega)).trans g, (x _ _ h).1⟩
theorem PMs_x {Z Z' : jZ} {v0 u5 u53 u54 : Nat} (x : jext Z Z') (r : ∀ j, j ≠ 23 → jr Z' v0 j = jr Z v0 j) (pm : PMs Z v0 u5 u53 u54) : PMs Z' v0 u5 u53 u54 := by
  obtain ⟨a, b, c, d, e, f⟩ := pm
  exact ⟨(r 5 (by decide)).trans a, (x _ _ b).1, (r 53 (by decide)).trans c, (x _ _ d).1, (r 54 (by decide)).trans e, (x _ _ f).1⟩
theorem PR_same {I I' : jI} {uP x0 x2 v2 u5 u53 : Nat} (c : EQC I I' uP x0 x2) (m : EQM I I' v2 u5 u53) (h : PR I uP x0 x2 v2 u5 u53) : PR I' uP x0 x2 v2 u5 u53 := by
  obtain ⟨c1, c2, c3, c4⟩ := c
  obtain ⟨m1, m2, m3, m4⟩ := m
  unfold PR HC HM at *
  rw [c1, c2, c3, c4, m1, m2, m3, m4]
  exact h
/-- the class first, then the reference -/
theorem PR_mk {I1 I2 : jI} {uP x0 x2 v2 u5 u53 n : Nat} (en : (I2 v2 0).toInt.toNat = n) (c : EQC I1 I2 uP x0 x2) (h : PQ n (I1 x0) (I2 u5) (I1 uP 4).toInt.toNat (I2 v2 52).toInt.toNat (HC I1 uP x2 (I1 uP 3).toInt) (HM I2 u53)) : PR I2 uP x0 x2 v2 u5 u53 := by
  obtain ⟨c1, c2, c3, c4⟩ := c
  unfold PR HC at *
  rw [en, c1, c2, c3, c4]
  exact h
theorem PR_sells {I0 I1 I2 : jI} {uF uP x0 x2 v2 u5 u53 : Nat} {a b c d e r1 r2 : Int32} (h0 : 0 ≤ (I0 v2 0).toInt ∧ (I0 v2 0).toInt ≤ 24) (h4 : (I0 uP 4).toInt ≤ 8) (en : (I0 uF 9).toInt = (I0 v2 0).toInt) (qm : EQM I0 I1 v2 u5 u53) (qc : EQC I1 I2 uP x0 x2) (e2 : I2 v2 0 = I1 v2 0)
    (p1 : SELr (I0 uF 9).toInt (I0 x0) (I1 x0) (I0 uP 4).toInt.toNat (I1 uP 4).toInt.toNat (HC I0 uP x2 (I0 uP 3).toInt) (HC I1 uP x2 (I1 uP 3).toInt) a b c d e r1) (p2 : SELr (I1 v2 0).toInt (I1 u5) (I2 u5) (I1 v2 52).toInt.toNat (I2 v2 52).toInt.toNat (HM I1 u53) (HM I2 u53) a b c d e r2) (h : PR I0 uP x0 x2 v2 u5 u53) : r1.toInt = r2.toInt ∧ PR I2 uP x0 x2 v2 u5 u53 := by
  obtain ⟨m1, m2, m3, m4⟩ := qm
  have eH : HM I1 u53 = HM I0 u53 := by unfold HM; rw [m3]
  rw [m1, m2, m4, eH] at p2
  rw [en] at p1
  obtain ⟨n, hn⟩ : ∃ n : Nat, (I0 v2 0).toInt = (n : Int) := ⟨(I0 v2 0).toInt.toNat, by omega⟩
  unfold PR at h
  rw [hn] at p1 p2 h
  rw [Int.toNat_natCast] at h
  obtain ⟨r, q⟩ := SELr_eq (by omega) (by omega) h p1 p2
  exact ⟨r, PR_mk (by rw [e2, m4, hn]; exact Int.toNat_natCast n) qc q⟩
theorem PR_undo {I0 I1 I2 : jI} {uP x0 x2 v2 u5 u53 : Nat} {r1 r2 : Int32} (h0 : 0 ≤ (I0 v2 0).toInt ∧ (I0 v2 0).toInt ≤ 24) (qm : EQM I0 I1 v2 u5 u53) (qc : EQC I1 I2 uP x0 x2) (e2 : I2 v2 0 = I1 v2 0)
    (p1 : UNDr (I0 x0) (I1 x0) (I0 uP 4).toInt.toNat (I1 uP 4).toInt.toNat (HC I0 uP x2 (I0 uP 3).toInt) (HC I1 uP x2 (I1 uP 3).toInt) r1) (p2 : UNDr (I1 u5) (I2 u5) (I1 v2 52).toInt.toNat (I2 v2 52).toInt.toNat (HM I1 u53) (HM I2 u53) r2) (h : PR I0 uP x0 x2 v2 u5 u53) : r1.toInt = r2.toInt ∧ PR I2 uP x0 x2 v2 u5 u53 := by
  obtain ⟨m1, m2, m3, m4⟩ := qm
  have eH : HM I1 u53 = HM I0 u53 := by unfold HM; rw [m3]
  rw [m1, m2, eH] at p2
  obtain ⟨n, hn⟩ : ∃ n : Nat, (I0 v2 0).toInt = (n : Int) := ⟨(I0 v2 0).toInt.toNat, by omega⟩
  unfold PR at h
  rw [hn, Int.toNat_natCast] at h
  obtain ⟨r, q⟩ := UNDr_eq (by omega) h p1 p2
  exact ⟨r, PR_mk (by rw [e2, m4, hn]; exact Int.toNat_natCast n) qc q⟩
theorem PR_dies {I0 I1 I2 : jI} {uP x0 x2 v2 u5 u53 n : Nat} {a b r1 r2 : Int32} (hn : (I0 v2 0).toInt = (n : Int)) (n24 : n ≤ 24) (h4 : (I0 uP 4).toInt ≤ 8) (qm : EQM I0 I1 v2 u5 u53) (qc : EQC I1 I2 uP x0 x2) (e2 : I2 v2 0 = I1 v2 0)
    (p1 : DICr n (I0 x0) (I1 x0) (I0 uP 4).toInt.toNat (I1 uP 4).toInt.toNat (HC I0 uP x2 (I0 uP 3).toInt) (HC I1 uP x2 (I1 uP 3).toInt) a b r1) (p2 : DIMr n (I1 u5) (I2 u5) (I1 v2 52).toInt.toNat (I2 v2 52).toInt.toNat (HM I1 u53) (HM I2 u53) a b r2) (h : PR I0 uP x0 x2 v2 u5 u53) : r1.toInt = r2.toInt ∧ PR I2 uP x0 x2 v2 u5 u53 := by
  obtain ⟨m1, m2, m3, m4⟩ := qm
  have eH : HM I1 u53 = HM I0 u53 := by unfold HM; rw [m3]
  rw [m1, m2, eH] at p2
  unfold PR at h
  rw [hn, Int.toNat_natCast] at h
  obtain ⟨r, q⟩ := DIE_eq n24 (by omega) h p1 p2
  exact ⟨r, PR_mk (by rw [e2, m4, hn]; exact Int.toNat_natCast n) qc q⟩
theorem PR_parts {I0 I1 : jI} {uF uP x0 x2 v2 u5 u53 : Nat} {a b r1 r2 : Int32} (h0 : 0 ≤ (I0 v2 0).toInt ∧ (I0 v2 0).toInt ≤ 24) (en : (I0 uF 9).toInt = (I0 v2 0).toInt) (p1 : PARr (I0 uF 9).toInt (I0 x0) a b r1) (p2 : PARr (I0 v2 0).toInt (I0 u5) a b r2) (h : PR I0 uP x0 x2 v2 u5 u53) : r1.toInt = r2.toInt := by
  obtain ⟨n, hn⟩ : ∃ n : Nat, (I0 v2 0).toInt = (n : Int) := ⟨(I0 v2 0).toInt.toNat, by omega⟩
  unfold PR at h
  rw [hn, Int.toNat_natCast] at h
  rw [en, hn] at p1
  rw [hn] at p2
  exact PARr_eq h.1 p1 p2
theorem KP2_keep {Z : jZ} {I0 I1 I2 : jI} {v1 v2 uS uF uP x0 x2 u5 u53 u54 u62 uK uC n : Nat} {v : Int32} {r1 r2 : Int} (w : WD Z I0) (f1 : FR Ws_X11_keep Z I0 Z I1) (f2 : FR Ws_X12_keep Z I1 Z I2) (k1 : jk Z v1 11) (kS : jk Z uS 17) (lS : jlen Z uS = 2) (k2 : jk Z v2 12) (h62 : jr Z v2 62 = some u62) (k62 : jk Z u62 14) (pc : PCs Z v1 uF uP x0 x2) (pm : PMs Z v2 u5 u53 u54) (n24 : n ≤ 24)
    (p1 : KP11 Z uS v r1 I0 I1) (q1 : KBC Z v1 uS v r1 I0 I1) (p2 : KP12 v2 uK uC v r2 I1 I2) (q2 : KPM Z v2 v r2 I1 I2) (hs : PP n (I0 x0) (I0 u5)) (h : KP2 Z I0 uS u62 n) : KP2 Z I2 uS u62 n := by
  obtain ⟨hF, kF, hP, kP, hx0, kx0, -⟩ := pc
  obtain ⟨h5, k5, -⟩ := pm
  intro i b a hi hb hh ha
  obtain ⟨y, ey, kb⟩ := w.1.2.2.1 uS kS i (by rw [lS]; exact hi)
  cases hb.symm.trans ey
  obtain ⟨x, ex, ka, -⟩ := sh_f w.1 kb (j := 2) (k := 14) (m := 192) rfl
  cases ha.symm.trans ex
  obtain ⟨a0, ha0, -⟩ := sh_f w.1 kb (j := 0) (k := 14) (m := 24) rfl
  obtain ⟨a1, ha1, -⟩ := sh_f w.1 kb (j := 1) (k := 14) (m := 24) rfl
  obtain ⟨a3, ha3, -⟩ := sh_f w.1 kb (j := 3) (k := 14) (m := 8) rfl
  obtain ⟨y1, hy1, -⟩ := sh_f w.1 kF (j := 1) (k := 14) (m := 24) rfl
  obtain ⟨y2, hy2, -⟩ := sh_f w.1 kF (j := 2) (k := 14) (m := 24) rfl
  obtain ⟨y5, hy5, -⟩ := sh_f w.1 k1 (j := 5) (k := 14) (m := 8) rfl
  have g1 := q1 uF uP x0 y1 y2 y5 hF hP hx0 hy1 hy2 hy5 i b a0 a1 a a3 hi hb ha0 ha1 ha ha3
  obtain ⟨u65, h65, -⟩ := sh_f w.1 k2 (j := 65) (k := 14) (m := 2) rfl
  obtain ⟨u2, h2, -⟩ := sh_f w.1 k2 (j := 2) (k := 14) (m := 24) rfl
  obtain ⟨u3, h3, -⟩ := sh_f w.1 k2 (j := 3) (k := 14) (m := 24) rfl
  obtain ⟨u14, h14, -⟩ := sh_f w.1 k2 (j := 14) (k := 14) (m := 6) rfl
  obtain ⟨u15, h15, -⟩ := sh_f w.1 k2 (j := 15) (k := 14) (m := 6) rfl
  obtain ⟨u16, h16, -⟩ := sh_f w.1 k2 (j := 16) (k := 14) (m := 6) rfl
  obtain ⟨u17, h17, -⟩ := sh_f w.1 k2 (j := 17) (k := 14) (m := 8) rfl
  have g2 := q2 u62 u65 u2 u3 u5 u14 u15 u16 u17 h62 h65 h2 h3 h5 h14 h15 h16 h17
  have e5 : I1 u5 = I0 u5 := f1.2.2.2 v2 12 5 u5 k2 h5 (by rw [k5.2]; rfl) rfl (by decide)
  have eK : I1 u62 = I0 u62 := f1.2.2.2 v2 12 62 u62 k2 h62 (by rw [k62.2]; rfl) rfl (by decide)
  have ea : I2 a = I1 a := f2.2.2.2 b 2 2 a kb ha (by rw [ka.2]; rfl) rfl (by decide)
  rw [f2.2.2.1 b 2 8 kb (by decide) (by decide)] at hh
  rw [ea]
  rcases p1 with ⟨hr, hv, z1⟩ | ⟨hr, hv, z1⟩
  · have hr2 : r2 = 1 := by
      rcases p2 with ⟨h9, -⟩ | ⟨-, h9, -⟩
      · exact h9
      · exact absurd hv h9
    obtain ⟨k1', k2', -, -⟩ := g2.1 hr2
    have n1 := i_nat (x := v) rfl hv.1
    by_cases c : i = v.toNatClampNeg
    · refine PP_cg n24 hs (fun z hz => (g1.1 ⟨hr, c⟩).2.2.1 z hz) (fun z hz => ?_)
      show I2 u62 (266 * i + 48 + z) = I0 u5 z
      rw [c, show 266 * v.toNatClampNeg + 48 + z = 266 * v.toNatClampNeg + (48 + z) by omega, k1' (48 + z) (by omega), kS_pa hz, e5]
    · rw [(z1 i b hi hb).2 c] at hh
      rw [(g1.2 (fun q => c q.2)).2.2.1]
      refine PP_cg n24 (h i b a hi hb hh ha) (fun _ _ => rfl) (fun z hz => ?_)
      show I2 u62 (266 * i + 48 + z) = I0 u62 (266 * i + 48 + z)
      rw [k2' (266 * i + 48 + z) (by omega), eK]
  · have hr2 : r2 = 0 := by
      rcases p2 with ⟨-, h9, -⟩ | ⟨h9, -⟩
      · exact absurd h9 hv
      · exact h9
    rw [z1 b kb] at hh
    rw [(g1.2 (fun q => by omega)).2.2.1, (g2.2 hr2).1, eK]
    exact h i b a hi hb hh ha
theorem PR_again {Z : jZ} {I0 I1 I2 : jI} {v1 v2 uS uF uP x0 x2 u5 u53 u54 u62 n : Nat} {v : Int32} {r1 r2 : Int} (w : WD Z I0) (f1 : FR Ws_X11_again Z I0 Z I1) (f2 : FR Ws_X12_again Z I1 Z I2) (k1 : jk Z v1 11) (kS : jk Z uS 17) (lS : jlen Z uS = 2) (k2 : jk Z v2 12) (h62 : jr Z v2 62 = some u62) (k62 : jk Z u62 14) (pc : PCs Z v1 uF uP x0 x2) (pm : PMs Z v2 u5 u53 u54) (hn : (I0 v2 0).toInt = (n : Int)) (n24 : n ≤ 24) (er : r1 = r2)
    (p1 : YN r1 (AG11 Z I0 uS v)) (q1 : AGC Z v1 uS v r1 I0 I1) (q2 : AGM Z v2 v r2 I1 I2) (hs : PR I0 uP x0 x2 v2 u5 u53) (h : KP2 Z I0 uS u62 n) : PR I2 uP x0 x2 v2 u5 u53 := by
  subst er
  have qc := EQC_fr f2 pc (by decide)
  have pc' := pc
  obtain ⟨hF, kF, hP, kP, hx0, kx0, hx2, kx2⟩ := pc
  obtain ⟨h5, k5, h53, k53, -⟩ := pm
  obtain ⟨y1, hy1, -⟩ := sh_f w.1 kF (j := 1) (k := 14) (m := 24) rfl
  obtain ⟨y2, hy2, -⟩ := sh_f w.1 kF (j := 2) (k := 14) (m := 24) rfl
  obtain ⟨y5, hy5, -⟩ := sh_f w.1 k1 (j := 5) (k := 14) (m := 8) rfl
  have g1 := q1 uF uP x0 y1 y2 y5 hF hP hx0 hy1 hy2 hy5
  obtain ⟨u2, h2, -⟩ := sh_f w.1 k2 (j := 2) (k := 14) (m := 24) rfl
  obtain ⟨u3, h3, -⟩ := sh_f w.1 k2 (j := 3) (k := 14) (m := 24) rfl
  have g2 := q2 u62 u2 u3 u5 h62 h2 h3 h5
  have eK : I1 u62 = I0 u62 := f1.2.2.2 v2 12 62 u62 k2 h62 (by rw [k62.2]; rfl) rfl (by decide)
  have e0 : I2 v2 0 = I0 v2 0 := (f2.2.2.1 v2 12 0 k2 (by decide) (by decide)).trans (f1.2.2.1 v2 12 0 k2 (by decide) (by decide))
  have en : (I2 v2 0).toInt.toNat = n := by rw [e0, hn]; exact Int.toNat_natCast n
  rcases p1 with ⟨hr, hv, b, hb, hh⟩ | ⟨hr, -⟩
  · have n1 := i_nat (x := v) rfl hv.1
    obtain ⟨y, ey, kb⟩ := w.1.2.2.1 uS kS v.toNatClampNeg (by rw [lS]; omega)
    cases hb.symm.trans ey
    obtain ⟨a0, ha0, -⟩ := sh_f w.1 kb (j := 0) (k := 14) (m := 24) rfl
    obtain ⟨a1, ha1, -⟩ := sh_f w.1 kb (j := 1) (k := 14) (m := 24) rfl
    obtain ⟨a2, ha2, -⟩ := sh_f w.1 kb (j := 2) (k := 14) (m := 192) rfl
    obtain ⟨a3, ha3, -⟩ := sh_f w.1 kb (j := 3) (k := 14) (m := 8) rfl
    obtain ⟨-, -, b1, -, b4⟩ := g1.1 hr b a0 a1 a2 a3 hb ha0 ha1 ha2 ha3
    obtain ⟨-, -, c1, c4⟩ := g2.1 hr
    refine PR_mk en qc ⟨PP_cg n24 (h v.toNatClampNeg b a2 (by omega) hb hh ha2) b1 (fun z hz => by rw [c1 z hz, eK]), by rw [b4, c4], fun k hk => ?_⟩
    rw [b4] at hk
    exact absurd hk (Nat.not_lt_zero k)
  · have z := g1.2 hr
    subst z
    obtain ⟨-, -, c1, c4⟩ := g2.2 hr
    exact PR_same qc ⟨c1, c4, f2.2.2.2 v2 12 53 u53 k2 h53 (by rw [k53.2]; rfl) rfl (by decide), e0⟩ hs
/-- stairs -/
theorem PP_stairs {cc : Nat → Nat → Int} {n : Nat} {P T : Nat → Int32} (n24 : n ≤ 24) (hf : ∀ s, s < n → 0 ≤ cc 4 s ∧ cc 4 s ≤ 7) (hP : ∀ s g : Nat, s < 24 → g < 8 → (P (8 * s + g)).toInt = if s < n ∧ (g : Int) = cc 4 s then 720 else 0) (hT : ∀ s, s < n → ∀ g : Nat, g < 8 → (T (8 * s + g)).toInt = if (g : Int) = cc 4 s then 720 else 0) : PP n P T := by
  refine ⟨fun z hz => (i_eq rfl rfl).mpr ?_, fun z h1 h2 => (i_eq rfl (show (0 : Int32).toInt = 0 from rfl)).mpr ?_, fun s hs => ⟨fun g hg => ?_, ?_⟩⟩
  · have a := hP (z / 8) (z % 8) (by omega) (by omega)
    have b := hT (z / 8) (by omega) (z % 8) (by omega)
    rw [show 8 * (z / 8) + z % 8 = z by omega] at a b
    rw [a, b]
    by_cases c : ((z % 8 : Nat) : Int) = cc 4 (z / 8)
    · rw [if_pos ⟨by omega, c⟩, if_pos c]
    · rw [if_neg (fun h => c h.2), if_neg c]
  · have a := hP (z / 8) (z % 8) (by omega) (by omega)
    rw [show 8 * (z / 8) + z % 8 = z by omega] at a
    rw [a, if_neg (by omega)]
  · rw [hT s hs g hg]; split <;> omega
  · obtain ⟨f0, f1⟩ := hf s hs
    obtain ⟨f, hff⟩ : ∃ f : Nat, (f : Int) = cc 4 s := ⟨(cc 4 s).toNat, by omega⟩
    rw [shS_cg (h := fun i => if i = f then 720 else (fun _ => (0 : Int)) i) 8 (fun g hg => by
      show (T (8 * s + g)).toInt = if g = f then 720 else 0
      rw [hT s hs g hg]
      by_cases c : g = f
      · rw [if_pos c, if_pos (by omega)]
      · rw [if_neg c, if_neg (by omega)]), shS_upd 8, if_pos (by omega)]
    show shS (fun _ => (0 : Int)) 8 + (720 - 0) = 720
    rfl
theorem EQC_tr {I I' I'' : jI} {uP x0 x2 : Nat} (a : EQC I I' uP x0 x2) (b : EQC I' I'' uP x0 x2) : EQC I I'' uP x0 x2 := ⟨b.1.trans a.1, b.2.1.trans a.2.1, b.2.2.1.trans a.2.2.1, b.2.2.2.trans a.2.2.2⟩
theorem EQM_tr {I I' I'' : jI} {v2 u5 u53 : Nat} (a : EQM I I' v2 u5 u53) (b : EQM I' I'' v2 u5 u53) : EQM I I'' v2 u5 u53 := ⟨b.1.trans a.1, b.2.1.trans a.2.1, b.2.2.1.trans a.2.2.1, b.2.2.2.trans a.2.2.2⟩
theorem PR_stairs {Z Z2 : jZ} {I0 I1 I2 : jI} {v1 v2 uB uM uF uP x0 x2 u5 u53 u54 : Nat} {r1 r2 sB sM : Int} (w : WD Z I1) (k2 : jk Z v2 12) (pc : PCs Z v1 uF uP x0 x2) (pm : PMs Z v2 u5 u53 u54) (f2 : FR Ws_X12_stairs Z I1 Z2 I2) (qm : EQM I0 I1 v2 u5 u53) (er : r1 = r2) (eS : r1 = stA (I0 uB) sB) (r24 : r1 ≤ 24) (ec : cT (I0 uB) sB = cT (I1 uM) sM)
    (q1 : (0 ≤ r1 → ∀ uP x0, jr Z uF 4 = some uP → jr Z uP 0 = some x0 → (I1 uP 4).toInt = 0 ∧ ∀ s g : Nat, s < 24 → g < 8 → (I1 x0 (8 * s + g)).toInt = if (s : Int) < r1 ∧ (g : Int) = cT (I0 uB) sB 4 s then 720 else 0) ∧ (r1 < 0 → ∀ uP x0 x2, jr Z uF 4 = some uP → jr Z uP 0 = some x0 → jr Z uP 2 = some x2 → EQC I0 I1 uP x0 x2))
    (q2 : (0 ≤ r2 → MF (cT (I1 uM) sM) Z I2 v2 r2) ∧ (r2 < 0 → ∀ j u, 1 ≤ j → j ≤ 5 → jr Z v2 j = some u → I2 u = I1 u) ∧ (0 ≤ r2 → (I2 v2 52).toInt = 0) ∧ (r2 < 0 → I2 v2 52 = I1 v2 52)) (q3 : (0 ≤ r2 → (I2 v2 0).toInt = r2) ∧ (r2 < 0 → (I2 v2 0).toInt = (I1 v2 0).toInt)) (hs : PR I0 uP x0 x2 v2 u5 u53) : PR I2 uP x0 x2 v2 u5 u53 := by
  subst er
  have qc := EQC_fr f2 pc (by decide)
  obtain ⟨hF, kF, hP, kP, hx0, kx0, hx2, kx2⟩ := pc
  obtain ⟨h5, k5, h53, k53, -⟩ := pm
  by_cases c : 0 ≤ r1
  · obtain ⟨b4, bP⟩ := q1.1 c uP x0 hP hx0
    obtain ⟨u1, h1, -⟩ := sh_f w.1 k2 (j := 1) (k := 14) (m := 24) rfl
    obtain ⟨u2, h2, -⟩ := sh_f w.1 k2 (j := 2) (k := 14) (m := 24) rfl
    obtain ⟨u3, h3, -⟩ := sh_f w.1 k2 (j := 3) (k := 14) (m := 24) rfl
    obtain ⟨u4, h4, -⟩ := sh_f w.1 k2 (j := 4) (k := 16) (m := 24) rfl
    have mc := q2.1 c u1 u2 u3 u4 u5 h1 h2 h3 h4 h5
    refine PR_mk (n := r1.toNat) (by rw [q3.1 c]) qc ⟨PP_stairs (cc := cT (I0 uB) sB) (by omega) (fun s hs2 => ?_) (fun s g hs2 hg => ?_) (fun s hs2 g hg => ?_), by rw [b4, q2.2.2.1 c], fun k hk => ?_⟩
    · rw [eS] at c hs2
      exact cT_fam c s (by omega)
    · rw [bP s g hs2 hg]
      by_cases d : (s : Int) < r1 ∧ (g : Int) = cT (I0 uB) sB 4 s
      · rw [if_pos d, if_pos ⟨by omega, d.2⟩]
      · rw [if_neg d, if_neg (fun h => d ⟨by omega, h.2⟩)]
    · rw [(mc s hs2).2.2.2.2 g hg, ec]
    · rw [b4] at hk
      exact absurd hk (Nat.not_lt_zero k)
  · have c' : r1 < 0 := by omega
    have e0 : I2 v2 0 = I1 v2 0 := (i_eq rfl rfl).mpr (q3.2 c')
    exact PR_same (EQC_tr (q1.2 c' uP x0 x2 hP hx0 hx2) qc) (EQM_tr qm ⟨q2.2.1 c' 5 u5 (by decide) (by decide) h5, q2.2.2.2 c', f2.2.2.2 v2 12 53 u53 k2 h53 (by rw [k53.2]; rfl) rfl (by decide), e0⟩) hs
end
