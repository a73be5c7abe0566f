section
set_option maxHeartbeats 4000000 in
set_option maxRecDepth 100000 in
theorem l16_X3_read_L122 {Z : jZ} {I0 : jI} {Q : Int32 → jI → jL → Prop} (w0 : WD Z I0) (v0 : Nat) (v1 : Nat) (kv0 : jk Z v0 3) (kv1 : jk Z v1 10) (hQ : ∀ (I' : jI) (L' : jL), WD Z I' → FR Ws_X3_read Z I0 Z I' → Q (0 : Int32) I' L') : ∀ (n : Nat) (v2 : Int32) (I : jI) (L : jL), WD Z I → FR Ws_X3_read Z I0 Z I →   (0 ≤ v2.toInt ∧ v2.toInt ≤ 40) → 40 - v2.toInt < (n : Int) → fs_X3_read_L122  Z Q n v0 v2 I L := by
  intro n
  induction n with
  | zero =>
    intro v2 I L w_I q_I   li  me
    exfalso
    omega
  | succ n ih =>
    intro v2 I L w_I q_I   li  me
    unfold fs_X3_read_L122
    have rv2 := i_rng v2
    have t2 : 0 ≤ (I v0 3).toInt ∧ (I v0 3).toInt ≤ 40 := w_I.fld 3 3 kv0 (by decide)
    refine ⟨fun c3 => ?_, fun c3 => ?_⟩
    · skip
      first | (have t4 : (I v0 3).toInt ≤ v2.toInt := (i_le rfl rfl).mp c3) | (have t4 : (I v0 3).toInt ≤ v2.toInt := (i_le rfl rfl).mp c3) | skip
      have t5 : (0 : Int32).toInt = 0 := rfl
      exact hQ I L w_I q_I 
    · skip
      first | (have t6 : ¬ ((I v0 3).toInt ≤ v2.toInt) := (not_congr (i_le rfl rfl)).mp c3) | (have t6 : ¬ ((I v0 3).toInt ≤ v2.toInt) := (not_congr (i_le rfl rfl)).mp c3) | skip
      intro b7 eb7
      obtain ⟨x8, ex8, kb7, lb7⟩ := sh_f w_I.1 kv0 (j := 0) (k := 14) (m := 40) rfl
      cases eb7.symm.trans ex8
      have o9 : vp_in v2 40 := vi_of rfl (by omega) (by omega)
      refine ⟨o9, ?_⟩
      refine ⟨fun c10 => ?_, fun c10 => ?_⟩
      · skip
        first | (have t11 : (I b7 v2.toNatClampNeg).toInt < (1000) := (i_lt rfl (show (1000 : Int32).toInt = 1000 from rfl)).mp c10) | (have t11 : (I b7 v2.toNatClampNeg).toInt < (1000 : Int32).toInt := (i_lt rfl rfl).mp c10) | skip
        unfold fs_X3_read_b174
        unfold fs_X3_read_b175
        intro I12 eI12
        have w_I12 : WD Z I12 := by rw [eI12]; exact WD_putF w_I 3 4 kv0 (by decide) (by decide) trivial
        have f_I12 : FR [(3, 4)] Z I Z I12 := by rw [eI12]; exact FR_putF kv0 (by decide) List.mem_cons_self
        have q_I12 : FR Ws_X3_read Z I0 Z I12 := q_I.trans w0.1 w0.2.1 (f_I12.mono (by decide))
        have u13 : (I12 v0 3).toInt = (I v0 3).toInt := by rw [f_I12.2.2.1 v0 3 3 kv0 (by decide) (by decide)]
        first | (have u14 : (I12 v0 4).toInt = ((I v0 4) ||| (0 : Int32)).toInt := by (rw [eI12, show jpI I v0 4 ((I v0 4) ||| (0 : Int32)) v0 4 = ((I v0 4) ||| (0 : Int32)) from jpI_at] <;> exact rfl)) | skip
        intro x15 ex15
        have rx15 := i_rng x15
        first | (have tx15 : x15.toInt = v2.toInt + (1) := by (rw [ex15]; exact (i_add rfl (show (1 : Int32).toInt = 1 from rfl) (by omega) (by omega)))) | skip
        exact ih x15 I12 L w_I12 q_I12   (by omega)  (by omega)
      · skip
        first | (have t16 : ¬ ((I b7 v2.toNatClampNeg).toInt < (1000)) := (not_congr (i_lt rfl (show (1000 : Int32).toInt = 1000 from rfl))).mp c10) | (have t16 : ¬ ((I b7 v2.toNatClampNeg).toInt < (1000 : Int32).toInt) := (not_congr (i_lt rfl rfl)).mp c10) | skip
        intro b17 eb17
        obtain rfl : b7 = b17 := Option.some.inj (eb7.symm.trans eb17)
        have o18 : vp_in v2 40 := vi_of rfl (by omega) (by omega)
        refine ⟨o18, ?_⟩
        refine ⟨fun c19 => ?_, fun c19 => ?_⟩
        · skip
          first | (have t20 : (2000) ≤ (I b7 v2.toNatClampNeg).toInt := (i_le (show (2000 : Int32).toInt = 2000 from rfl) rfl).mp c19) | (have t20 : (2000 : Int32).toInt ≤ (I b7 v2.toNatClampNeg).toInt := (i_le rfl rfl).mp c19) | skip
          unfold fs_X3_read_b174
          unfold fs_X3_read_b175
          intro I21 eI21
          have w_I21 : WD Z I21 := by rw [eI21]; exact WD_putF w_I 3 4 kv0 (by decide) (by decide) trivial
          have f_I21 : FR [(3, 4)] Z I Z I21 := by rw [eI21]; exact FR_putF kv0 (by decide) List.mem_cons_self
          have q_I21 : FR Ws_X3_read Z I0 Z I21 := q_I.trans w0.1 w0.2.1 (f_I21.mono (by decide))
          have u22 : (I21 v0 3).toInt = (I v0 3).toInt := by rw [f_I21.2.2.1 v0 3 3 kv0 (by decide) (by decide)]
          first | (have u23 : (I21 v0 4).toInt = ((I v0 4) ||| (0 : Int32)).toInt := by (rw [eI21, show jpI I v0 4 ((I v0 4) ||| (0 : Int32)) v0 4 = ((I v0 4) ||| (0 : Int32)) from jpI_at] <;> exact rfl)) | skip
          intro x24 ex24
          have rx24 := i_rng x24
          first | (have tx24 : x24.toInt = v2.toInt + (1) := by (rw [ex24]; exact (i_add rfl (show (1 : Int32).toInt = 1 from rfl) (by omega) (by omega)))) | skip
          exact ih x24 I21 L w_I21 q_I21   (by omega)  (by omega)
        · skip
          first | (have t25 : ¬ ((2000) ≤ (I b7 v2.toNatClampNeg).toInt) := (not_congr (i_le (show (2000 : Int32).toInt = 2000 from rfl) rfl)).mp c19) | (have t25 : ¬ ((2000 : Int32).toInt ≤ (I b7 v2.toNatClampNeg).toInt) := (not_congr (i_le rfl rfl)).mp c19) | skip
          intro b26 eb26
          obtain rfl : b7 = b26 := Option.some.inj (eb7.symm.trans eb26)
          have o27 : vp_in v2 40 := vi_of rfl (by omega) (by omega)
          refine ⟨o27, ?_⟩
          unfold fs_X3_read_b175
          intro I28 eI28
          have w_I28 : WD Z I28 := by rw [eI28]; exact WD_putF w_I 3 4 kv0 (by decide) (by decide) trivial
          have f_I28 : FR [(3, 4)] Z I Z I28 := by rw [eI28]; exact FR_putF kv0 (by decide) List.mem_cons_self
          have q_I28 : FR Ws_X3_read Z I0 Z I28 := q_I.trans w0.1 w0.2.1 (f_I28.mono (by decide))
          have u29 : (I28 v0 3).toInt = (I v0 3).toInt := by rw [f_I28.2.2.1 v0 3 3 kv0 (by decide) (by decide)]
          first | (have u30 : (I28 v0 4).toInt = ((I v0 4) ||| ((1 : Int32) <<< (((I b7 v2.toNatClampNeg) - (1000 : Int32)) &&& 31))).toInt := by (rw [eI28, show jpI I v0 4 ((I v0 4) ||| ((1 : Int32) <<< (((I b7 v2.toNatClampNeg) - (1000 : Int32)) &&& 31))) v0 4 = ((I v0 4) ||| ((1 : Int32) <<< (((I b7 v2.toNatClampNeg) - (1000 : Int32)) &&& 31))) from jpI_at] <;> exact rfl)) | skip
          intro x31 ex31
          have rx31 := i_rng x31
          first | (have tx31 : x31.toInt = v2.toInt + (1) := by (rw [ex31]; exact (i_add rfl (show (1 : Int32).toInt = 1 from rfl) (by omega) (by omega)))) | skip
          exact ih x31 I28 L w_I28 q_I28   (by omega)  (by omega)
set_option maxHeartbeats 4000000 in
set_option maxRecDepth 100000 in
theorem l16_X12_law_L85 {B : Nat × Nat} {T : Nat} {Z0 : jZ} {I0 : jI} {Q : Int32 → jZ → jI → jL → Prop} (w0 : WD Z0 I0) (v0 : Nat) (v1 : Int32) (kv0 : jk Z0 v0 12) (v2 : Int32) (hQ : ∀ (Z' : jZ) (I' : jI) (L' : jL), WD Z' I' → BUD B Z' T → FR Ws_X12_law Z0 I0 Z' I' → CP Z0 Z' → (I' v0 19).toInt = 0 → Q (0 : Int32) Z' I' L') : ∀ (n : Nat) (v3 : Int32) (Z : jZ) (I : jI) (L : jL), WD Z I → BUD B Z T → FR Ws_X12_law Z0 I0 Z I → CP Z0 Z →   (0 ≤ v3.toInt ∧ v3.toInt ≤ 40 ∧ v2.toInt ≤ 40 ∧ 0 ≤ v2.toInt ∧ 0 ≤ v1.toInt ∧ v1.toInt ≤ 1 ∧ (I v0 19).toInt = 0) → 40 - v3.toInt < (n : Int) → f_X12_law_L85 B  Q n v0 v1 v2 v3 Z I L := by
  intro n
  induction n with
  | zero =>
    intro v3 Z I L w_I bd_Z q_I cp_Z   li  me
    exfalso
    omega
  | succ n ih =>
    intro v3 Z I L w_I bd_Z q_I cp_Z   li  me
    unfold f_X12_law_L85
    have rv3 := i_rng v3
    have rv2 := i_rng v2
    have rv1 := i_rng v1
    have kv0_0 := kv0
    have kv0 := (q_I.1 _ _ kv0).1
    have t1 : 0 ≤ (I v0 19).toInt ∧ (I v0 19).toInt ≤ 80 := w_I.fld 12 19 kv0 (by decide)
    have xq_I := q_I.1
    refine ⟨fun c2 => ?_, fun c2 => ?_⟩
    · skip
      first | (have t3 : v2.toInt ≤ v3.toInt := (i_le rfl rfl).mp c2) | (have t3 : v2.toInt ≤ v3.toInt := (i_le rfl rfl).mp c2) | skip
      intro b4 eb4
      obtain ⟨x5, ex5, kb4, lb4⟩ := sh_f w_I.1 kv0 (j := 30) (k := 14) (m := 2) rfl
      cases eb4.symm.trans ex5
      have o6 : vp_in v1 2 := vi_of rfl (by omega) (by omega)
      refine ⟨o6, ?_⟩
      intro I7 eI7
      have w_I7 : WD Z I7 := by rw [eI7]; exact WD_putA w_I 12 30 kv0 eb4 kb4 rfl rfl (by decide) (by constructor <;> omega)
      have f_I7 : FR [(12, 30)] Z I Z I7 := by rw [eI7]; exact FR_upA w_I.2.1 kv0 eb4 kb4 rfl rfl List.mem_cons_self
      have q_I7 : FR Ws_X12_law Z0 I0 Z I7 := q_I.trans w0.1 w0.2.1 (f_I7.mono (by decide))
      have u8 : (I7 v0 19).toInt = (I v0 19).toInt := by rw [f_I7.2.2.1 v0 12 19 kv0 (by decide) (by decide)]
      have t9 : (0 : Int32).toInt = 0 := rfl
      exact hQ Z I7 L w_I7 bd_Z q_I7 cp_Z (by omega)
    · skip
      first | (have t10 : ¬ (v2.toInt ≤ v3.toInt) := (not_congr (i_le rfl rfl)).mp c2) | (have t10 : ¬ (v2.toInt ≤ v3.toInt) := (not_congr (i_le rfl rfl)).mp c2) | skip
      intro b11 eb11
      obtain ⟨x12, ex12, kb11, lb11⟩ := sh_f w_I.1 kv0 (j := 29) (k := 19) (m := 2) rfl
      cases eb11.symm.trans ex12
      have o13 : vp_in v1 2 := vi_of rfl (by omega) (by omega)
      refine ⟨o13, ?_⟩
      intro b14 eb14
      obtain ⟨x16, ex16, kb14, lb14⟩ := w_I.1.2.2.2 b11 kb11 _ (vp_lt (by rw [lb11]; exact o13))
      cases eb14.symm.trans ex16
      intro b17 eb17
      obtain ⟨x18, ex18, kb17, lb17⟩ := sh_f w_I.1 kv0 (j := 18) (k := 13) (m := 80) rfl
      cases eb17.symm.trans ex18
      have o19 : vp_in v3 80 := vi_of rfl (by omega) (by omega)
      refine ⟨o19, ?_⟩
      have o20 : vp_in v3 40 := vi_of rfl (by omega) (by omega)
      refine ⟨o20, ?_⟩
      intro I21 eI21
      have w_I21 : WD Z I21 := by rw [eI21]; exact WD_putA w_I 19 v1.toNatClampNeg kb11 eb14 kb14 rfl (by simp [jsr]) (by decide) trivial
      have m_I21 : (19, v1.toNatClampNeg) ∈ Ws_X12_law := by (have h9 := i_nat (x := v1) rfl (by omega); rcases (show v1.toNatClampNeg = 0 ∨ v1.toNatClampNeg = 1 by omega) with h | h <;> rw [h] <;> decide)
      have f_I21 : FR Ws_X12_law Z I Z I21 := by rw [eI21]; exact FR_upA w_I.2.1 kb11 eb14 kb14 rfl (by simp [jsr]) m_I21
      have q_I21 : FR Ws_X12_law Z0 I0 Z I21 := q_I.trans w0.1 w0.2.1 f_I21
      have ut9 : (I21 v0 19).toInt = (I v0 19).toInt := by rw [eI21]; exact congrArg Int32.toInt ((FR_upA (W := [(19, v1.toNatClampNeg)]) w_I.2.1 kb11 eb14 kb14 rfl (by simp [jsr]) List.mem_cons_self).2.2.1 v0 12 19 kv0 (by decide) (by simp))
      intro x22 ex22
      have rx22 := i_rng x22
      first | (have tx22 : x22.toInt = v3.toInt + (1) := by (rw [ex22]; exact (i_add rfl (show (1 : Int32).toInt = 1 from rfl) (by omega) (by omega)))) | skip
      exact ih x22 Z I21 L w_I21 bd_Z q_I21 cp_Z   (by omega)  (by omega)
/-! ===== law() on both sides: the answer ===== -/
theorem lwA_cong {f g : Nat → Int32} {s : Int} (h : ∀ i : Nat, (i : Int) < s → f i = g i) : lwA f s = lwA g s := by
  unfold lwA lwR
  rw [GS_cong (lim := min s 40) (s := s) (by omega) h]
set_option maxHeartbeats 4000000 in
theorem s16_X3_read {Z : jZ} {I : jI} {L : jL} (w : WD Z I) (v0 v1 : Nat) (k0 : jk Z v0 3) (k1 : jk Z v1 10) (uB : Nat) (hB : jr Z v1 0 = some uB) (hb : BY (I uB)) {Q : Int32 → jI → jL → Prop} (hQ : ∀ (r : Int32) (I' : jI) (L' : jL), WD Z I' → FR Ws_X3_read Z I Z I' → r.toInt = lwA (I uB) (I v1 1).toInt → Q r I' L') : fs_X3_read v0 v1 Z I L Q := by
  obtain ⟨uD, hD, kD, lD⟩ := sh_f w.1 k0 (j := 1) (k := 14) (m := 40) rfl
  obtain ⟨uC, hC, kC, lC⟩ := sh_f w.1 k0 (j := 0) (k := 14) (m := 40) rfl
  obtain ⟨x, ex, kB, lB⟩ := sh_f w.1 k1 (j := 0) (k := 13) (m := 80) rfl
  cases hB.symm.trans ex
  have n10 : v1 ≠ v0 := ks_ne k1 k0 (by decide)
  have nB : uB ≠ v0 := ks_ne kB k0 (by decide)
  have sz : 0 ≤ (I v1 1).toInt ∧ (I v1 1).toInt ≤ 80 := w.fld 10 1 k1 (by decide)
  have b77 : ∀ (J : jI) (L1 : jL) (F : Int), WD Z J → FR Ws_X3_read Z I Z J → (J v0 8).toInt = F → -1 ≤ F → F ≤ 1000 → (F = -1 → lwA (I uB) (I v1 1).toInt = 0) → (F ≠ -1 → lwA (I uB) (I v1 1).toInt = -1 - F) → fs_X3_read_b77 Z Q v0 J L1 := by
    intro J L1 F wJ fJ e8 g1 g2 h1 h2
    unfold fs_X3_read_b77
    refine ⟨fun c => ?_, fun c => ?_⟩
    · have c := (i_eq e8 (show (-1 : Int32).toInt = -1 from rfl)).mp c
      intro b13 h13 b14 h14
      cases hD.symm.trans h13
      cases hC.symm.trans h14
      refine ⟨by decide, ?_⟩
      intro I16 e16 I17 e17 I18 e18
      have w16 : WD Z I16 := by rw [e16]; exact WD_cpy wJ 3 0 k0 hC kC rfl rfl (by decide) (fun _ _ _ => trivial)
      have f16 : FR Ws_X3_read Z I Z I16 := fJ.trans w.1 w.2.1 (by rw [e16]; exact FR_upA wJ.2.1 k0 hC kC rfl rfl (by decide))
      have w17 : WD Z I17 := by rw [e17]; exact WD_putF w16 3 3 k0 (by decide) (by decide) (w16.fld 3 5 k0 (by decide))
      have f17 : FR Ws_X3_read Z I Z I17 := f16.trans w.1 w.2.1 (by rw [e17]; exact FR_putF k0 (by decide) (by decide))
      have w18 : WD Z I18 := by rw [e18]; exact WD_putF w17 3 4 k0 (by decide) (by decide) trivial
      have f18 : FR Ws_X3_read Z I Z I18 := f17.trans w.1 w.2.1 (by rw [e18]; exact FR_putF k0 (by decide) (by decide))
      exact ⟨41, l16_X3_read_L122 w v0 v1 k0 k1 (fun I' L' a b => hQ 0 I' L' a b (by rw [h1 c]; rfl)) 41 0 I18 L1 w18 f18 ⟨by decide, by decide⟩ (by decide)⟩
    · have c := (not_congr (i_eq e8 (show (-1 : Int32).toInt = -1 from rfl))).mp c
      refine hQ _ J L1 wJ fJ ?_
      rw [h2 c]
      exact i_sub (show (-1 : Int32).toInt = -1 from rfl) e8 (by omega) (by omega)
  unfold fs_X3_read
  intro I21 e21 I22 e22 I23 e23 I24 e24
  have w21 : WD Z I21 := by rw [e21]; exact WD_putF w 3 5 k0 (by decide) (by decide) (show rg 0 40 _ from ⟨by decide, by decide⟩)
  have f21 : FR Ws_X3_read Z I Z I21 := by rw [e21]; exact FR_putF k0 (by decide) (by decide)
  have w22 : WD Z I22 := by rw [e22]; exact WD_putF w21 3 6 k0 (by decide) (by decide) trivial
  have f22 : FR Ws_X3_read Z I Z I22 := f21.trans w.1 w.2.1 (by rw [e22]; exact FR_putF k0 (by decide) (by decide))
  have w23 : WD Z I23 := by rw [e23]; exact WD_putF w22 3 8 k0 (by decide) (by decide) trivial
  have f23 : FR Ws_X3_read Z I Z I23 := f22.trans w.1 w.2.1 (by rw [e23]; exact FR_putF k0 (by decide) (by decide))
  have w24 : WD Z I24 := by rw [e24]; exact WD_putF w23 3 7 k0 (by decide) (by decide) trivial
  have f24 : FR Ws_X3_read Z I Z I24 := f23.trans w.1 w.2.1 (by rw [e24]; exact FR_putF k0 (by decide) (by decide))
  have y1 : I24 v1 = I v1 := by rw [e24, jpI_ne n10, e23, jpI_ne n10, e22, jpI_ne n10, e21, jpI_ne n10]
  have y3 : I23 v1 1 = I v1 1 := by rw [e23, jpI_ne n10, e22, jpI_ne n10, e21, jpI_ne n10]
  have yB : I24 uB = I uB := by rw [e24, jpI_ne nB, e23, jpI_ne nB, e22, jpI_ne nB, e21, jpI_ne nB]
  have t7 : (I24 v0 7).toInt = min (I v1 1).toInt 40 := by
    rw [e24, jpI_at, y3]
    by_cases c : (40 : Int32) < I v1 1
    · rw [if_pos c]
      have c := (i_lt (show (40 : Int32).toInt = 40 from rfl) (y := I v1 1) rfl).mp c
      show (40 : Int) = _
      omega
    · rw [if_neg c]
      have c := (not_congr (i_lt (show (40 : Int32).toInt = 40 from rfl) (y := I v1 1) rfl)).mp c
      omega
  have t8 : (I24 v0 8).toInt = -1 := by rw [e24, jpI_o (by decide), e23, jpI_at]; rfl
  have t6 : (I24 v0 6).toInt = 0 := by rw [e24, jpI_o (by decide), e23, jpI_o (by decide), e22, jpI_at]; rfl
  have t5 : (I24 v0 5).toInt = 0 := by rw [e24, jpI_o (by decide), e23, jpI_o (by decide), e22, jpI_o (by decide), e21, jpI_at]; rfl
  have ts : (I24 v1 1).toInt = (I v1 1).toInt := by rw [y1]
  refine ⟨fun c => ?_, fun c => ?_⟩
  · have c := (i_le ts (show (0 : Int32).toInt = 0 from rfl)).mp c
    refine b77 I24 L (-1) w24 f24 t8 (by omega) (by omega) (fun _ => ?_) (fun q => absurd rfl q)
    unfold lwA
    rw [if_pos c]
  have c := (not_congr (i_le ts (show (0 : Int32).toInt = 0 from rfl))).mp c
  obtain ⟨hp, o1, o2, o3, o4⟩ := lwR_is (f := I uB) (s := (I v1 1).toInt) sz.1
  have t : TLw Z I24 v0 v1 uB uD (min (I v1 1).toInt 40) := ⟨w24, k0, k1, hB, kB, ⟨by omega, by rw [ts]; omega, by rw [ts]; exact sz.2, by omega⟩, by rw [yB]; exact hb, hD, kD⟩
  have s0 : LSw Z I24 v0 uD (min (I v1 1).toInt 40) I24 0 (-1) [] := ⟨w24, FR.rf, t6, t8, t7, fun _ => ⟨t5, fun i hi => absurd hi (Nat.not_lt_zero i)⟩, fun _ _ _ => rfl⟩
  refine (LC_all t 300).1 30 0 0 (lwR (I uB) (I v1 1).toInt) [] 0 I24 L _ (by rw [yB]; exact hp) s0 (by omega) (by omega) (by show ((0 : Nat) : Int) ≤ 0; omega) rfl (by omega) (by omega) (fun I28 s28 => ?_)
  have f28 : FR Ws_X3_read Z I Z I28 := f24.trans w.1 w.2.1 (s28.2.1.mono (by decide))
  have u1 : (I28 v1 1).toInt = (I v1 1).toInt := by rw [s28.2.1.2.2.1 v1 10 1 k1 (by decide) (by decide)]; exact ts
  have b69 : (lwR (I uB) (I v1 1).toInt).2.1 = -1 → (lwR (I uB) (I v1 1).toInt).1 < (I v1 1).toInt → fs_X3_read_b69 Z Q v0 I28 L := by
    intro q1 q2
    unfold fs_X3_read_b69
    intro I20 e20
    have w20 : WD Z I20 := by rw [e20]; exact WD_putF s28.1 3 8 k0 (by decide) (by decide) trivial
    have f20 : FR Ws_X3_read Z I Z I20 := f28.trans w.1 w.2.1 (by rw [e20]; exact FR_putF k0 (by decide) (by decide))
    refine b77 I20 L (lwR (I uB) (I v1 1).toInt).1 w20 f20 (by rw [e20, jpI_at]; exact s28.2.2.1) (by omega) (by omega) (fun q => by omega) (fun _ => ?_)
    unfold lwA
    rw [if_neg (by omega), if_pos q1, if_pos q2]
  refine ⟨fun q => ?_, fun q => ⟨fun q2 => ?_, fun q2 => ⟨fun q3 => ?_, fun q3 => ?_⟩⟩⟩
  · have q := (not_congr (i_eq s28.2.2.2.1 (show (-1 : Int32).toInt = -1 from rfl))).mp q
    refine b77 I28 L _ s28.1 f28 s28.2.2.2.1 (by omega) (by omega) (fun g => absurd g q) (fun _ => ?_)
    unfold lwA
    rw [if_neg (by omega), if_neg q]
  · have q := (i_eq s28.2.2.2.1 (show (-1 : Int32).toInt = -1 from rfl)).mp q
    have q2 := (i_lt s28.2.2.1 s28.2.2.2.2.1).mp q2
    exact b69 q (by omega)
  · have q := (i_eq s28.2.2.2.1 (show (-1 : Int32).toInt = -1 from rfl)).mp q
    have q2 := (not_congr (i_lt s28.2.2.1 s28.2.2.2.2.1)).mp q2
    have q3 := (i_le u1 (show (40 : Int32).toInt = 40 from rfl)).mp q3
    refine b77 I28 L _ s28.1 f28 s28.2.2.2.1 (by omega) (by omega) (fun _ => ?_) (fun g => absurd q g)
    unfold lwA
    rw [if_neg (by omega), if_pos q, if_neg (by omega)]
  · have q := (i_eq s28.2.2.2.1 (show (-1 : Int32).toInt = -1 from rfl)).mp q
    have q3 := (not_congr (i_le u1 (show (40 : Int32).toInt = 40 from rfl))).mp q3
    exact b69 q (by omega)
def lwB (v : Int) (x : Int) : Int := if v = 0 ∨ v = 1 then x else -100
set_option maxHeartbeats 4000000 in
theorem s16_X11_law {Z : jZ} {I : jI} {L : jL} (w : WD Z I) (v0 : Nat) (v1 : Int32) (kv0 : jk Z v0 11) (uT : Nat) (huT : jr Z v0 0 = some uT) (uB : Nat) (huB : jr Z uT 0 = some uB) (hb : BY (I uB)) {Q : Int32 → jI → jL → Prop} (hQ : ∀ (r : Int32) (I' : jI) (L' : jL), WD Z I' → FR Ws_X11_law Z I Z I' → (I' uT 1).toInt = 0 → r.toInt = lwB v1.toInt (lwA (I uB) (I uT 1).toInt) → Q r I' L') : fs_X11_law v0 v1 Z I L Q := by
  obtain ⟨x, ex, kT⟩ := sh_o w.1 kv0 (j := 0) (k := 10) rfl
  cases huT.symm.trans ex
  have fin : ∀ (r : Int32) (J : jI) (L1 : jL), WD Z J → FR Ws_X11_law Z I Z J → r.toInt = lwB v1.toInt (lwA (I uB) (I uT 1).toInt) → fs_X11_law_b45 Z Q v0 r J L1 := by
    intro r J L1 wJ fJ er
    unfold fs_X11_law_b45
    intro b1 h1
    cases huT.symm.trans h1
    unfold f_X10_clear
    intro I1 e1
    refine hQ r I1 L1 ?_ ?_ ?_ er
    · rw [e1]; exact WD_putF wJ 10 1 kT (by decide) (by decide) (show rg 0 80 _ from ⟨by decide, by decide⟩)
    · exact fJ.trans w.1 w.2.1 (by rw [e1]; exact FR_putF kT (by decide) (by decide))
    · rw [e1, jpI_at]; rfl
  have rd : ∀ (b10 b11 b12 j : Nat), (j = 6 ∨ j = 7) → (v1.toInt = 0 ∨ v1.toInt = 1) → jr Z v0 2 = some b10 → jr Z b10 j = some b11 → jr Z v0 0 = some b12 → fs_X3_read b11 b12 Z I L (fun r I1 L1 => fs_X11_law_b45 Z Q v0 r I1 L1) := by
    intro b10 b11 b12 j hj hv h10 h11 h12
    cases huT.symm.trans h12
    obtain ⟨x, ex, kF⟩ := sh_o w.1 kv0 (j := 2) (k := 8) rfl
    cases h10.symm.trans ex
    have k3 : jk Z b11 3 := by
      rcases hj with rfl | rfl
      · obtain ⟨x, ex, k⟩ := sh_o w.1 kF (j := 6) (k := 3) rfl
        cases h11.symm.trans ex
        exact k
      · obtain ⟨x, ex, k⟩ := sh_o w.1 kF (j := 7) (k := 3) rfl
        cases h11.symm.trans ex
        exact k
    refine s16_X3_read w b11 uT k3 kT uB huB hb (fun r I1 L1 w1 f1 er => fin r I1 L1 w1 (f1.mono (by decide)) ?_)
    rw [er]
    unfold lwB
    rw [if_pos hv]
  unfold fs_X11_law
  refine ⟨fun c => ⟨fun c1 => ?_, fun c1 b10 h10 b11 h11 b12 h12 => ?_⟩, fun c b10 h10 b11 h11 b12 h12 => ?_⟩
  · have c := (not_congr (i_eq (x := v1) (y := 0) rfl (show (0 : Int32).toInt = 0 from rfl))).mp c
    have c1 := (not_congr (i_eq (x := v1) (y := 1) rfl (show (1 : Int32).toInt = 1 from rfl))).mp c1
    refine fin _ I L w FR.rf ?_
    unfold lwB
    rw [if_neg (by omega)]
    rfl
  · have c1 := (i_eq (x := v1) (y := 1) rfl (show (1 : Int32).toInt = 1 from rfl)).mp c1
    exact rd b10 b11 b12 7 (Or.inr rfl) (Or.inr c1) h10 h11 h12
  · have c := (i_eq (x := v1) (y := 0) rfl (show (0 : Int32).toInt = 0 from rfl)).mp c
    exact rd b10 b11 b12 6 (Or.inl rfl) (Or.inl c) h10 h11 h12
set_option maxHeartbeats 4000000 in
theorem s16_X12_law {B : Nat × Nat} {T : Nat} {Z : jZ} {I : jI} {L : jL} (w : WD Z I) (bd : BUD B Z T) (v0 : Nat) (v1 : Int32) (kv0 : jk Z v0 12) (uM : Nat) (huM : jr Z v0 18 = some uM) {Q : Int32 → jZ → jI → jL → Prop} (hQ : ∀ (r : Int32) (Z' : jZ) (I' : jI) (L' : jL), WD Z' I' → BUD B Z' T → FR Ws_X12_law Z I Z' I' → CP Z Z' → (I' v0 19).toInt = 0 → r.toInt = lwB v1.toInt (lwA (I uM) (I v0 19).toInt) → Q r Z' I' L') : f_X12_law B v0 v1 Z I L Q := by
  obtain ⟨b9, e9, kuM, l9⟩ := sh_f w.1 kv0 (j := 18) (k := 13) (m := 80) rfl
  cases huM.symm.trans e9
  have hne : uM ≠ v0 := ks_ne kuM kv0 (by decide)
  have sz : 0 ≤ (I v0 19).toInt ∧ (I v0 19).toInt ≤ 80 := w.fld 12 19 kv0 (by decide)
  unfold f_X12_law
  intro I1 e1 x23 e23 b eb
  cases huM.symm.trans eb
  have w1 : WD Z I1 := by rw [e1]; exact WD_putF w 12 22 kv0 (by decide) (by decide) trivial
  have f1 : FR Ws_X12_law Z I Z I1 := by rw [e1]; exact FR_putF kv0 (by decide) (by decide)
  have z1 : I1 v0 19 = I v0 19 := by rw [e1, jpI_o (by decide)]
  have b1 : I1 uM = I uM := by rw [e1, jpI_ne hne]
  have ex : x23.toInt = (I v0 19).toInt := by rw [e23, z1]
  refine s_X12_begin w1 bd v0 uM x23 40 kv0 kuM v0 12 18 kv0 huM (fun Z2 I2 L2 w2 bd2 f2 cp2 p2 => ?_)
  obtain ⟨r2, p24, p25, p26, p27⟩ := p2
  intro I3 e3
  have k2 : jk Z2 v0 12 := (f2.1 _ _ kv0).1
  have kM2 : jk Z2 uM 13 := (f2.1 _ _ kuM).1
  have lM2 : jlen Z2 uM = 80 := (f2.1 _ _ kuM).2.trans l9
  have h2M : jr Z2 v0 18 = some uM := (f2.2.1 v0 12 18 kv0 (by decide) (by decide)).trans huM
  have b2 : I2 uM = I1 uM := f2.2.2.2 v0 12 18 uM kv0 huM (by rw [kuM.2]; rfl) rfl (by decide)
  have w3 : WD Z2 I3 := by rw [e3]; exact WD_putF w2 12 19 k2 (by decide) (by decide) (show rg 0 80 _ from ⟨by decide, by decide⟩)
  have f2' : FR Ws_X12_law Z I Z2 I2 := f1.trans w.1 w.2.1 (f2.mono (by decide))
  have f3 : FR Ws_X12_law Z I Z2 I3 := f2'.trans w.1 w.2.1 (by rw [e3]; exact FR_putF k2 (by decide) (by decide))
  have b3 : I3 uM = I uM := by rw [e3, jpI_ne hne, b2, b1]
  have z3 : (I3 v0 19).toInt = 0 := by rw [e3, jpI_at]; rfl
  refine s_X12_in w3 v1 0 1 (fun r39 p39 => ?_)
  rw [show (0 : Int32).toInt = 0 from rfl, show (1 : Int32).toInt = 1 from rfl] at p39
  refine ⟨fun c => ?ok, fun c => ?no⟩
  case no =>
    have c := (i_eq (x := r39) (y := 0) rfl (show (0 : Int32).toInt = 0 from rfl)).mp c
    refine hQ _ Z2 I3 L2 w3 bd2 f3 cp2 z3 ?_
    unfold lwB
    rw [if_neg (by omega)]
    rfl
  have c := (not_congr (i_eq (x := r39) (y := 0) rfl (show (0 : Int32).toInt = 0 from rfl))).mp c
  have hv : v1.toInt = 0 ∨ v1.toInt = 1 := by omega
  have hv2 : 0 ≤ v1.toInt ∧ v1.toInt ≤ 1 := by omega
  have hB : lwB v1.toInt (lwA (I uM) (I v0 19).toInt) = lwA (I uM) (I v0 19).toInt := by unfold lwB; rw [if_pos hv]
  rw [hB] at hQ
  intro I41 e41
  have w41 : WD Z2 I41 := by rw [e41]; exact WD_putF w3 12 31 k2 (by decide) (by decide) trivial
  have f41 : FR Ws_X12_law Z I Z2 I41 := f3.trans w.1 w.2.1 (by rw [e41]; exact FR_putF k2 (by decide) (by decide))
  have b41 : I41 uM = I uM := by rw [e41, jpI_ne hne]; exact b3
  have z41 : (I41 v0 19).toInt = 0 := by rw [e41, jpI_o (by decide)]; exact z3
  have a41 : I41 v0 31 = (-1 : Int32) := by rw [e41, jpI_at]
  have b83 : ∀ (J : jI) (L1 : jL), WD Z2 J → FR Ws_X12_law Z I Z2 J → (J v0 19).toInt = 0 → (I v0 19).toInt ≤ 40 → lwA (I uM) (I v0 19).toInt = 0 → f_X12_law_b83 B Q v0 v1 x23 Z2 J L1 := by
    intro J L1 wJ fJ z19 h40 hA
    have z0 : (0 : Int32).toInt = 0 := rfl
    unfold f_X12_law_b83
    exact ⟨41, l16_X12_law_L85 w v0 v1 kv0 x23 (fun Z' I' L' a b c d e => hQ 0 Z' I' L' a b c d e (by rw [hA]; rfl)) 41 0 Z2 J L1 wJ bd2 fJ cp2 (by omega) (by omega)⟩
  refine ⟨fun c2 => ?_, fun c2 => ?_⟩
  · have c2 := (i_le ex (show (0 : Int32).toInt = 0 from rfl)).mp c2
    refine b83 I41 L2 w41 f41 z41 (by omega) ?_
    unfold lwA
    rw [if_pos c2]
  have c2 := (not_congr (i_le ex (show (0 : Int32).toInt = 0 from rfl))).mp c2
  have t : TMl Z2 I41 v0 uM (I v0 19).toInt := ⟨w41, k2, r2, kM2, ⟨sz.1, sz.2, by rw [lM2]; omega⟩, fun I' f => f.2.2.2 v0 12 18 uM k2 h2M (by rw [kM2.2]; rfl) rfl (by decide)⟩
  have s : ML Z2 I41 v0 (I v0 19).toInt I41 0 (-1) := by
    refine ⟨w41, FR.rf, ?_, ?_, ?_, ?_⟩
    · rw [e41, jpI_o (by decide), e3, jpI_o (by decide)]; exact p26
    · rw [e41, jpI_o (by decide), e3, jpI_o (by decide)]; exact p27
    · rw [e41, jpI_o (by decide), e3, jpI_o (by decide), p24]; exact ex
    · rw [e41, jpI_o (by decide), e3, jpI_o (by decide)]; exact p25
  have hl : LTR Z2 I41 v0 (I v0 19).toInt (fun _ => 0) := by
    intro F c I9 L9 a Q9 s9 _ hq
    have e31 : I9 v0 31 = (-1 : Int32) := by rw [s9.2.1.2.2.1 v0 12 31 k2 (by decide) (by decide)]; exact a41
    exact ⟨fun q => absurd e31 q, fun _ => hq I9 L9 s9⟩
  obtain ⟨hp, o1, o2, o3, o4⟩ := lwR_is (f := I uM) (s := (I v0 19).toInt) sz.1
  refine (MC_all t hl 300).1 100 0 0 (lwR (I uM) (I v0 19).toInt) 0 I41 L2 _ (by rw [b41]; exact hp) s (by omega) (by omega) rfl (by omega) (by omega) (fun v I45 L45 s45 _ => ?_)
  have f45 : FR Ws_X12_law Z I Z2 I45 := f41.trans w.1 w.2.1 (s45.2.1.mono (by decide))
  have z45 : (I45 v0 19).toInt = 0 := by rw [s45.2.1.2.2.1 v0 12 19 k2 (by decide) (by decide)]; exact z41
  have bad : ∀ (J : jI) (F : Int), ML Z2 I41 v0 (I v0 19).toInt J (lwR (I uM) (I v0 19).toInt).1 F → F ≠ -1 → 0 ≤ F → F ≤ 1000 → lwA (I uM) (I v0 19).toInt = -1 - F → f_X12_law_b69 B Q v0 v1 x23 Z2 J L45 := by
    intro J F sJ hF g1 g2 hA
    unfold f_X12_law_b69
    refine n_fine sJ (fun q => absurd q hF) (fun _ => ⟨fun q => absurd rfl q, fun _ => ?_⟩)
    refine hQ _ Z2 J L45 sJ.1 bd2 (f41.trans w.1 w.2.1 (sJ.2.1.mono (by decide))) cp2 ?_ ?_
    · rw [sJ.2.1.2.2.1 v0 12 19 k2 (by decide) (by decide)]; exact z41
    · rw [hA]
      exact i_sub (show (-1 : Int32).toInt = -1 from rfl) sJ.2.2.2.1 (by omega) (by omega)
  have hlw : ∀ x, (if (I v0 19).toInt ≤ 0 then (0 : Int) else x) = x := fun x => if_neg (by omega)
  by_cases q : (lwR (I uM) (I v0 19).toInt).2.1 = -1
  · refine ⟨fun c3 => ?_, fun c3 => ?_⟩
    · have c3 := (i_le ex s45.2.2.1).mp c3
      rw [q] at s45
      unfold f_X12_law_b69
      refine n_fine s45 (fun _ => ⟨fun _ => ?_, fun q9 => absurd q9 (by decide)⟩) (fun q9 => absurd rfl q9)
      refine b83 I45 L45 s45.1 f45 z45 (by omega) ?_
      unfold lwA
      rw [hlw, if_pos q, if_neg (by omega)]
    · have c3 := (not_congr (i_le ex s45.2.2.1)).mp c3
      rw [q] at s45
      refine n_fault t s45 (fun I9 s9 => bad I9 _ s9 ?_ ?_ ?_ ?_)
      · rw [s45.2.2.1]; omega
      · rw [s45.2.2.1]; omega
      · rw [s45.2.2.1]; omega
      · rw [s45.2.2.1]
        unfold lwA
        rw [hlw, if_pos q, if_pos (by omega)]
  · have hA : lwA (I uM) (I v0 19).toInt = -1 - (lwR (I uM) (I v0 19).toInt).2.1 := by
      unfold lwA
      rw [hlw, if_neg q]
    refine ⟨fun c3 => bad I45 _ s45 q (by omega) (by omega) hA, fun c3 => ?_⟩
    exact n_faultD s45 q (bad I45 _ s45 q (by omega) (by omega) hA)
end
section
/-! ===== the class: of how many STEPS each is MAIN ===== -/
def mnI (T : Nat → Int32) (t i : Nat) : Int := if mnR T t = i ∧ 0 < (T (8 * t + i)).toInt then 1 else 0
theorem mnI_rg {T : Nat → Int32} {i : Nat} : ∀ k, 0 ≤ shS (fun t => mnI T t i) k ∧ shS (fun t => mnI T t i) k ≤ (k : Int) := by
  intro k
  induction k with
  | zero => exact ⟨Int.le_refl _, Int.le_refl _⟩
  | succ k ih =>
    have e : 0 ≤ mnI T k i ∧ mnI T k i ≤ 1 := by
      unfold mnI
      split <;> omega
    show 0 ≤ shS (fun t => mnI T t i) k + mnI T k i ∧ shS (fun t => mnI T t i) k + mnI T k i ≤ ((k + 1 : Nat) : Int)
    omega
theorem ma_L7 {Z : jZ} {J : jI} (wJ : WD Z J) (uP : Nat) (kP : jk Z uP 4) (x0 x1 : Nat) (h0 : jr Z uP 0 = some x0) (h1 : jr Z uP 1 = some x1) (o : Nat) (ko : jk Z o 11) (d6 : Nat) (h6 : jr Z o 6 = some d6) (k6 : jk Z d6 14) (l6 : jlen Z d6 = 8) (hm : MAI J x0 x1) {Q : jI → jL → Prop}
    (hQ : ∀ (I : jI) (L : jL), WD Z I → FR [(11, 6)] Z J Z I → (∀ i, i < 8 → (I d6 i).toInt = shS (fun t => mnI (J x0) t i) 24) → Q I L) :
    ∀ (n s : Nat) (v2 : Int32) (I : jI) (L : jL), WD Z I → FR [(11, 6)] Z J Z I → v2.toInt = (s : Int) → s ≤ 24 → (∀ i, i < 8 → (I d6 i).toInt = shS (fun t => mnI (J x0) t i) s) → 25 ≤ n + s → f_X4_mainsInto_L7 Z Q n uP d6 v2 I L := by
  have zn : (nI (jlen Z d6)).toInt = 8 := by rw [l6]; exact i_nI (n := 8) (by omega)
  have z0 : (0 : Int32).toInt = 0 := rfl
  have z1 : (1 : Int32).toInt = 1 := rfl
  have z24 : (24 : Int32).toInt = 24 := rfl
  obtain ⟨y0, y1, y2, e0, e1, e2, k0, k1, k2, l0, l1, l2, n01, n02, n12, na0, na1, na2⟩ := shr_at wJ kP
  cases h0.symm.trans e0; cases h1.symm.trans e1
  intro n
  induction n with
  | zero => intro s v2 I L w fr e2v hs hD hn; omega
  | succ n ih =>
    intro s v2 I L w fr e2v hs hD hn
    have y0 : I x0 = J x0 := fr.2.2.2 uP 4 0 x0 kP h0 (by rw [k0.2]; rfl) rfl (by decide)
    have y1 : I x1 = J x1 := fr.2.2.2 uP 4 1 x1 kP h1 (by rw [k1.2]; rfl) rfl (by decide)
    have q2 : v2.toNatClampNeg = s := by have := i_nat e2v (by omega); omega
    have nx : ∀ x : Int32, x = v2 + 1 → x.toInt = ((s + 1 : Nat) : Int) := fun x ex => by rw [ex]; exact (i_add e2v z1 (by omega) (by omega)).trans (by omega)
    unfold f_X4_mainsInto_L7
    refine ⟨fun c => ?_, fun c => ?_⟩
    · have c := (i_le z24 e2v).mp c
      have es : s = 24 := by omega
      rw [es] at hD
      exact hQ I L w fr hD
    have c := (not_congr (i_le z24 e2v)).mp c
    intro b e
    cases h1.symm.trans e
    refine ⟨vi_of e2v (by omega) (by omega), fun x5 e5 => ?_⟩
    rw [q2, y1] at e5
    have t5 : x5.toInt = (mnR (J x0) s : Int) := by rw [e5]; exact hm s (by omega)
    have l7 := mnR_le (T := J x0) (s := s)
    generalize hg : mnR (J x0) s = m at t5 l7
    have q5 : x5.toNatClampNeg = m := by have := i_nat t5 (by omega); omega
    have more : ∀ i, shS (fun t => mnI (J x0) t i) (s + 1) = shS (fun t => mnI (J x0) t i) s + (if m = i ∧ 0 < (J x0 (8 * s + i)).toInt then 1 else 0) := fun i => by
      show shS (fun t => mnI (J x0) t i) s + mnI (J x0) s i = _
      unfold mnI
      rw [hg]
    refine ⟨fun c2 => ?_, fun _ => ?_⟩
    · have c2 := (i_le zn t5).mp c2
      omega
    refine s15_X4_shareOf w uP v2 x5 kP x0 h0 s m e2v t5 (by omega) (by omega) ⟨fun c3 => ?_, fun c3 => ⟨by rw [l6]; exact vi_of t5 (by omega) (by omega), by rw [l6]; exact vi_of t5 (by omega) (by omega), fun I17 e17 => ?_⟩⟩
    · have c3 := (i_le rfl z0).mp c3
      rw [y0] at c3
      unfold f_X4_mainsInto_b42
      intro x ex
      refine ih (s + 1) x I L w fr (nx x ex) (by omega) (fun i hi => ?_) (by omega)
      rw [more, if_neg (fun h => by rw [← h.1] at h; omega), hD i hi]
      exact (Int.add_zero _).symm
    · have c3 := (not_congr (i_le rfl z0)).mp c3
      rw [y0] at c3
      rw [q5] at e17
      unfold f_X4_mainsInto_b42
      intro x ex
      refine ih (s + 1) x I17 L ?_ ?_ (nx x ex) (by omega) (fun i hi => ?_) (by omega)
      · rw [e17]; exact WD_putA w 11 6 ko h6 k6 rfl rfl (by decide) trivial
      · refine fr.trans wJ.1 wJ.2.1 ?_
        rw [e17]; exact FR_upA w.2.1 ko h6 k6 rfl rfl List.mem_cons_self
      · rw [more, e17]
        have b := mnI_rg (T := J x0) (i := i) s
        by_cases c4 : i = m
        · rw [c4, jpI_at, if_pos ⟨rfl, by omega⟩]
          rw [c4] at b
          have dm := hD m (by omega)
          exact i_add dm z1 (by omega) (by omega)
        · rw [jpI_off c4, if_neg (fun h => c4 h.1.symm), hD i hi]
          exact (Int.add_zero _).symm
theorem s18_X4_mainsInto {Z : jZ} {J : jI} {L : jL} (wJ : WD Z J) (uP : Nat) (kP : jk Z uP 4) (x0 x1 : Nat) (h0 : jr Z uP 0 = some x0) (h1 : jr Z uP 1 = some x1) (o : Nat) (ko : jk Z o 11) (d6 : Nat) (h6 : jr Z o 6 = some d6) (k6 : jk Z d6 14) (l6 : jlen Z d6 = 8) (hm : MAI J x0 x1) {Q : jI → jL → Prop}
    (hQ : ∀ (I : jI) (L : jL), WD Z I → FR [(11, 6)] Z J Z I → (∀ i, i < 8 → (I d6 i).toInt = shS (fun t => mnI (J x0) t i) 24) → Q I L) : f_X4_mainsInto uP d6 Z J L Q := by
  obtain ⟨y0, y1, y2, e0, e1, e2, k0, k1, k2, l0, l1, l2, n01, n02, n12, na0, na1, na2⟩ := shr_at wJ kP
  cases h0.symm.trans e0; cases h1.symm.trans e1
  unfold f_X4_mainsInto
  refine and_J7_fill_53178 (Q1 := fun I' _ => WD Z I' ∧ FR [(11, 6)] Z J Z I') (Q2 := fun I' _ => ∀ i, i < 8 → I' d6 i = 0) (s_J7_fill_53178 wJ d6 0 k6 o 11 6 ko h6 (by decide) rfl (by omega) (fun _ => trivial) (fun I' L' w' f' => ⟨w', f'⟩)) (fill_raw (by omega) (fun I' _ hz i hi => hz i (by omega))) (fun I20 L21 h20 z20 => ?_)
  have y0 : I20 x0 = J x0 := h20.2.2.2.2 uP 4 0 x0 kP h0 (by rw [k0.2]; rfl) rfl (by decide)
  exact ⟨25, ma_L7 wJ uP kP x0 x1 h0 h1 o ko d6 h6 k6 l6 hm hQ 25 0 0 I20 L21 h20.1 h20.2 rfl (by omega) (fun i hi => by rw [z20 i hi]; rfl) (by omega)⟩
/-! what a set has, on both sides -/
theorem amx_top {r : Nat → Int} : ∀ k i, i ≤ k → r i ≤ r (amx r k) := by
  intro k
  induction k with
  | zero =>
    intro i hi
    have : i = 0 := by omega
    rw [this]
    exact Int.le_refl _
  | succ k ih =>
    intro i hi
    show r i ≤ r (if r (amx r k) < r (k + 1) then k + 1 else amx r k)
    by_cases c : r (amx r k) < r (k + 1)
    · rw [if_pos c]
      by_cases ci : i = k + 1
      · rw [ci]; exact Int.le_refl _
      · have := ih i (by omega)
        omega
    · rw [if_neg c]
      by_cases ci : i = k + 1
      · rw [ci]; omega
      · exact ih i (by omega)
theorem mn_pos {n : Nat} {T : Nat → Int32} (h : OWP n T) {s : Nat} (hs : s < n) : 0 < (T (8 * s + mnR T s)).toInt := by
  obtain ⟨h1, h2⟩ := h s hs
  refine Classical.byContradiction (fun q => ?_)
  have z : shS (fun g => (T (8 * s + g)).toInt) 8 = 0 := by
    have e : shS (fun g => (T (8 * s + g)).toInt) 8 = shS (fun _ => 0) 8 := shS_cg 8 (fun i hi => by
      have a := amx_top (r := fun i => (T (8 * s + i)).toInt) 7 i (by omega)
      have a : (T (8 * s + i)).toInt ≤ (T (8 * s + mnR T s)).toInt := a
      have b := h1 i hi
      show (T (8 * s + i)).toInt = 0
      omega)
    rw [e]
    rfl
  omega
theorem shS_one {c : Nat} {b : Nat → Bool} {p : Prop} [Decidable p] : ∀ k, shS (fun i => if b i = true then (if c = i ∧ p then (1 : Int) else 0) else 0) k = if c < k ∧ b c = true ∧ p then 1 else 0 := by
  intro k
  induction k with
  | zero => rw [if_neg (fun h => by omega)]; rfl
  | succ k ih =>
    show shS (fun i => if b i = true then (if c = i ∧ p then (1 : Int) else 0) else 0) k + (if b k = true then (if c = k ∧ p then (1 : Int) else 0) else 0) = _
    rw [ih]
    by_cases e : c = k
    · subst e
      rw [if_neg (fun h => by omega)]
      by_cases hb : b c = true
      · by_cases hp : p
        · rw [if_pos hb, if_pos ⟨rfl, hp⟩, if_pos ⟨by omega, hb, hp⟩]; rfl
        · rw [if_pos hb, if_neg (fun h => hp h.2), if_neg (fun h => hp h.2.2)]; rfl
      · rw [if_neg hb, if_neg (fun h => hb h.2.1)]; rfl
    · have e2 : (if b k = true then (if c = k ∧ p then (1 : Int) else 0) else 0) = 0 := by
        split
        · exact if_neg (fun h => e h.1)
        · rfl
      rw [e2, Int.add_zero]
      by_cases h : c < k ∧ b c = true ∧ p
      · rw [if_pos h, if_pos ⟨by omega, h.2⟩]
      · rw [if_neg h, if_neg (fun q => h ⟨by omega, q.2⟩)]
/-- the steps whose MAIN a set has, counted by families or by steps -/
theorem BS_mn {n : Nat} {P T : Nat → Int32} (hn : n ≤ 24) (h : PP n P T) (b : Int32) : BS (fun i => shS (fun t => mnI P t i) 24) b = shS (fun s => if hbt b (mnR T s) = true then 1 else 0) n := by
  obtain ⟨ha, hz, ho⟩ := h
  have mP : ∀ s, s < n → mnR P s = mnR T s := fun s hs => mnR_cg (fun i hi => ha (8 * s + i) (by omega))
  have e1 : BS (fun i => shS (fun t => mnI P t i) 24) b = shS (fun i => shS (fun t => if hbt b i = true then mnI P t i else 0) 24) 8 := by
    refine shS_cg 8 (fun i hi => ?_)
    show (if hbt b i = true then shS (fun t => mnI P t i) 24 else 0) = shS (fun t => if hbt b i = true then mnI P t i else 0) 24
    by_cases c : hbt b i = true
    · rw [if_pos c]
      exact shS_cg 24 (fun t ht => (if_pos c).symm)
    · rw [if_neg c]
      have e : shS (fun t => if hbt b i = true then mnI P t i else 0) 24 = shS (fun _ => 0) 24 := shS_cg 24 (fun t ht => if_neg c)
      rw [e]
      rfl
  rw [e1, shS_swap (g := fun t i => if hbt b i = true then mnI P t i else 0) (m := 8) 24]
  have e2 : ∀ t, t < 24 → shS (fun i => if hbt b i = true then mnI P t i else 0) 8 = if t < n then (if hbt b (mnR T t) = true then 1 else 0) else 0 := by
    intro t ht
    have l7 := mnR_le (T := P) (s := t)
    have e3 : shS (fun i => if hbt b i = true then mnI P t i else 0) 8 = shS (fun i => if hbt b i = true then (if mnR P t = i ∧ 0 < (P (8 * t + mnR P t)).toInt then (1 : Int) else 0) else 0) 8 := by
      refine shS_cg 8 (fun i hi => ?_)
      show (if hbt b i = true then mnI P t i else 0) = (if hbt b i = true then (if mnR P t = i ∧ 0 < (P (8 * t + mnR P t)).toInt then (1 : Int) else 0) else 0)
      have e9 : (if mnR P t = i ∧ 0 < (P (8 * t + i)).toInt then (1 : Int) else 0) = (if mnR P t = i ∧ 0 < (P (8 * t + mnR P t)).toInt then (1 : Int) else 0) := by
        by_cases c : mnR P t = i
        · rw [c]
        · rw [if_neg (fun h => c h.1), if_neg (fun h => c h.1)]
      unfold mnI
      rw [e9]
    rw [e3, shS_one (c := mnR P t) (b := fun i => hbt b i) (p := 0 < (P (8 * t + mnR P t)).toInt) 8]
    by_cases c : t < n
    · have hp : 0 < (P (8 * t + mnR P t)).toInt := by
        rw [mP t c, ha _ (by have := mnR_le (T := T) (s := t); omega)]
        exact mn_pos ho c
      rw [if_pos c, ← mP t c]
      by_cases d : hbt b (mnR P t) = true
      · rw [if_pos d, if_pos ⟨by omega, d, hp⟩]
      · rw [if_neg d, if_neg (fun h => d h.2.1)]
    · rw [if_neg c]
      refine if_neg (fun h => ?_)
      have := h.2.2
      rw [hz _ (by omega) (by omega)] at this
      exact absurd this (by decide)
  rw [shS_cg 24 e2]
  have e4 := shS_tail (g := fun t => if t < n then (if hbt b (mnR T t) = true then (1 : Int) else 0) else 0) (n := n) (24 - n) (fun i h1 h2 => if_neg (by omega))
  rw [show n + (24 - n) = 24 by omega] at e4
  rw [e4]
  exact shS_cg n (fun s hs => if_pos hs)
/-! ===== rules: the class; both sides tell the same ===== -/
/-- what a set has, to the class -/
def SC (P : Nat → Int32) (v1 v2 : Int32) (b : Int32) : Int := if v1 = 0 then BS (fun k => (P (8 * v2.toNatClampNeg + k)).toInt) b else BS (fun i => shS (fun t => mnI P t i) 24) b
def RULc (P : Nat → Int32) (n : Nat) (v1 v2 r : Int32) : Prop := (¬ RULo n v1 v2 ∧ r.toInt = -1) ∨ (RULo n v1 v2 ∧ r = bcV (fwC (SC P v1 v2) (if v1 = 0 then 720 else (n : Int)) 254))
set_option maxHeartbeats 1000000 in
theorem s18_X11_rules {Z : jZ} {I : jI} {L : jL} (w : WD Z I) (v0 : Nat) (v1 v2 : Int32) (kv0 : jk Z v0 11) (uF uP x0 x1 : Nat) (pc : PC1 Z v0 uF uP x0 x1) (hm : MAI I x0 x1) (n : Nat) (en : (I uF 9).toInt = (n : Int)) (hb : ∀ z, z < 192 → 0 ≤ (I x0 z).toInt ∧ (I x0 z).toInt ≤ 720) {Q : Int32 → jI → jL → Prop} (hQ : ∀ (r : Int32) (I' : jI) (L' : jL), WD Z I' → FR Ws_X11_rules Z I Z I' → RULc (I x0) n v1 v2 r → Q r I' L') : f_X11_rules v0 v1 v2 Z I L Q := by
  obtain ⟨huF, kF, huP, kP, h0, h1⟩ := pc
  obtain ⟨y0, y1, y2, g0, g1, g2, k0, k1, k2, l0, l1, l2, n01, n02, n12, na0, na1, na2⟩ := shr_at w kP
  cases h0.symm.trans g0; cases h1.symm.trans g1
  obtain ⟨d6, h6, k6, l6⟩ := sh_f w.1 kv0 (j := 6) (k := 14) (m := 8) rfl
  have t9 : 0 ≤ (I uF 9).toInt ∧ (I uF 9).toInt ≤ 24 := w.fld 8 9 kF (by decide)
  have z0 : (0 : Int32).toInt = 0 := rfl
  have z1 : (1 : Int32).toInt = 1 := rfl
  have bad : ∀ L', ¬ RULo n v1 v2 → Q (-1 : Int32) I L' := fun L' h => hQ _ I L' w FR.rf (Or.inl ⟨h, rfl⟩)
  -- from the division on
  have tail : ∀ (D : Nat → Int) (I1 : jI) (L1 : jL), 1 ≤ n → (0 ≤ v1.toInt ∧ v1.toInt ≤ 1) → (v1 = 0 → 0 ≤ v2.toInt ∧ v2.toInt < (n : Int)) → WD Z I1 → FR [(11, 6)] Z I Z I1 → (∀ i, i < 8 → (I1 d6 i).toInt = D i) → (∀ i, i < 8 → 0 ≤ D i ∧ D i ≤ 720) → BS D = SC (I x0) v1 v2 → f_X11_rules_b72 Z Q v0 v1 I1 L1 := by
    intro D I1 L1 a1 a2 a3 w1 f1 eD hD hS
    have fin : ∀ s1 : Int32, s1.toInt = (if v1 = 0 then 720 else (n : Int)) → f_X11_rules_b90 Z Q v0 v0 s1 I1 L1 := fun s1 e1 => by
      unfold f_X11_rules_b90
      refine s17_X11_fewestOver w1 v0 s1 d6 h6 D eD hD ?_
      refine s_X11_tellOne w1 v0 _ kv0 (fun I2 L2 w2 f2 => ?_)
      refine s_J6_bitCount_0f7a4 w2 _ (fun r p => ?_)
      refine hQ r I2 L2 w2 (FR.trans w.1 w.2.1 (f1.mono (by decide)) (f2.mono (by decide))) (Or.inr ⟨⟨a1, a2, a3⟩, ?_⟩)
      rw [p.1, hS, e1]
    unfold f_X11_rules_b72
    refine ⟨fun c => ?_, fun c => fin _ (by rw [if_pos c]; rfl)⟩
    intro b e
    cases huF.symm.trans e
    refine fin _ ?_
    rw [if_neg c, f1.2.2.1 uF 8 9 kF (by decide) (by decide)]
    exact en
  have go : 1 ≤ n → (0 ≤ v1.toInt ∧ v1.toInt ≤ 1) → (v1 = 0 → 0 ≤ v2.toInt ∧ v2.toInt < (n : Int)) → f_X11_rules_b36 Z Q v0 v1 v2 I L := by
    intro a1 a2 a3
    unfold f_X11_rules_b36
    refine ⟨fun c => ?_, fun c => ?_⟩
    · intro b e
      cases huF.symm.trans e
      intro b e
      cases huP.symm.trans e
      intro b e
      cases h6.symm.trans e
      refine s18_X4_mainsInto w uP kP x0 x1 h0 h1 v0 kv0 d6 h6 k6 l6 hm (fun I1 L1 w1 f1 hD => ?_)
      refine tail (fun i => shS (fun t => mnI (I x0) t i) 24) I1 L1 a1 a2 a3 w1 f1 hD (fun i hi => ?_) ?_
      · have := mnI_rg (T := I x0) (i := i) 24
        omega
      · funext b
        unfold SC
        rw [if_neg c]
    · intro b e
      cases huF.symm.trans e
      intro b e
      cases huP.symm.trans e
      intro b e
      cases h6.symm.trans e
      have a4 := a3 c
      have n2 := i_nat (x := v2) rfl a4.1
      unfold f_X4_shareInto
      refine ⟨9, si_L2 w uP kP x0 h0 k0 v0 kv0 d6 h6 k6 l6 v2 v2.toNatClampNeg n2.symm (by omega) (fun I1 L1 w1 f1 hD => ?_) 9 0 0 I L w FR.rf rfl (by omega) (fun i hi => by omega) (by omega)⟩
      refine tail (fun k => (I x0 (8 * v2.toNatClampNeg + k)).toInt) I1 L1 a1 a2 a3 w1 f1 (fun i hi => by rw [hD i hi]) (fun i hi => hb _ (by omega)) ?_
      funext b
      unfold SC
      rw [if_pos c]
  unfold f_X11_rules
  refine ⟨fun c => bad L (fun h => by have c := (i_lt rfl z0).mp c; have := h.2.1; omega), fun c => ⟨fun c2 => bad L (fun h => by have c2 := (i_lt z1 rfl).mp c2; have := h.2.1; omega), fun c2 => ?_⟩⟩
  have c := (not_congr (i_lt rfl z0)).mp c
  have c2 := (not_congr (i_lt z1 rfl)).mp c2
  intro b e
  cases huF.symm.trans e
  refine ⟨fun c3 => bad L (fun h => by have c3 := (i_eq rfl z0).mp c3; have := h.1; omega), fun c3 => ?_⟩
  have c3 := (not_congr (i_eq rfl z0)).mp c3
  refine ⟨fun c4 => go (by omega) (by omega) (fun e => absurd e c4), fun c4 => ?_⟩
  intro b e
  cases huF.symm.trans e
  refine s_X8_has w uF v2 kF (fun r p => ⟨fun c5 => ?_, fun c5 => bad L (fun h => ?_)⟩)
  · have c5 := nz c5
    exact go (by omega) (by omega) (fun _ => by omega)
  · have c5 := yz c5
    have := h.2.2 c4
    omega
theorem hbt_all : ∀ k : Nat, k < 8 → hbt (Int32.ofNat 255) k = true := by decide
theorem BS_all {D : Nat → Int} : BS D (Int32.ofNat 255) = shS D 8 := shS_cg 8 (fun i hi => if_pos (hbt_all i hi))
/-- both sides tell the same -/
theorem RUL_eq {n : Nat} {P T : Nat → Int32} {v1 v2 r1 r2 : Int32} (hn : n ≤ 24) (h : PP n P T) (c : RULc P n v1 v2 r1) (m : RULm T n v1 v2 r2) : r1.toInt = r2.toInt := by
  rcases c with ⟨c1, c2⟩ | ⟨c1, c2⟩
  · rcases m with ⟨m1, m2⟩ | ⟨m1, m2⟩
    · rw [c2, m2]
    · exact absurd m1 c1
  · rcases m with ⟨m1, m2⟩ | ⟨m1, m2⟩
    · exact absurd c1 m1
    · rw [c2, m2]
      obtain ⟨o1, o2, o3⟩ := c1
      have hS : ∀ b, SC P v1 v2 b = SM T n v1 v2 b := fun b => by
        unfold SC SM
        by_cases e : v1 = 0
        · rw [if_pos e, if_pos e]
          have a := o3 e
          have n2 := i_nat (x := v2) rfl a.1
          refine shS_cg 8 (fun i hi => ?_)
          show (if hbt b i = true then (P (8 * v2.toNatClampNeg + i)).toInt else 0) = (if hbt b i = true then (T (8 * v2.toNatClampNeg + i)).toInt else 0)
          rw [h.1 (8 * v2.toNatClampNeg + i) (by omega)]
        · rw [if_neg e, if_neg e]
          exact BS_mn hn h b
      have ha : (if v1 = 0 then (720 : Int) else (n : Int)) < 2 * SM T n v1 v2 (Int32.ofNat 255) := by
        unfold SM
        by_cases e : v1 = 0
        · rw [if_pos e, if_pos e, BS_all]
          have a := o3 e
          have n2 := i_nat (x := v2) rfl a.1
          have s := (h.2.2 v2.toNatClampNeg (by omega)).2
          rw [s]
          decide
        · rw [if_neg e, if_neg e]
          have s : shS (fun s => if hbt (Int32.ofNat 255) (mnR T s) = true then (1 : Int) else 0) n = (n : Int) := by
            have q : ∀ k, shS (fun s => if hbt (Int32.ofNat 255) (mnR T s) = true then (1 : Int) else 0) k = (k : Int) := by
              intro k
              induction k with
              | zero => rfl
              | succ k ih =>
                show shS (fun s => if hbt (Int32.ofNat 255) (mnR T s) = true then (1 : Int) else 0) k + (if hbt (Int32.ofNat 255) (mnR T k) = true then (1 : Int) else 0) = ((k + 1 : Nat) : Int)
                rw [ih, if_pos (hbt_all _ (by have := mnR_le (T := T) (s := k); omega))]
                rfl
            exact q n
          rw [s]
          omega
      rw [fw_eq (fun k _ _ => hS _) ha]
/-! ===== who is MAIN, over the calls ===== -/
theorem mnR_z {T : Nat → Int32} (h : ∀ z, T z = 0) (s : Nat) : mnR T s = 0 := by
  have e : mnR T s = amx (fun _ => (0 : Int)) 7 := amx_cg8 7 (fun i _ => by
    show (T (8 * s + i)).toInt = 0
    rw [h]
    rfl)
  rw [e]
  rfl
theorem MAI_frp {Z Z' : jZ} {I I' : jI} {a x0 x1 : Nat} (w : WD Z I) (ka : jk Z a 4) (h0 : jr Z a 0 = some x0) (h1 : jr Z a 1 = some x1) (f : FRp Z I Z' I') (h : MAI I x0 x1) : MAI I' x0 x1 := by
  obtain ⟨y0, y1, y2, e0, e1, e2, k0, k1, k2, -⟩ := shr_at w ka
  cases h0.symm.trans e0; cases h1.symm.trans e1
  exact MAI_eq (funext fun i => f.2 x0 14 i k0 (by omega)) (funext fun i => f.2 x1 14 i k1 (by omega)) h
theorem mj_X11_sells {v0 : Nat} {v1 v2 v3 v4 v5 : Int32} {Z : jZ} {I : jI} {L : jL} {Q2 Q3 : Int32 → jI → jL → Prop} (h2 : f_X11_sells v0 v1 v2 v3 v4 v5 Z I L Q2) (h1 : f_X11_sells v0 v1 v2 v3 v4 v5 Z I L (fun r I L => Q2 r I L → Q3 r I L)) : f_X11_sells v0 v1 v2 v3 v4 v5 Z I L Q3 := and_X11_sells h1 h2 (fun _ _ _ a b => a b)
theorem mj_X11_undo {v0 : Nat} {Z : jZ} {I : jI} {L : jL} {Q2 Q3 : Int32 → jI → jL → Prop} (h2 : f_X11_undo v0 Z I L Q2) (h1 : f_X11_undo v0 Z I L (fun r I L => Q2 r I L → Q3 r I L)) : f_X11_undo v0 Z I L Q3 := and_X11_undo h1 h2 (fun _ _ _ a b => a b)
theorem mj_X11_dies {v0 : Nat} {v1 v2 : Int32} {Z : jZ} {I : jI} {L : jL} {Q2 Q3 : Int32 → jI → jL → Prop} (h2 : f_X11_dies v0 v1 v2 Z I L Q2) (h1 : f_X11_dies v0 v1 v2 Z I L (fun r I L => Q2 r I L → Q3 r I L)) : f_X11_dies v0 v1 v2 Z I L Q3 := and_X11_dies h1 h2 (fun _ _ _ a b => a b)
theorem mj_X11_again {v0 : Nat} {v1 : Int32} {Z : jZ} {I : jI} {L : jL} {Q2 Q3 : Int32 → jI → jL → Prop} (h2 : f_X11_again v0 v1 Z I L Q2) (h1 : f_X11_again v0 v1 Z I L (fun r I L => Q2 r I L → Q3 r I L)) : f_X11_again v0 v1 Z I L Q3 := and_X11_again h1 h2 (fun _ _ _ a b => a b)
theorem mj_X11_stairs {v0 : Nat} {Z : jZ} {I : jI} {L : jL} {Q2 Q3 : Int32 → jI → jL → Prop} (h2 : f_X11_stairs v0 Z I L Q2) (h1 : f_X11_stairs v0 Z I L (fun r I L => Q2 r I L → Q3 r I L)) : f_X11_stairs v0 Z I L Q3 := and_X11_stairs h1 h2 (fun _ _ _ a b => a b)
end
