set_option maxRecDepth 100000 in
def f_X4_inherit_b73 (K30 : Nat → Int32 → Int32 → Int32 → Int32 → Int32 → Int32 → Int32 → jI → jL → Prop) (Z : jZ) (Q : jI → jL → Prop) (v0 : Nat) (v1 : Int32) (v2 : Int32) (v3 : Int32) (v4 : Int32) (v5 : Int32) (v6 : Int32) (v7 : Int32) (I : jI) (L : jL) : Prop := (∀ x1 : Int32, x1 = v7 + 1 → K30 v0 v1 v2 v3 v4 v5 v6 x1 I L)
set_option maxHeartbeats 4000000 in
set_option maxRecDepth 100000 in
theorem m_X4_inherit_b73 {G : jG} {Z : jZ} {Q : jI → jL → Prop} (E : jE G cX4_inherit RX4 w_X4_inherit 8 none { frames := 2, cells := 0, slots := 0, locals := 47 } (rtV Z Q)) (hZ : SH Z) (K30 : Nat → Int32 → Int32 → Int32 → Int32 → Int32 → Int32 → Int32 → jI → jL → Prop) (hK30 : ∀ (v0 : Nat) (v1 : Int32) (v2 : Int32) (v3 : Int32) (v4 : Int32) (v5 : Int32) (v6 : Int32) (v7 : Int32) (I : jI) (L : jL), jk Z v0 4 → K30 v0 v1 v2 v3 v4 v5 v6 v7 I L → jJ G 8 30 [(0, .ref v0), (1, .int v1), (2, .int v2), (3, .int v3), (4, .int v4), (5, .int v5), (6, .int v6), (7, .int v7)] [] Z I L 0 0) (v0 : Nat) (v1 : Int32) (v2 : Int32) (v3 : Int32) (v4 : Int32) (v5 : Int32) (v6 : Int32) (v7 : Int32) (I : jI) (L : jL) (kv0 : jk Z v0 4) (h : f_X4_inherit_b73 K30 Z Q v0 v1 v2 v3 v4 v5 v6 v7 I L) : jJ G 8 73 [(0, .ref v0), (1, .int v1), (2, .int v2), (3, .int v3), (4, .int v4), (5, .int v5), (6, .int v6), (7, .int v7)] [] Z I L 0 0 := by
  obtain ⟨x1, ex1⟩ : ∃ y : Int32, y = v7 + 1 := ⟨_, rfl⟩
  have h := h x1 ex1
  refine j_iinc E x1 [(7, .int x1), (0, .ref v0), (1, .int v1), (2, .int v2), (3, .int v3), (4, .int v4), (5, .int v5), (6, .int v6)] dX4_inherit_73 7 rfl (by rw [ex1]; rfl) (by decide) rfl ?_
  refine j_goto E 30 dX4_inherit_76 (by decide) ?_
  refine j_sub [1, 2, 3, 4, 5, 6, 7, 0] rfl ?_
  exact hK30 v0 v1 v2 v3 v4 v5 v6 x1 I L kv0 h
set_option maxRecDepth 100000 in
def f_X4_inherit_b66 (K30 : Nat → Int32 → Int32 → Int32 → Int32 → Int32 → Int32 → Int32 → jI → jL → Prop) (Z : jZ) (Q : jI → jL → Prop) (v0 : Nat) (v1 : Int32) (v2 : Int32) (v3 : Int32) (v4 : Int32) (v5 : Int32) (v6 : Int32) (v7 : Int32) (s0 : Nat) (s1 : Int32) (s2 : Int32) (s3 : Int32) (s4 : Int32) (s5 : Int32) (I : jI) (L : jL) : Prop := (f_X4_move s0 s1 s2 s3 (s4 + s5) Z I L (fun I4 L5 => (∀ x7 : Int32, x7 = v6 + (-1) → f_X4_inherit_b73 K30 Z Q v0 v1 v2 v3 v4 v5 x7 v7 I4 L5)))
set_option maxHeartbeats 4000000 in
set_option maxRecDepth 100000 in
theorem m_X4_inherit_b66 {G : jG} {Z : jZ} {Q : jI → jL → Prop} (E : jE G cX4_inherit RX4 w_X4_inherit 8 none { frames := 2, cells := 0, slots := 0, locals := 47 } (rtV Z Q)) (hZ : SH Z) (K30 : Nat → Int32 → Int32 → Int32 → Int32 → Int32 → Int32 → Int32 → jI → jL → Prop) (hK30 : ∀ (v0 : Nat) (v1 : Int32) (v2 : Int32) (v3 : Int32) (v4 : Int32) (v5 : Int32) (v6 : Int32) (v7 : Int32) (I : jI) (L : jL), jk Z v0 4 → K30 v0 v1 v2 v3 v4 v5 v6 v7 I L → jJ G 8 30 [(0, .ref v0), (1, .int v1), (2, .int v2), (3, .int v3), (4, .int v4), (5, .int v5), (6, .int v6), (7, .int v7)] [] Z I L 0 0) (v0 : Nat) (v1 : Int32) (v2 : Int32) (v3 : Int32) (v4 : Int32) (v5 : Int32) (v6 : Int32) (v7 : Int32) (s0 : Nat) (s1 : Int32) (s2 : Int32) (s3 : Int32) (s4 : Int32) (s5 : Int32) (I : jI) (L : jL) (kv0 : jk Z v0 4) (ks0 : jk Z s0 4) (h : f_X4_inherit_b66 K30 Z Q v0 v1 v2 v3 v4 v5 v6 v7 s0 s1 s2 s3 s4 s5 I L) : jJ G 8 66 [(0, .ref v0), (1, .int v1), (2, .int v2), (3, .int v3), (4, .int v4), (5, .int v5), (6, .int v6), (7, .int v7)] [.int s5, .int s4, .int s3, .int s2, .int s1, .ref s0] Z I L 0 0 := by
  refine j_iadd E dX4_inherit_66 ?_
  refine j_callV E [.int s1, .int s2, .int s3, .int (s4 + s5)] [] (c_X4_move (gL G) (gD G) (gY G) s0 s1 s2 s3 (s4 + s5) Z I L _ hZ ks0 h) (gwV W_230 W_231 W_232 W_154 W_229) rfl ⟨rfl, fy_X4_move⟩ ⟨by decide, by decide⟩ (c := 4) rfl (by decide) ks0 rfl rfl (Nat.le_of_ble_eq_true rfl) ⟨Nat.zero_le _, Nat.zero_le _⟩ dX4_inherit_67 (fun v2 Z3 I4 L5 q6 => ?_)
  obtain ⟨rfl, rfl, h⟩ := q6
  show jJ G 8 70 [(0, .ref v0), (1, .int v1), (2, .int v2), (3, .int v3), (4, .int v4), (5, .int v5), (6, .int v6), (7, .int v7)] [] Z I4 L5 0 0
  obtain ⟨x7, ex7⟩ : ∃ y : Int32, y = v6 + (-1) := ⟨_, rfl⟩
  have h := h x7 ex7
  refine j_iinc E x7 [(6, .int x7), (0, .ref v0), (1, .int v1), (2, .int v2), (3, .int v3), (4, .int v4), (5, .int v5), (7, .int v7)] dX4_inherit_70 6 rfl (by rw [ex7]; rfl) (by decide) rfl ?_
  refine j_sub [1, 2, 3, 4, 5, 6, 0, 7] rfl ?_
  exact m_X4_inherit_b73 E hZ K30 hK30 v0 v1 v2 v3 v4 v5 x7 v7 I4 L5 kv0 h
set_option maxRecDepth 100000 in
def f_X4_inherit_L30  (Z : jZ) (Q : jI → jL → Prop) : Nat → Nat → Int32 → Int32 → Int32 → Int32 → Int32 → Int32 → Int32 → jI → jL → Prop
  | 0 => fun _ _ _ _ _ _ _ _ _ _ => False
  | n + 1 => fun v0 v1 v2 v3 v4 v5 v6 v7 I L => (((8 : Int32) ≤ v7 → Q I L) ∧ (¬ ((8 : Int32) ≤ v7) → ((((v3 >>> (v7 &&& 31)) &&& (1 : Int32)) = 0 → f_X4_inherit_b73 (f_X4_inherit_L30 Z Q n) Z Q v0 v1 v2 v3 v4 v5 v6 v7 I L) ∧ (¬ (((v3 >>> (v7 &&& 31)) &&& (1 : Int32)) = 0) → (¬ v5 = 0 ∧ ((v6 ≤ 0 → f_X4_inherit_b66 (f_X4_inherit_L30 Z Q n) Z Q v0 v1 v2 v3 v4 v5 v6 v7 v0 v1 v2 v7 (v4 / v5) (0 : Int32) I L) ∧ (¬ (v6 ≤ 0) → f_X4_inherit_b66 (f_X4_inherit_L30 Z Q n) Z Q v0 v1 v2 v3 v4 v5 v6 v7 v0 v1 v2 v7 (v4 / v5) (1 : Int32) I L)))))))
set_option maxHeartbeats 4000000 in
set_option maxRecDepth 100000 in
theorem m_X4_inherit_L30 {G : jG} {Z : jZ} {Q : jI → jL → Prop} (E : jE G cX4_inherit RX4 w_X4_inherit 8 none { frames := 2, cells := 0, slots := 0, locals := 47 } (rtV Z Q)) (hZ : SH Z)  : ∀ (n : Nat) (v0 : Nat) (v1 : Int32) (v2 : Int32) (v3 : Int32) (v4 : Int32) (v5 : Int32) (v6 : Int32) (v7 : Int32) (I : jI) (L : jL), jk Z v0 4 → f_X4_inherit_L30  Z Q n v0 v1 v2 v3 v4 v5 v6 v7 I L → jJ G 8 30 [(0, .ref v0), (1, .int v1), (2, .int v2), (3, .int v3), (4, .int v4), (5, .int v5), (6, .int v6), (7, .int v7)] [] Z I L 0 0 := by
  intro n
  induction n with
  | zero => intro v0 v1 v2 v3 v4 v5 v6 v7 I L _ h; exact h.elim
  | succ n ih =>
    intro v0 v1 v2 v3 v4 v5 v6 v7 I L kv0 h
    have h : (((8 : Int32) ≤ v7 → Q I L) ∧ (¬ ((8 : Int32) ≤ v7) → ((((v3 >>> (v7 &&& 31)) &&& (1 : Int32)) = 0 → f_X4_inherit_b73 (f_X4_inherit_L30 Z Q n) Z Q v0 v1 v2 v3 v4 v5 v6 v7 I L) ∧ (¬ (((v3 >>> (v7 &&& 31)) &&& (1 : Int32)) = 0) → (¬ v5 = 0 ∧ ((v6 ≤ 0 → f_X4_inherit_b66 (f_X4_inherit_L30 Z Q n) Z Q v0 v1 v2 v3 v4 v5 v6 v7 v0 v1 v2 v7 (v4 / v5) (0 : Int32) I L) ∧ (¬ (v6 ≤ 0) → f_X4_inherit_b66 (f_X4_inherit_L30 Z Q n) Z Q v0 v1 v2 v3 v4 v5 v6 v7 v0 v1 v2 v7 (v4 / v5) (1 : Int32) I L))))))) := h
    obtain ⟨K30, eK30⟩ : ∃ K : Nat → Int32 → Int32 → Int32 → Int32 → Int32 → Int32 → Int32 → jI → jL → Prop, K = f_X4_inherit_L30  Z Q n := ⟨_, rfl⟩
    have hK30 := ih
    clear eK30 K30
    generalize f_X4_inherit_L30  Z Q n = K30 at hK30 h
    refine j_iload E dX4_inherit_30 7 rfl ?_
    refine j_bipush E (v := 8) dX4_inherit_32 (by decide) ?_
    refine j_icmp_ge E 79 dX4_inherit_34 (by decide) (fun c8 => ?_) (fun c8 => ?_)
    · have h := h.1 c8
      exact j_return E ⟨rfl, rfl, h⟩ (Nat.zero_le _) (Nat.zero_le _) dX4_inherit_79
    · have h := h.2 c8
      refine j_iload_n E dX4_inherit_37 3 rfl ?_
      refine j_iload E dX4_inherit_38 7 rfl ?_
      refine j_ishr E dX4_inherit_40 ?_
      refine j_iconst E (v := 1) dX4_inherit_41 (by decide) ?_
      refine j_iand E dX4_inherit_42 ?_
      refine j_if_eq E 73 dX4_inherit_43 (by decide) (fun c9 => ?_) (fun c9 => ?_)
      · have h := h.1 c9
        refine j_sub [0, 1, 2, 3, 4, 5, 6, 7] rfl ?_
        exact m_X4_inherit_b73 E hZ K30 hK30 v0 v1 v2 v3 v4 v5 v6 v7 I L kv0 h
      · have h := h.2 c9
        refine j_aload_n E dX4_inherit_46 0 rfl ?_
        refine j_iload_n E dX4_inherit_47 1 rfl ?_
        refine j_iload_n E dX4_inherit_48 2 rfl ?_
        refine j_iload E dX4_inherit_49 7 rfl ?_
        refine j_iload E dX4_inherit_51 4 rfl ?_
        refine j_iload E dX4_inherit_53 5 rfl ?_
        obtain ⟨o10, h⟩ := h
        refine j_idiv E dX4_inherit_55 o10 ?_
        refine j_iload E dX4_inherit_56 6 rfl ?_
        refine j_if_le E 65 dX4_inherit_58 (by decide) (fun c11 => ?_) (fun c11 => ?_)
        · have h := h.1 c11
          refine j_iconst E (v := 0) dX4_inherit_65 (by decide) ?_
          refine j_sub [0, 1, 2, 3, 4, 5, 6, 7] rfl ?_
          exact m_X4_inherit_b66 E hZ K30 hK30 v0 v1 v2 v3 v4 v5 v6 v7 v0 v1 v2 v7 (v4 / v5) (0 : Int32) I L kv0 kv0 h
        · have h := h.2 c11
          refine j_iconst E (v := 1) dX4_inherit_61 (by decide) ?_
          refine j_goto E 66 dX4_inherit_62 (by decide) ?_
          refine j_sub [0, 1, 2, 3, 4, 5, 6, 7] rfl ?_
          exact m_X4_inherit_b66 E hZ K30 hK30 v0 v1 v2 v3 v4 v5 v6 v7 v0 v1 v2 v7 (v4 / v5) (1 : Int32) I L kv0 kv0 h
set_option maxRecDepth 100000 in
def f_X4_inherit (v0 : Nat) (v1 : Int32) (v2 : Int32) (v3 : Int32) (Z : jZ) (I : jI) (L : jL) (Q : jI → jL → Prop) : Prop := (f_X4_shareOf v0 v1 v2 Z I L (fun r17 I14 L15 => (f_J6_bitCount_0f7a4 v3 Z I14 L15 (fun r23 I20 L21 => ((¬ r23 = 0 → (¬ r23 = 0 ∧ (∀ x26 : Int32, x26 = (r17 - r17 / r23 * r23) → (∃ m30 : Nat, f_X4_inherit_L30  Z Q m30 v0 v1 v2 v3 r17 r23 x26 (0 : Int32) I20 L21)))) ∧ (r23 = 0 → Q I20 L21))))))
set_option maxHeartbeats 4000000 in
set_option maxRecDepth 100000 in
theorem c_X4_inherit (l : Launch) (D : va_G) (cy : jC) (v0 : Nat) (v1 : Int32) (v2 : Int32) (v3 : Int32) (Z : jZ) (I : jI) (L : jL) (Q : jI → jL → Prop) (hZ : SH Z) (kv0 : jk Z v0 4) (h : f_X4_inherit v0 v1 v2 v3 Z I L Q) : jCt l yX4_inherit w_X4_inherit { frames := 2, cells := 0, slots := 0, locals := 47 } D cy [.ref v0, .int v1, .int v2, .int v3] Z I L (rtV Z Q) := by
  refine jCt_of (cc := cX4_inherit) (maxL := 8) (ret := none) (by decide +kernel) rfl (Nat.le_of_ble_eq_true rfl) ?_
  intro G eD eY eL E
  subst eD; subst eY; subst eL
  have E : jE G cX4_inherit RX4 w_X4_inherit 8 none { frames := 2, cells := 0, slots := 0, locals := 47 } (rtV Z Q) := E
  show jJ G 8 0 [(0, .ref v0), (1, .int v1), (2, .int v2), (3, .int v3)] [] Z I L 0 0
  refine j_aload_n E dX4_inherit_0 0 rfl ?_
  refine j_iload_n E dX4_inherit_1 1 rfl ?_
  refine j_iload_n E dX4_inherit_2 2 rfl ?_
  refine j_callV E [.int v1, .int v2] [] (c_X4_shareOf (gL G) (gD G) (gY G) v0 v1 v2 Z I L _ hZ kv0 h) (gwV W_217 W_218 W_219 W_154 W_216) rfl ⟨rfl, fy_X4_shareOf⟩ ⟨by decide, by decide⟩ (c := 4) rfl (by decide) kv0 rfl rfl (Nat.le_of_ble_eq_true rfl) ⟨Nat.zero_le _, Nat.zero_le _⟩ dX4_inherit_3 (fun v12 Z13 I14 L15 q16 => ?_)
  obtain ⟨rfl, r17, rfl, h⟩ := q16
  show jJ G 8 6 [(0, .ref v0), (1, .int v1), (2, .int v2), (3, .int v3)] [.int r17] Z I14 L15 0 0
  refine j_istore E 4 [(4, .int r17), (0, .ref v0), (1, .int v1), (2, .int v2), (3, .int v3)] dX4_inherit_6 (by decide) rfl ?_
  refine j_iload_n E dX4_inherit_8 4 rfl ?_
  refine j_callS E [.int v3] [] (c_J6_bitCount_0f7a4 (gL G) (gD G) (gY G) v3 Z I14 L15 _ hZ  h) (gwS W_235 W_236 W_234 W_233) rfl fy_J6_bitCount_0f7a4 ⟨by decide, by decide⟩ rfl rfl (Nat.le_of_ble_eq_true rfl) ⟨Nat.zero_le _, Nat.zero_le _⟩ dX4_inherit_9 (fun v18 Z19 I20 L21 q22 => ?_)
  obtain ⟨rfl, r23, rfl, h⟩ := q22
  show jJ G 8 12 [(4, .int r17), (0, .ref v0), (1, .int v1), (2, .int v2), (3, .int v3)] [.int r23] Z I20 L21 0 0
  refine j_istore E 5 [(5, .int r23), (4, .int r17), (0, .ref v0), (1, .int v1), (2, .int v2), (3, .int v3)] dX4_inherit_12 (by decide) rfl ?_
  refine j_iload E dX4_inherit_14 0 rfl ?_
  refine j_if_ne E 20 dX4_inherit_16 (by decide) (fun c24 => ?_) (fun c24 => ?_)
  · have h := h.1 c24
    refine j_iload E dX4_inherit_20 1 rfl ?_
    refine j_iload E dX4_inherit_22 0 rfl ?_
    obtain ⟨o25, h⟩ := h
    refine j_irem E dX4_inherit_24 o25 ?_
    refine j_topi (fun x26 ex26 => ?_)
    have h := h x26 ex26
    refine j_istore E 6 [(6, .int x26), (5, .int r23), (4, .int r17), (0, .ref v0), (1, .int v1), (2, .int v2), (3, .int v3)] dX4_inherit_25 (by decide) rfl ?_
    refine j_iconst E (v := 0) dX4_inherit_27 (by decide) ?_
    refine j_istore E 7 [(7, .int (0 : Int32)), (6, .int x26), (5, .int r23), (4, .int r17), (0, .ref v0), (1, .int v1), (2, .int v2), (3, .int v3)] dX4_inherit_28 (by decide) rfl ?_
    obtain ⟨n27, h⟩ := h
    refine j_sub [4, 5, 6, 7, 3, 2, 1, 0] rfl ?_
    exact m_X4_inherit_L30 E hZ  n27 v0 v1 v2 v3 r17 r23 x26 (0 : Int32) I20 L21 kv0 h
  · have h := h.2 c24
    exact j_return E ⟨rfl, rfl, h⟩ (Nat.zero_le _) (Nat.zero_le _) dX4_inherit_19
set_option maxRecDepth 100000 in
def f_X5_startAnew (v0 : Nat) (Z : jZ) (I : jI) (L : jL) (Q : jI → jL → Prop) : Prop := (∀ I1 : jI, I1 = jpI I v0 5 (-1 : Int32) → (∀ I2 : jI, I2 = jpI I1 v0 6 (I1 v0 0) → (∀ I3 : jI, I3 = jpI I2 v0 7 (I2 v0 1) → Q I3 L)))
set_option maxHeartbeats 4000000 in
set_option maxRecDepth 100000 in
theorem c_X5_startAnew (l : Launch) (D : va_G) (cy : jC) (v0 : Nat) (Z : jZ) (I : jI) (L : jL) (Q : jI → jL → Prop) (hZ : SH Z) (kv0 : jk Z v0 5) (h : f_X5_startAnew v0 Z I L Q) : jCt l yX5_startAnew w_X5_startAnew { frames := 0, cells := 0, slots := 0, locals := 0 } D cy [.ref v0] Z I L (rtV Z Q) := by
  refine jCt_of (cc := cX5_startAnew) (maxL := 1) (ret := none) (by decide +kernel) rfl (Nat.le_of_ble_eq_true rfl) ?_
  intro G eD eY eL E
  subst eD; subst eY; subst eL
  have E : jE G cX5_startAnew RX5 w_X5_startAnew 1 none { frames := 0, cells := 0, slots := 0, locals := 0 } (rtV Z Q) := E
  show jJ G 1 0 [(0, .ref v0)] [] Z I L 0 0
  refine j_aload_n E dX5_startAnew_0 0 rfl ?_
  refine j_iconst E (v := -1) dX5_startAnew_1 (by decide) ?_
  refine j_puti E 5 5 rfl rfl (by decide) (by decide) (iw iT_5) tyX5_ok nmX5 rfl rfl (tw W_237) rfl rfl rfl kv0 dX5_startAnew_2 ?_
  refine j_nmI (fun I1 eI1 => ?_)
  have h := h I1 eI1
  refine j_aload_n E dX5_startAnew_5 0 rfl ?_
  refine j_aload_n E dX5_startAnew_6 0 rfl ?_
  refine j_geti E 5 0 rfl rfl (by decide) (by decide) (iw iT_5) rfl rfl (tw W_238) kv0 dX5_startAnew_7 ?_
  refine j_puti E 5 6 rfl rfl (by decide) (by decide) (iw iT_5) tyX5_ok nmX5 rfl rfl (tw W_239) rfl rfl rfl kv0 dX5_startAnew_10 ?_
  refine j_nmI (fun I2 eI2 => ?_)
  have h := h I2 eI2
  refine j_aload_n E dX5_startAnew_13 0 rfl ?_
  refine j_aload_n E dX5_startAnew_14 0 rfl ?_
  refine j_geti E 5 1 rfl rfl (by decide) (by decide) (iw iT_5) rfl rfl (tw W_240) kv0 dX5_startAnew_15 ?_
  refine j_puti E 5 7 rfl rfl (by decide) (by decide) (iw iT_5) tyX5_ok nmX5 rfl rfl (tw W_241) rfl rfl rfl kv0 dX5_startAnew_18 ?_
  refine j_nmI (fun I3 eI3 => ?_)
  have h := h I3 eI3
  exact j_return E ⟨rfl, rfl, h⟩ (Nat.zero_le _) (Nat.zero_le _) dX5_startAnew_21
set_option maxRecDepth 100000 in
def f_X5_comesTo (v0 : Nat) (v1 : Int32) (Z : jZ) (I : jI) (L : jL) (Q : Int32 → jI → jL → Prop) : Prop := ((v1 ≤ (I v0 5) → Q (0 : Int32) I L) ∧ (¬ (v1 ≤ (I v0 5)) → (((I v0 2) < (v1 - (I v0 5)) → Q (0 : Int32) I L) ∧ (¬ ((I v0 2) < (v1 - (I v0 5))) → Q (1 : Int32) I L))))
set_option maxHeartbeats 4000000 in
set_option maxRecDepth 100000 in
theorem c_X5_comesTo (l : Launch) (D : va_G) (cy : jC) (v0 : Nat) (v1 : Int32) (Z : jZ) (I : jI) (L : jL) (Q : Int32 → jI → jL → Prop) (hZ : SH Z) (kv0 : jk Z v0 5) (h : f_X5_comesTo v0 v1 Z I L Q) : jCt l yX5_comesTo w_X5_comesTo { frames := 0, cells := 0, slots := 0, locals := 0 } D cy [.ref v0, .int v1] Z I L (rtZ Z Q) := by
  refine jCt_of (cc := cX5_comesTo) (maxL := 2) (ret := (some .boolean)) (by decide +kernel) rfl (Nat.le_of_ble_eq_true rfl) ?_
  intro G eD eY eL E
  subst eD; subst eY; subst eL
  have E : jE G cX5_comesTo RX5 w_X5_comesTo 2 (some .boolean) { frames := 0, cells := 0, slots := 0, locals := 0 } (rtZ Z Q) := E
  show jJ G 2 0 [(0, .ref v0), (1, .int v1)] [] Z I L 0 0
  refine j_iload_n E dX5_comesTo_0 1 rfl ?_
  refine j_aload_n E dX5_comesTo_1 0 rfl ?_
  refine j_geti E 5 5 rfl rfl (by decide) (by decide) (iw iT_5) rfl rfl (tw W_237) kv0 dX5_comesTo_2 ?_
  refine j_icmp_le E 25 dX5_comesTo_5 (by decide) (fun c1 => ?_) (fun c1 => ?_)
  · have h := h.1 c1
    refine j_iconst E (v := 0) dX5_comesTo_25 (by decide) ?_
    exact j_zreturn E (Or.inl rfl) ⟨rfl, _, rfl, (Or.inl rfl), h⟩ (Nat.zero_le _) (Nat.zero_le _) dX5_comesTo_26
  · have h := h.2 c1
    refine j_iload_n E dX5_comesTo_8 1 rfl ?_
    refine j_aload_n E dX5_comesTo_9 0 rfl ?_
    refine j_geti E 5 5 rfl rfl (by decide) (by decide) (iw iT_5) rfl rfl (tw W_237) kv0 dX5_comesTo_10 ?_
    refine j_isub E dX5_comesTo_13 ?_
    refine j_aload_n E dX5_comesTo_14 0 rfl ?_
    refine j_geti E 5 2 rfl rfl (by decide) (by decide) (iw iT_5) rfl rfl (tw W_242) kv0 dX5_comesTo_15 ?_
    refine j_icmp_gt E 25 dX5_comesTo_18 (by decide) (fun c2 => ?_) (fun c2 => ?_)
    · have h := h.1 c2
      refine j_iconst E (v := 0) dX5_comesTo_25 (by decide) ?_
      exact j_zreturn E (Or.inl rfl) ⟨rfl, _, rfl, (Or.inl rfl), h⟩ (Nat.zero_le _) (Nat.zero_le _) dX5_comesTo_26
    · have h := h.2 c2
      refine j_iconst E (v := 1) dX5_comesTo_21 (by decide) ?_
      refine j_goto E 26 dX5_comesTo_22 (by decide) ?_
      exact j_zreturn E (Or.inr rfl) ⟨rfl, _, rfl, (Or.inr rfl), h⟩ (Nat.zero_le _) (Nat.zero_le _) dX5_comesTo_26
set_option maxRecDepth 100000 in
def f_X5_vowsAgainst (v0 : Nat) (v1 : Int32) (Z : jZ) (I : jI) (L : jL) (Q : Int32 → jI → jL → Prop) : Prop := (((((I v0 4) >>> (v1 &&& 31)) &&& (1 : Int32)) = 0 → Q (0 : Int32) I L) ∧ (¬ ((((I v0 4) >>> (v1 &&& 31)) &&& (1 : Int32)) = 0) → Q (1 : Int32) I L))
set_option maxHeartbeats 4000000 in
set_option maxRecDepth 100000 in
theorem c_X5_vowsAgainst (l : Launch) (D : va_G) (cy : jC) (v0 : Nat) (v1 : Int32) (Z : jZ) (I : jI) (L : jL) (Q : Int32 → jI → jL → Prop) (hZ : SH Z) (kv0 : jk Z v0 5) (h : f_X5_vowsAgainst v0 v1 Z I L Q) : jCt l yX5_vowsAgainst w_X5_vowsAgainst { frames := 0, cells := 0, slots := 0, locals := 0 } D cy [.ref v0, .int v1] Z I L (rtZ Z Q) := by
  refine jCt_of (cc := cX5_vowsAgainst) (maxL := 2) (ret := (some .boolean)) (by decide +kernel) rfl (Nat.le_of_ble_eq_true rfl) ?_
  intro G eD eY eL E
  subst eD; subst eY; subst eL
  have E : jE G cX5_vowsAgainst RX5 w_X5_vowsAgainst 2 (some .boolean) { frames := 0, cells := 0, slots := 0, locals := 0 } (rtZ Z Q) := E
  show jJ G 2 0 [(0, .ref v0), (1, .int v1)] [] Z I L 0 0
  refine j_aload_n E dX5_vowsAgainst_0 0 rfl ?_
  refine j_geti E 5 4 rfl rfl (by decide) (by decide) (iw iT_5) rfl rfl (tw W_243) kv0 dX5_vowsAgainst_1 ?_
  refine j_iload_n E dX5_vowsAgainst_4 1 rfl ?_
  refine j_ishr E dX5_vowsAgainst_5 ?_
  refine j_iconst E (v := 1) dX5_vowsAgainst_6 (by decide) ?_
  refine j_iand E dX5_vowsAgainst_7 ?_
  refine j_if_eq E 15 dX5_vowsAgainst_8 (by decide) (fun c1 => ?_) (fun c1 => ?_)
  · have h := h.1 c1
    refine j_iconst E (v := 0) dX5_vowsAgainst_15 (by decide) ?_
    exact j_zreturn E (Or.inl rfl) ⟨rfl, _, rfl, (Or.inl rfl), h⟩ (Nat.zero_le _) (Nat.zero_le _) dX5_vowsAgainst_16
  · have h := h.2 c1
    refine j_iconst E (v := 1) dX5_vowsAgainst_11 (by decide) ?_
    refine j_goto E 16 dX5_vowsAgainst_12 (by decide) ?_
    exact j_zreturn E (Or.inr rfl) ⟨rfl, _, rfl, (Or.inr rfl), h⟩ (Nat.zero_le _) (Nat.zero_le _) dX5_vowsAgainst_16
set_option maxRecDepth 100000 in
def f_X8_has (v0 : Nat) (v1 : Int32) (Z : jZ) (I : jI) (L : jL) (Q : Int32 → jI → jL → Prop) : Prop := ((v1 < 0 → Q (0 : Int32) I L) ∧ (¬ (v1 < 0) → (((I v0 9) ≤ v1 → Q (0 : Int32) I L) ∧ (¬ ((I v0 9) ≤ v1) → (((24 : Int32) ≤ v1 → Q (0 : Int32) I L) ∧ (¬ ((24 : Int32) ≤ v1) → Q (1 : Int32) I L))))))
set_option maxHeartbeats 4000000 in
set_option maxRecDepth 100000 in
theorem c_X8_has (l : Launch) (D : va_G) (cy : jC) (v0 : Nat) (v1 : Int32) (Z : jZ) (I : jI) (L : jL) (Q : Int32 → jI → jL → Prop) (hZ : SH Z) (kv0 : jk Z v0 8) (h : f_X8_has v0 v1 Z I L Q) : jCt l yX8_has w_X8_has { frames := 0, cells := 0, slots := 0, locals := 0 } D cy [.ref v0, .int v1] Z I L (rtZ Z Q) := by
  refine jCt_of (cc := cX8_has) (maxL := 2) (ret := (some .boolean)) (by decide +kernel) rfl (Nat.le_of_ble_eq_true rfl) ?_
  intro G eD eY eL E
  subst eD; subst eY; subst eL
  have E : jE G cX8_has RX8 w_X8_has 2 (some .boolean) { frames := 0, cells := 0, slots := 0, locals := 0 } (rtZ Z Q) := E
  show jJ G 2 0 [(0, .ref v0), (1, .int v1)] [] Z I L 0 0
  refine j_iload_n E dX8_has_0 1 rfl ?_
  refine j_if_lt E 22 dX8_has_1 (by decide) (fun c1 => ?_) (fun c1 => ?_)
  · have h := h.1 c1
    refine j_iconst E (v := 0) dX8_has_22 (by decide) ?_
    exact j_zreturn E (Or.inl rfl) ⟨rfl, _, rfl, (Or.inl rfl), h⟩ (Nat.zero_le _) (Nat.zero_le _) dX8_has_23
  · have h := h.2 c1
    refine j_iload_n E dX8_has_4 1 rfl ?_
    refine j_aload_n E dX8_has_5 0 rfl ?_
    refine j_geti E 8 9 rfl rfl (by decide) (by decide) (iw iT_8) rfl rfl (tw W_244) kv0 dX8_has_6 ?_
    refine j_icmp_ge E 22 dX8_has_9 (by decide) (fun c2 => ?_) (fun c2 => ?_)
    · have h := h.1 c2
      refine j_iconst E (v := 0) dX8_has_22 (by decide) ?_
      exact j_zreturn E (Or.inl rfl) ⟨rfl, _, rfl, (Or.inl rfl), h⟩ (Nat.zero_le _) (Nat.zero_le _) dX8_has_23
    · have h := h.2 c2
      refine j_iload_n E dX8_has_12 1 rfl ?_
      refine j_bipush E (v := 24) dX8_has_13 (by decide) ?_
      refine j_icmp_ge E 22 dX8_has_15 (by decide) (fun c3 => ?_) (fun c3 => ?_)
      · have h := h.1 c3
        refine j_iconst E (v := 0) dX8_has_22 (by decide) ?_
        exact j_zreturn E (Or.inl rfl) ⟨rfl, _, rfl, (Or.inl rfl), h⟩ (Nat.zero_le _) (Nat.zero_le _) dX8_has_23
      · have h := h.2 c3
        refine j_iconst E (v := 1) dX8_has_18 (by decide) ?_
        refine j_goto E 23 dX8_has_19 (by decide) ?_
        exact j_zreturn E (Or.inr rfl) ⟨rfl, _, rfl, (Or.inr rfl), h⟩ (Nat.zero_le _) (Nat.zero_le _) dX8_has_23
set_option maxRecDepth 100000 in
def f_X8_inFeud (v0 : Nat) (v1 : Int32) (v2 : Int32) (Z : jZ) (I : jI) (L : jL) (Q : Int32 → jI → jL → Prop) : Prop := ((v1 < 0 → Q (0 : Int32) I L) ∧ (¬ (v1 < 0) → (((8 : Int32) ≤ v1 → Q (0 : Int32) I L) ∧ (¬ ((8 : Int32) ≤ v1) → (∀ b3 : Nat, jr Z v0 5 = some b3 → (vp_in v1 8 ∧ (((((I b3 v1.toNatClampNeg) >>> (v2 &&& 31)) &&& (1 : Int32)) = 0 → Q (0 : Int32) I L) ∧ (¬ ((((I b3 v1.toNatClampNeg) >>> (v2 &&& 31)) &&& (1 : Int32)) = 0) → Q (1 : Int32) I L))))))))
set_option maxHeartbeats 4000000 in
set_option maxRecDepth 100000 in
theorem c_X8_inFeud (l : Launch) (D : va_G) (cy : jC) (v0 : Nat) (v1 : Int32) (v2 : Int32) (Z : jZ) (I : jI) (L : jL) (Q : Int32 → jI → jL → Prop) (hZ : SH Z) (kv0 : jk Z v0 8) (h : f_X8_inFeud v0 v1 v2 Z I L Q) : jCt l yX8_inFeud w_X8_inFeud { frames := 0, cells := 0, slots := 0, locals := 0 } D cy [.ref v0, .int v1, .int v2] Z I L (rtZ Z Q) := by
  refine jCt_of (cc := cX8_inFeud) (maxL := 3) (ret := (some .boolean)) (by decide +kernel) rfl (Nat.le_of_ble_eq_true rfl) ?_
  intro G eD eY eL E
  subst eD; subst eY; subst eL
  have E : jE G cX8_inFeud RX8 w_X8_inFeud 3 (some .boolean) { frames := 0, cells := 0, slots := 0, locals := 0 } (rtZ Z Q) := E
  show jJ G 3 0 [(0, .ref v0), (1, .int v1), (2, .int v2)] [] Z I L 0 0
  refine j_iload_n E dX8_inFeud_0 1 rfl ?_
  refine j_if_lt E 27 dX8_inFeud_1 (by decide) (fun c1 => ?_) (fun c1 => ?_)
  · have h := h.1 c1
    refine j_iconst E (v := 0) dX8_inFeud_27 (by decide) ?_
    exact j_zreturn E (Or.inl rfl) ⟨rfl, _, rfl, (Or.inl rfl), h⟩ (Nat.zero_le _) (Nat.zero_le _) dX8_inFeud_28
  · have h := h.2 c1
    refine j_iload_n E dX8_inFeud_4 1 rfl ?_
    refine j_bipush E (v := 8) dX8_inFeud_5 (by decide) ?_
    refine j_icmp_ge E 27 dX8_inFeud_7 (by decide) (fun c2 => ?_) (fun c2 => ?_)
    · have h := h.1 c2
      refine j_iconst E (v := 0) dX8_inFeud_27 (by decide) ?_
      exact j_zreturn E (Or.inl rfl) ⟨rfl, _, rfl, (Or.inl rfl), h⟩ (Nat.zero_le _) (Nat.zero_le _) dX8_inFeud_28
    · have h := h.2 c2
      refine j_aload_n E dX8_inFeud_10 0 rfl ?_
      obtain ⟨b3, eb3, kb3, lb3⟩ := sh_f hZ kv0 (j := 5) (k := 14) (m := 8) rfl
      have h := h b3 eb3
      refine j_getr E 8 5 rfl rfl (by decide) (by decide) (iw iT_8) rfl rfl (tw W_245) kv0 eb3 dX8_inFeud_11 ?_
      refine j_iload_n E dX8_inFeud_14 1 rfl ?_
      obtain ⟨o4, h⟩ := h
      refine j_iald E kb3 (by rw [lb3]; exact o4) dX8_inFeud_15 ?_
      refine j_iload_n E dX8_inFeud_16 2 rfl ?_
      refine j_ishr E dX8_inFeud_17 ?_
      refine j_iconst E (v := 1) dX8_inFeud_18 (by decide) ?_
      refine j_iand E dX8_inFeud_19 ?_
      refine j_if_eq E 27 dX8_inFeud_20 (by decide) (fun c5 => ?_) (fun c5 => ?_)
      · have h := h.1 c5
        refine j_iconst E (v := 0) dX8_inFeud_27 (by decide) ?_
        exact j_zreturn E (Or.inl rfl) ⟨rfl, _, rfl, (Or.inl rfl), h⟩ (Nat.zero_le _) (Nat.zero_le _) dX8_inFeud_28
      · have h := h.2 c5
        refine j_iconst E (v := 1) dX8_inFeud_23 (by decide) ?_
        refine j_goto E 28 dX8_inFeud_24 (by decide) ?_
        exact j_zreturn E (Or.inr rfl) ⟨rfl, _, rfl, (Or.inr rfl), h⟩ (Nat.zero_le _) (Nat.zero_le _) dX8_inFeud_28
set_option maxRecDepth 100000 in
def f_X8_putLetters_b98  (Z : jZ) (Q : jI → jL → Prop) (v0 : Nat) (v3 : Int32) (v4 : Int32) (s0 : Nat) (s1 : Int32) (s2 : Int32) (I : jI) (L : jL) : Prop := (vp_in s1 (jlen Z s0) ∧ (∀ I2 : jI, I2 = jpI I s0 s1.toNatClampNeg s2 → (∀ b3 : Nat, jr Z v0 8 = some b3 → (∀ I4 : jI, I4 = jpI I2 b3 (5 : Int32).toNatClampNeg v4 → (∀ b5 : Nat, jr Z v0 8 = some b5 → (∀ I6 : jI, I6 = jpI I4 b5 (6 : Int32).toNatClampNeg v3 → Q I6 L))))))
set_option maxHeartbeats 4000000 in
set_option maxRecDepth 100000 in
theorem m_X8_putLetters_b98 {G : jG} {Z : jZ} {Q : jI → jL → Prop} (E : jE G cX8_putLetters RX8 w_X8_putLetters 5 none { frames := 1, cells := 0, slots := 0, locals := 22 } (rtV Z Q)) (hZ : SH Z)  (v0 : Nat) (v3 : Int32) (v4 : Int32) (s0 : Nat) (s1 : Int32) (s2 : Int32) (I : jI) (L : jL) (kv0 : jk Z v0 8) (ks0 : jk Z s0 14) (h : f_X8_putLetters_b98  Z Q v0 v3 v4 s0 s1 s2 I L) : jJ G 5 98 [(0, .ref v0), (3, .int v3), (4, .int v4)] [.int s2, .int s1, .ref s0] Z I L 0 0 := by
  obtain ⟨o1, h⟩ := h
  refine j_iast E ks0 o1 dX8_putLetters_98 ?_
  refine j_nmI (fun I2 eI2 => ?_)
  have h := h I2 eI2
  refine j_aload_n E dX8_putLetters_99 0 rfl ?_
  obtain ⟨b3, eb3, kb3, lb3⟩ := sh_f hZ kv0 (j := 8) (k := 14) (m := 7) rfl
  have h := h b3 eb3
  refine j_getr E 8 8 rfl rfl (by decide) (by decide) (iw iT_8) rfl rfl (tw W_246) kv0 eb3 dX8_putLetters_100 ?_
  refine j_iconst E (v := 5) dX8_putLetters_103 (by decide) ?_
  refine j_iload E dX8_putLetters_104 2 rfl ?_
  refine j_iast E kb3 (by rw [lb3]; exact vp_in_lit (by decide)) dX8_putLetters_106 ?_
  refine j_nmI (fun I4 eI4 => ?_)
  have h := h I4 eI4
  refine j_aload_n E dX8_putLetters_107 0 rfl ?_
  obtain ⟨b5, eb5, kb5, lb5⟩ := sh_f hZ kv0 (j := 8) (k := 14) (m := 7) rfl
  have h := h b5 eb5
  refine j_getr E 8 8 rfl rfl (by decide) (by decide) (iw iT_8) rfl rfl (tw W_246) kv0 eb5 dX8_putLetters_108 ?_
  refine j_bipush E (v := 6) dX8_putLetters_111 (by decide) ?_
  refine j_iload_n E dX8_putLetters_113 1 rfl ?_
  refine j_iast E kb5 (by rw [lb5]; exact vp_in_lit (by decide)) dX8_putLetters_114 ?_
  refine j_nmI (fun I6 eI6 => ?_)
  have h := h I6 eI6
  exact j_return E ⟨rfl, rfl, h⟩ (Nat.zero_le _) (Nat.zero_le _) dX8_putLetters_115
set_option maxRecDepth 100000 in
def f_X8_putLetters_b97  (Z : jZ) (Q : jI → jL → Prop) (v0 : Nat) (v3 : Int32) (v4 : Int32) (s0 : Nat) (s1 : Int32) (I : jI) (L : jL) : Prop := f_X8_putLetters_b98  Z Q v0 v3 v4 s0 s1 (0 : Int32) I L
set_option maxHeartbeats 4000000 in
set_option maxRecDepth 100000 in
theorem m_X8_putLetters_b97 {G : jG} {Z : jZ} {Q : jI → jL → Prop} (E : jE G cX8_putLetters RX8 w_X8_putLetters 5 none { frames := 1, cells := 0, slots := 0, locals := 22 } (rtV Z Q)) (hZ : SH Z)  (v0 : Nat) (v3 : Int32) (v4 : Int32) (s0 : Nat) (s1 : Int32) (I : jI) (L : jL) (kv0 : jk Z v0 8) (ks0 : jk Z s0 14) (h : f_X8_putLetters_b97  Z Q v0 v3 v4 s0 s1 I L) : jJ G 5 97 [(0, .ref v0), (3, .int v3), (4, .int v4)] [.int s1, .ref s0] Z I L 0 0 := by
  refine j_iconst E (v := 0) dX8_putLetters_97 (by decide) ?_
  refine j_sub [0, 1, 2] rfl ?_
  exact m_X8_putLetters_b98 E hZ  v0 v3 v4 s0 s1 (0 : Int32) I L kv0 ks0 h
set_option maxRecDepth 100000 in
def f_X8_putLetters (v0 : Nat) (v1 : Int32) (v2 : Int32) (v3 : Int32) (v4 : Int32) (Z : jZ) (I : jI) (L : jL) (Q : jI → jL → Prop) : Prop := (f_X8_has v0 v1 Z I L (fun r12 I9 L10 => ((¬ r12 = 0 → (∀ b14 : Nat, jr Z v0 8 = some b14 → (∀ b15 : Nat, jr Z v0 2 = some b15 → (vp_in v1 24 ∧ (∀ I17 : jI, I17 = jpI I9 b14 (0 : Int32).toNatClampNeg (I9 b15 v1.toNatClampNeg) → (∀ b18 : Nat, jr Z v0 8 = some b18 → (∀ b19 : Nat, jr Z v0 0 = some b19 → (vp_in v1 24 ∧ (∀ I21 : jI, I21 = jpI I17 b18 (1 : Int32).toNatClampNeg (I17 b19 v1.toNatClampNeg) → (∀ b22 : Nat, jr Z v0 8 = some b22 → (∀ b23 : Nat, jr Z v0 1 = some b23 → (vp_in v1 24 ∧ (∀ I25 : jI, I25 = jpI I21 b22 (2 : Int32).toNatClampNeg (I21 b23 v1.toNatClampNeg) → (∀ b26 : Nat, jr Z v0 8 = some b26 → (∀ b27 : Nat, jr Z v0 3 = some b27 → (vp_in v1 24 ∧ (∀ I29 : jI, I29 = jpI I25 b26 (3 : Int32).toNatClampNeg (I25 b27 v1.toNatClampNeg) → (∀ b30 : Nat, jr Z v0 8 = some b30 → (f_X8_has v0 v2 Z I29 L10 (fun r36 I33 L34 => ((r36 = 0 → f_X8_putLetters_b97  Z Q v0 v3 v4 b30 (4 : Int32) I33 L34) ∧ (¬ (r36 = 0) → (∀ b38 : Nat, jr Z v0 4 = some b38 → (f_X4_mainOf b38 v1 Z I33 L34 (fun r44 I41 L42 => (∀ b45 : Nat, jr Z v0 4 = some b45 → (f_X4_mainOf b45 v2 Z I41 L42 (fun r51 I48 L49 => (f_X8_inFeud v0 r44 r51 Z I48 L49 (fun r57 I54 L55 => ((r57 = 0 → f_X8_putLetters_b97  Z Q v0 v3 v4 b30 (4 : Int32) I54 L55) ∧ (¬ (r57 = 0) → f_X8_putLetters_b98  Z Q v0 v3 v4 b30 (4 : Int32) (1 : Int32) I54 L55)))))))))))))))))))))))))))))))) ∧ (r12 = 0 → Q I9 L10))))
set_option maxHeartbeats 4000000 in
set_option maxRecDepth 100000 in
theorem c_X8_putLetters (l : Launch) (D : va_G) (cy : jC) (v0 : Nat) (v1 : Int32) (v2 : Int32) (v3 : Int32) (v4 : Int32) (Z : jZ) (I : jI) (L : jL) (Q : jI → jL → Prop) (hZ : SH Z) (kv0 : jk Z v0 8) (h : f_X8_putLetters v0 v1 v2 v3 v4 Z I L Q) : jCt l yX8_putLetters w_X8_putLetters { frames := 1, cells := 0, slots := 0, locals := 22 } D cy [.ref v0, .int v1, .int v2, .int v3, .int v4] Z I L (rtV Z Q) := by
  refine jCt_of (cc := cX8_putLetters) (maxL := 5) (ret := none) (by decide +kernel) rfl (Nat.le_of_ble_eq_true rfl) ?_
  intro G eD eY eL E
  subst eD; subst eY; subst eL
  have E : jE G cX8_putLetters RX8 w_X8_putLetters 5 none { frames := 1, cells := 0, slots := 0, locals := 22 } (rtV Z Q) := E
  show jJ G 5 0 [(0, .ref v0), (1, .int v1), (2, .int v2), (3, .int v3), (4, .int v4)] [] Z I L 0 0
  refine j_aload_n E dX8_putLetters_0 0 rfl ?_
  refine j_iload_n E dX8_putLetters_1 1 rfl ?_
  refine j_callV E [.int v1] [] (c_X8_has (gL G) (gD G) (gY G) v0 v1 Z I L _ hZ kv0 h) (gwV W_249 W_250 W_251 W_248 W_247) rfl ⟨rfl, fy_X8_has⟩ ⟨by decide, by decide⟩ (c := 8) rfl (by decide) kv0 rfl rfl (Nat.le_of_ble_eq_true rfl) ⟨Nat.zero_le _, Nat.zero_le _⟩ dX8_putLetters_2 (fun v7 Z8 I9 L10 q11 => ?_)
  obtain ⟨rfl, r12, rfl, zr12, h⟩ := q11
  show jJ G 5 5 [(0, .ref v0), (1, .int v1), (2, .int v2), (3, .int v3), (4, .int v4)] [.int r12] Z I9 L10 0 0
  refine j_if_ne E 9 dX8_putLetters_5 (by decide) (fun c13 => ?_) (fun c13 => ?_)
  · have h := h.1 c13
    refine j_aload_n E dX8_putLetters_9 0 rfl ?_
    obtain ⟨b14, eb14, kb14, lb14⟩ := sh_f hZ kv0 (j := 8) (k := 14) (m := 7) rfl
    have h := h b14 eb14
    refine j_getr E 8 8 rfl rfl (by decide) (by decide) (iw iT_8) rfl rfl (tw W_246) kv0 eb14 dX8_putLetters_10 ?_
    refine j_iconst E (v := 0) dX8_putLetters_13 (by decide) ?_
    refine j_aload_n E dX8_putLetters_14 0 rfl ?_
    obtain ⟨b15, eb15, kb15, lb15⟩ := sh_f hZ kv0 (j := 2) (k := 14) (m := 24) rfl
    have h := h b15 eb15
    refine j_getr E 8 2 rfl rfl (by decide) (by decide) (iw iT_8) rfl rfl (tw W_252) kv0 eb15 dX8_putLetters_15 ?_
    refine j_iload_n E dX8_putLetters_18 1 rfl ?_
    obtain ⟨o16, h⟩ := h
    refine j_iald E kb15 (by rw [lb15]; exact o16) dX8_putLetters_19 ?_
    refine j_iast E kb14 (by rw [lb14]; exact vp_in_lit (by decide)) dX8_putLetters_20 ?_
    refine j_nmI (fun I17 eI17 => ?_)
    have h := h I17 eI17
    refine j_aload_n E dX8_putLetters_21 0 rfl ?_
    obtain ⟨b18, eb18, kb18, lb18⟩ := sh_f hZ kv0 (j := 8) (k := 14) (m := 7) rfl
    have h := h b18 eb18
    refine j_getr E 8 8 rfl rfl (by decide) (by decide) (iw iT_8) rfl rfl (tw W_246) kv0 eb18 dX8_putLetters_22 ?_
    refine j_iconst E (v := 1) dX8_putLetters_25 (by decide) ?_
    refine j_aload_n E dX8_putLetters_26 0 rfl ?_
    obtain ⟨b19, eb19, kb19, lb19⟩ := sh_f hZ kv0 (j := 0) (k := 14) (m := 24) rfl
    have h := h b19 eb19
    refine j_getr E 8 0 rfl rfl (by decide) (by decide) (iw iT_8) rfl rfl (tw W_253) kv0 eb19 dX8_putLetters_27 ?_
    refine j_iload_n E dX8_putLetters_30 1 rfl ?_
    obtain ⟨o20, h⟩ := h
    refine j_iald E kb19 (by rw [lb19]; exact o20) dX8_putLetters_31 ?_
    refine j_iast E kb18 (by rw [lb18]; exact vp_in_lit (by decide)) dX8_putLetters_32 ?_
    refine j_nmI (fun I21 eI21 => ?_)
    have h := h I21 eI21
    refine j_aload_n E dX8_putLetters_33 0 rfl ?_
    obtain ⟨b22, eb22, kb22, lb22⟩ := sh_f hZ kv0 (j := 8) (k := 14) (m := 7) rfl
    have h := h b22 eb22
    refine j_getr E 8 8 rfl rfl (by decide) (by decide) (iw iT_8) rfl rfl (tw W_246) kv0 eb22 dX8_putLetters_34 ?_
    refine j_iconst E (v := 2) dX8_putLetters_37 (by decide) ?_
    refine j_aload_n E dX8_putLetters_38 0 rfl ?_
    obtain ⟨b23, eb23, kb23, lb23⟩ := sh_f hZ kv0 (j := 1) (k := 14) (m := 24) rfl
    have h := h b23 eb23
    refine j_getr E 8 1 rfl rfl (by decide) (by decide) (iw iT_8) rfl rfl (tw W_254) kv0 eb23 dX8_putLetters_39 ?_
    refine j_iload_n E dX8_putLetters_42 1 rfl ?_
    obtain ⟨o24, h⟩ := h
    refine j_iald E kb23 (by rw [lb23]; exact o24) dX8_putLetters_43 ?_
    refine j_iast E kb22 (by rw [lb22]; exact vp_in_lit (by decide)) dX8_putLetters_44 ?_
    refine j_nmI (fun I25 eI25 => ?_)
    have h := h I25 eI25
    refine j_aload_n E dX8_putLetters_45 0 rfl ?_
    obtain ⟨b26, eb26, kb26, lb26⟩ := sh_f hZ kv0 (j := 8) (k := 14) (m := 7) rfl
    have h := h b26 eb26
    refine j_getr E 8 8 rfl rfl (by decide) (by decide) (iw iT_8) rfl rfl (tw W_246) kv0 eb26 dX8_putLetters_46 ?_
    refine j_iconst E (v := 3) dX8_putLetters_49 (by decide) ?_
    refine j_aload_n E dX8_putLetters_50 0 rfl ?_
    obtain ⟨b27, eb27, kb27, lb27⟩ := sh_f hZ kv0 (j := 3) (k := 14) (m := 24) rfl
    have h := h b27 eb27
    refine j_getr E 8 3 rfl rfl (by decide) (by decide) (iw iT_8) rfl rfl (tw W_255) kv0 eb27 dX8_putLetters_51 ?_
    refine j_iload_n E dX8_putLetters_54 1 rfl ?_
    obtain ⟨o28, h⟩ := h
    refine j_iald E kb27 (by rw [lb27]; exact o28) dX8_putLetters_55 ?_
    refine j_iast E kb26 (by rw [lb26]; exact vp_in_lit (by decide)) dX8_putLetters_56 ?_
    refine j_nmI (fun I29 eI29 => ?_)
    have h := h I29 eI29
    refine j_aload_n E dX8_putLetters_57 0 rfl ?_
    obtain ⟨b30, eb30, kb30, lb30⟩ := sh_f hZ kv0 (j := 8) (k := 14) (m := 7) rfl
    have h := h b30 eb30
    refine j_getr E 8 8 rfl rfl (by decide) (by decide) (iw iT_8) rfl rfl (tw W_246) kv0 eb30 dX8_putLetters_58 ?_
    refine j_iconst E (v := 4) dX8_putLetters_61 (by decide) ?_
    refine j_aload_n E dX8_putLetters_62 0 rfl ?_
    refine j_iload_n E dX8_putLetters_63 2 rfl ?_
    refine j_callV E [.int v2] [.int (4 : Int32), .ref b30] (c_X8_has (gL G) (gD G) (gY G) v0 v2 Z I29 L10 _ hZ kv0 h) (gwV W_249 W_250 W_251 W_248 W_247) rfl ⟨rfl, fy_X8_has⟩ ⟨by decide, by decide⟩ (c := 8) rfl (by decide) kv0 rfl rfl (Nat.le_of_ble_eq_true rfl) ⟨Nat.zero_le _, Nat.zero_le _⟩ dX8_putLetters_64 (fun v31 Z32 I33 L34 q35 => ?_)
    obtain ⟨rfl, r36, rfl, zr36, h⟩ := q35
    show jJ G 5 67 [(0, .ref v0), (1, .int v1), (2, .int v2), (3, .int v3), (4, .int v4)] [.int r36, .int (4 : Int32), .ref b30] Z I33 L34 0 0
    refine j_if_eq E 97 dX8_putLetters_67 (by decide) (fun c37 => ?_) (fun c37 => ?_)
    · have h := h.1 c37
      refine j_sub [0, 3, 4] rfl ?_
      exact m_X8_putLetters_b97 E hZ  v0 v3 v4 b30 (4 : Int32) I33 L34 kv0 kb30 h
    · have h := h.2 c37
      refine j_aload_n E dX8_putLetters_70 0 rfl ?_
      refine j_aload_n E dX8_putLetters_71 0 rfl ?_
      obtain ⟨b38, eb38, kb38⟩ := sh_o hZ kv0 (j := 4) (k := 4) rfl
      have h := h b38 eb38
      refine j_getr E 8 4 rfl rfl (by decide) (by decide) (iw iT_8) rfl rfl (tw W_256) kv0 eb38 dX8_putLetters_72 ?_
      refine j_iload_n E dX8_putLetters_75 1 rfl ?_
      refine j_callV E [.int v1] [.ref v0, .int (4 : Int32), .ref b30] (c_X4_mainOf (gL G) (gD G) (gY G) b38 v1 Z I33 L34 _ hZ kb38 h) (gwV W_258 W_259 W_260 W_154 W_257) rfl ⟨rfl, fy_X4_mainOf⟩ ⟨by decide, by decide⟩ (c := 4) rfl (by decide) kb38 rfl rfl (Nat.le_of_ble_eq_true rfl) ⟨Nat.zero_le _, Nat.zero_le _⟩ dX8_putLetters_76 (fun v39 Z40 I41 L42 q43 => ?_)
      obtain ⟨rfl, r44, rfl, h⟩ := q43
      show jJ G 5 79 [(0, .ref v0), (1, .int v1), (2, .int v2), (3, .int v3), (4, .int v4)] [.int r44, .ref v0, .int (4 : Int32), .ref b30] Z I41 L42 0 0
      refine j_aload_n E dX8_putLetters_79 0 rfl ?_
      obtain ⟨b45, eb45, kb45⟩ := sh_o hZ kv0 (j := 4) (k := 4) rfl
      have h := h b45 eb45
      refine j_getr E 8 4 rfl rfl (by decide) (by decide) (iw iT_8) rfl rfl (tw W_256) kv0 eb45 dX8_putLetters_80 ?_
      refine j_iload_n E dX8_putLetters_83 2 rfl ?_
      refine j_callV E [.int v2] [.int r44, .ref v0, .int (4 : Int32), .ref b30] (c_X4_mainOf (gL G) (gD G) (gY G) b45 v2 Z I41 L42 _ hZ kb45 h) (gwV W_258 W_259 W_260 W_154 W_257) rfl ⟨rfl, fy_X4_mainOf⟩ ⟨by decide, by decide⟩ (c := 4) rfl (by decide) kb45 rfl rfl (Nat.le_of_ble_eq_true rfl) ⟨Nat.zero_le _, Nat.zero_le _⟩ dX8_putLetters_84 (fun v46 Z47 I48 L49 q50 => ?_)
      obtain ⟨rfl, r51, rfl, h⟩ := q50
      show jJ G 5 87 [(0, .ref v0), (1, .int v1), (2, .int v2), (3, .int v3), (4, .int v4)] [.int r51, .int r44, .ref v0, .int (4 : Int32), .ref b30] Z I48 L49 0 0
      refine j_callV E [.int r44, .int r51] [.int (4 : Int32), .ref b30] (c_X8_inFeud (gL G) (gD G) (gY G) v0 r44 r51 Z I48 L49 _ hZ kv0 h) (gwV W_262 W_263 W_264 W_248 W_261) rfl ⟨rfl, fy_X8_inFeud⟩ ⟨by decide, by decide⟩ (c := 8) rfl (by decide) kv0 rfl rfl (Nat.le_of_ble_eq_true rfl) ⟨Nat.zero_le _, Nat.zero_le _⟩ dX8_putLetters_87 (fun v52 Z53 I54 L55 q56 => ?_)
      obtain ⟨rfl, r57, rfl, zr57, h⟩ := q56
      show jJ G 5 90 [(0, .ref v0), (1, .int v1), (2, .int v2), (3, .int v3), (4, .int v4)] [.int r57, .int (4 : Int32), .ref b30] Z I54 L55 0 0
      refine j_if_eq E 97 dX8_putLetters_90 (by decide) (fun c58 => ?_) (fun c58 => ?_)
      · have h := h.1 c58
        refine j_sub [0, 3, 4] rfl ?_
        exact m_X8_putLetters_b97 E hZ  v0 v3 v4 b30 (4 : Int32) I54 L55 kv0 kb30 h
      · have h := h.2 c58
        refine j_iconst E (v := 1) dX8_putLetters_93 (by decide) ?_
        refine j_goto E 98 dX8_putLetters_94 (by decide) ?_
        refine j_sub [0, 3, 4] rfl ?_
        exact m_X8_putLetters_b98 E hZ  v0 v3 v4 b30 (4 : Int32) (1 : Int32) I54 L55 kv0 kb30 h
  · have h := h.2 c13
    exact j_return E ⟨rfl, rfl, h⟩ (Nat.zero_le _) (Nat.zero_le _) dX8_putLetters_8
set_option maxRecDepth 100000 in
def f_X8_priceOf_b15  (Z : jZ) (Q : Int32 → jI → jL → Prop) (v0 : Nat) (v1 : Int32) (v2 : Int32) (v3 : Int32) (v4 : Int32) (v5 : Int32) (s0 : Nat) (I : jI) (L : jL) : Prop := (f_X8_has v0 v2 Z I L (fun r6 I3 L4 => ((¬ r6 = 0 → (f_X3_isTold s0 Z I3 L4 (fun r13 I10 L11 => ((¬ r13 = 0 → (f_X8_putLetters v0 v2 v3 v4 v5 Z I10 L11 (fun I17 L18 => (∀ b20 : Nat, jr Z v0 8 = some b20 → (f_X3_priceFor s0 b20 Z I17 L18 (fun r26 I23 L24 => Q r26 I23 L24)))))) ∧ (r13 = 0 → ((¬ v1 = 0 → Q (0 : Int32) I10 L11) ∧ (v1 = 0 → (∀ b28 : Nat, jr Z v0 3 = some b28 → (vp_in v2 24 ∧ ((¬ (I10 b28 v2.toNatClampNeg) = 0 → Q (0 : Int32) I10 L11) ∧ ((I10 b28 v2.toNatClampNeg) = 0 → (∀ b31 : Nat, jr Z v0 2 = some b31 → (vp_in v2 24 ∧ Q (I10 b31 v2.toNatClampNeg) I10 L11))))))))))))) ∧ (r6 = 0 → Q (0 : Int32) I3 L4))))
set_option maxHeartbeats 4000000 in
set_option maxRecDepth 100000 in
theorem m_X8_priceOf_b15 {G : jG} {Z : jZ} {Q : Int32 → jI → jL → Prop} (E : jE G cX8_priceOf RX8 w_X8_priceOf 7 (some .int) { frames := 2, cells := 0, slots := 0, locals := 48 } (rtI Z Q)) (hZ : SH Z)  (v0 : Nat) (v1 : Int32) (v2 : Int32) (v3 : Int32) (v4 : Int32) (v5 : Int32) (s0 : Nat) (I : jI) (L : jL) (kv0 : jk Z v0 8) (ks0 : jk Z s0 3) (h : f_X8_priceOf_b15  Z Q v0 v1 v2 v3 v4 v5 s0 I L) : jJ G 7 15 [(0, .ref v0), (1, .int v1), (2, .int v2), (3, .int v3), (4, .int v4), (5, .int v5)] [.ref s0] Z I L 0 0 := by
  refine j_astore E 6 [(6, .ref s0), (0, .ref v0), (1, .int v1), (2, .int v2), (3, .int v3), (4, .int v4), (5, .int v5)] dX8_priceOf_15 (by decide) rfl ?_
  refine j_aload_n E dX8_priceOf_17 1 rfl ?_
  refine j_iload_n E dX8_priceOf_18 3 rfl ?_
  refine j_callV E [.int v2] [] (c_X8_has (gL G) (gD G) (gY G) v0 v2 Z I L _ hZ kv0 h) (gwV W_249 W_250 W_251 W_248 W_247) rfl ⟨rfl, fy_X8_has⟩ ⟨by decide, by decide⟩ (c := 8) rfl (by decide) kv0 rfl rfl (Nat.le_of_ble_eq_true rfl) ⟨Nat.zero_le _, Nat.zero_le _⟩ dX8_priceOf_19 (fun v1 Z2 I3 L4 q5 => ?_)
  obtain ⟨rfl, r6, rfl, zr6, h⟩ := q5
  show jJ G 7 22 [(6, .ref s0), (0, .ref v0), (1, .int v1), (2, .int v2), (3, .int v3), (4, .int v4), (5, .int v5)] [.int r6] Z I3 L4 0 0
  refine j_if_ne E 27 dX8_priceOf_22 (by decide) (fun c7 => ?_) (fun c7 => ?_)
  · have h := h.1 c7
    refine j_aload E dX8_priceOf_27 0 rfl ?_
    refine j_callV E [] [] (c_X3_isTold (gL G) (gD G) (gY G) s0 Z I3 L4 _ hZ ks0 h) (gwV W_265 W_175 W_176 W_173 W_172) rfl ⟨rfl, fy_X3_isTold⟩ ⟨by decide, by decide⟩ (c := 3) rfl (by decide) ks0 rfl rfl (Nat.le_of_ble_eq_true rfl) ⟨Nat.zero_le _, Nat.zero_le _⟩ dX8_priceOf_29 (fun v8 Z9 I10 L11 q12 => ?_)
    obtain ⟨rfl, r13, rfl, zr13, h⟩ := q12
    show jJ G 7 32 [(6, .ref s0), (0, .ref v0), (1, .int v1), (2, .int v2), (3, .int v3), (4, .int v4), (5, .int v5)] [.int r13] Z I10 L11 0 0
    refine j_if_ne E 59 dX8_priceOf_32 (by decide) (fun c14 => ?_) (fun c14 => ?_)
    · have h := h.1 c14
      refine j_aload_n E dX8_priceOf_59 1 rfl ?_
      refine j_iload_n E dX8_priceOf_60 3 rfl ?_
      refine j_iload_n E dX8_priceOf_61 4 rfl ?_
      refine j_iload E dX8_priceOf_62 5 rfl ?_
      refine j_iload E dX8_priceOf_64 6 rfl ?_
      refine j_callV E [.int v2, .int v3, .int v4, .int v5] [] (c_X8_putLetters (gL G) (gD G) (gY G) v0 v2 v3 v4 v5 Z I10 L11 _ hZ kv0 h) (gwV W_267 W_268 W_269 W_248 W_266) rfl ⟨rfl, fy_X8_putLetters⟩ ⟨by decide, by decide⟩ (c := 8) rfl (by decide) kv0 rfl rfl (Nat.le_of_ble_eq_true rfl) ⟨Nat.zero_le _, Nat.zero_le _⟩ dX8_priceOf_66 (fun v15 Z16 I17 L18 q19 => ?_)
      obtain ⟨rfl, rfl, h⟩ := q19
      show jJ G 7 69 [(6, .ref s0), (0, .ref v0), (1, .int v1), (2, .int v2), (3, .int v3), (4, .int v4), (5, .int v5)] [] Z I17 L18 0 0
      refine j_aload E dX8_priceOf_69 0 rfl ?_
      refine j_aload_n E dX8_priceOf_71 1 rfl ?_
      obtain ⟨b20, eb20, kb20, lb20⟩ := sh_f hZ kv0 (j := 8) (k := 14) (m := 7) rfl
      have h := h b20 eb20
      refine j_getr E 8 8 rfl rfl (by decide) (by decide) (iw iT_8) rfl rfl (tw W_246) kv0 eb20 dX8_priceOf_72 ?_
      refine j_callV E [.ref b20] [] (c_X3_priceFor (gL G) (gD G) (gY G) s0 b20 Z I17 L18 _ hZ ks0 kb20 h) (gwV W_271 W_272 W_273 W_173 W_270) rfl ⟨rfl, fy_X3_priceFor⟩ ⟨by decide, by decide⟩ (c := 3) rfl (by decide) ks0 rfl rfl (Nat.le_of_ble_eq_true rfl) ⟨Nat.zero_le _, Nat.zero_le _⟩ dX8_priceOf_75 (fun v21 Z22 I23 L24 q25 => ?_)
      obtain ⟨rfl, r26, rfl, h⟩ := q25
      show jJ G 7 78 [(6, .ref s0), (0, .ref v0), (1, .int v1), (2, .int v2), (3, .int v3), (4, .int v4), (5, .int v5)] [.int r26] Z I23 L24 0 0
      exact j_ireturn E ⟨rfl, _, rfl, h⟩ (Nat.zero_le _) (Nat.zero_le _) dX8_priceOf_78
    · have h := h.2 c14
      refine j_iload_n E dX8_priceOf_35 2 rfl ?_
      refine j_if_ne E 57 dX8_priceOf_36 (by decide) (fun c27 => ?_) (fun c27 => ?_)
      · have h := h.1 c27
        refine j_iconst E (v := 0) dX8_priceOf_57 (by decide) ?_
        exact j_ireturn E ⟨rfl, _, rfl, h⟩ (Nat.zero_le _) (Nat.zero_le _) dX8_priceOf_58
      · have h := h.2 c27
        refine j_aload_n E dX8_priceOf_39 1 rfl ?_
        obtain ⟨b28, eb28, kb28, lb28⟩ := sh_f hZ kv0 (j := 3) (k := 14) (m := 24) rfl
        have h := h b28 eb28
        refine j_getr E 8 3 rfl rfl (by decide) (by decide) (iw iT_8) rfl rfl (tw W_255) kv0 eb28 dX8_priceOf_40 ?_
        refine j_iload_n E dX8_priceOf_43 3 rfl ?_
        obtain ⟨o29, h⟩ := h
        refine j_iald E kb28 (by rw [lb28]; exact o29) dX8_priceOf_44 ?_
        refine j_if_ne E 57 dX8_priceOf_45 (by decide) (fun c30 => ?_) (fun c30 => ?_)
        · have h := h.1 c30
          refine j_iconst E (v := 0) dX8_priceOf_57 (by decide) ?_
          exact j_ireturn E ⟨rfl, _, rfl, h⟩ (Nat.zero_le _) (Nat.zero_le _) dX8_priceOf_58
        · have h := h.2 c30
          refine j_aload_n E dX8_priceOf_48 1 rfl ?_
          obtain ⟨b31, eb31, kb31, lb31⟩ := sh_f hZ kv0 (j := 2) (k := 14) (m := 24) rfl
          have h := h b31 eb31
          refine j_getr E 8 2 rfl rfl (by decide) (by decide) (iw iT_8) rfl rfl (tw W_252) kv0 eb31 dX8_priceOf_49 ?_
          refine j_iload_n E dX8_priceOf_52 3 rfl ?_
          obtain ⟨o32, h⟩ := h
          refine j_iald E kb31 (by rw [lb31]; exact o32) dX8_priceOf_53 ?_
          refine j_goto E 58 dX8_priceOf_54 (by decide) ?_
          exact j_ireturn E ⟨rfl, _, rfl, h⟩ (Nat.zero_le _) (Nat.zero_le _) dX8_priceOf_58
  · have h := h.2 c7
    refine j_iconst E (v := 0) dX8_priceOf_25 (by decide) ?_
    exact j_ireturn E ⟨rfl, _, rfl, h⟩ (Nat.zero_le _) (Nat.zero_le _) dX8_priceOf_26
set_option maxRecDepth 100000 in
def f_X8_priceOf (v0 : Nat) (v1 : Int32) (v2 : Int32) (v3 : Int32) (v4 : Int32) (v5 : Int32) (Z : jZ) (I : jI) (L : jL) (Q : Int32 → jI → jL → Prop) : Prop := ((¬ v1 = 0 → (∀ b34 : Nat, jr Z v0 7 = some b34 → f_X8_priceOf_b15  Z Q v0 v1 v2 v3 v4 v5 b34 I L)) ∧ (v1 = 0 → (∀ b35 : Nat, jr Z v0 6 = some b35 → f_X8_priceOf_b15  Z Q v0 v1 v2 v3 v4 v5 b35 I L)))
set_option maxHeartbeats 4000000 in
set_option maxRecDepth 100000 in
theorem c_X8_priceOf (l : Launch) (D : va_G) (cy : jC) (v0 : Nat) (v1 : Int32) (v2 : Int32) (v3 : Int32) (v4 : Int32) (v5 : Int32) (Z : jZ) (I : jI) (L : jL) (Q : Int32 → jI → jL → Prop) (hZ : SH Z) (kv0 : jk Z v0 8) (h : f_X8_priceOf v0 v1 v2 v3 v4 v5 Z I L Q) : jCt l yX8_priceOf w_X8_priceOf { frames := 2, cells := 0, slots := 0, locals := 48 } D cy [.ref v0, .int v1, .int v2, .int v3, .int v4, .int v5] Z I L (rtI Z Q) := by
  refine jCt_of (cc := cX8_priceOf) (maxL := 7) (ret := (some .int)) (by decide +kernel) rfl (Nat.le_of_ble_eq_true rfl) ?_
  intro G eD eY eL E
  subst eD; subst eY; subst eL
  have E : jE G cX8_priceOf RX8 w_X8_priceOf 7 (some .int) { frames := 2, cells := 0, slots := 0, locals := 48 } (rtI Z Q) := E
  show jJ G 7 0 [(0, .ref v0), (1, .int v1), (2, .int v2), (3, .int v3), (4, .int v4), (5, .int v5)] [] Z I L 0 0
  refine j_iload_n E dX8_priceOf_0 1 rfl ?_
  refine j_if_ne E 11 dX8_priceOf_1 (by decide) (fun c33 => ?_) (fun c33 => ?_)
  · have h := h.1 c33
    refine j_aload_n E dX8_priceOf_11 0 rfl ?_
    obtain ⟨b34, eb34, kb34⟩ := sh_o hZ kv0 (j := 7) (k := 3) rfl
    have h := h b34 eb34
    refine j_getr E 8 7 rfl rfl (by decide) (by decide) (iw iT_8) rfl rfl (tw W_274) kv0 eb34 dX8_priceOf_12 ?_
    refine j_sub [0, 1, 2, 3, 4, 5] rfl ?_
    exact m_X8_priceOf_b15 E hZ  v0 v1 v2 v3 v4 v5 b34 I L kv0 kb34 h
  · have h := h.2 c33
    refine j_aload_n E dX8_priceOf_4 0 rfl ?_
    obtain ⟨b35, eb35, kb35⟩ := sh_o hZ kv0 (j := 6) (k := 3) rfl
    have h := h b35 eb35
    refine j_getr E 8 6 rfl rfl (by decide) (by decide) (iw iT_8) rfl rfl (tw W_275) kv0 eb35 dX8_priceOf_5 ?_
    refine j_goto E 15 dX8_priceOf_8 (by decide) ?_
    refine j_sub [0, 1, 2, 3, 4, 5] rfl ?_
    exact m_X8_priceOf_b15 E hZ  v0 v1 v2 v3 v4 v5 b35 I L kv0 kb35 h
set_option maxRecDepth 100000 in
def f_X8_costOfMove_L24  (Z : jZ) (Q : Int32 → jI → jL → Prop) : Nat → Nat → Int32 → Int32 → Int32 → Int32 → Int32 → Int32 → jI → jL → Prop
  | 0 => fun _ _ _ _ _ _ _ _ _ => False
  | n + 1 => fun v0 v1 v2 v3 v4 v5 v6 I L => ((v2 ≤ v6 → Q v5 I L) ∧ (¬ (v2 ≤ v6) → (f_X8_priceOf v0 (1 : Int32) v6 v1 v4 v3 Z I L (fun r7 I4 L5 => (∀ x8 : Int32, x8 = (v5 + r7) → (∀ x9 : Int32, x9 = v6 + 1 → (f_X8_costOfMove_L24 Z Q n) v0 v1 v2 v3 v4 x8 x9 I4 L5))))))
set_option maxHeartbeats 4000000 in
set_option maxRecDepth 100000 in
theorem m_X8_costOfMove_L24 {G : jG} {Z : jZ} {Q : Int32 → jI → jL → Prop} (E : jE G cX8_costOfMove RX8 w_X8_costOfMove 7 (some .int) { frames := 3, cells := 0, slots := 0, locals := 74 } (rtI Z Q)) (hZ : SH Z)  : ∀ (n : Nat) (v0 : Nat) (v1 : Int32) (v2 : Int32) (v3 : Int32) (v4 : Int32) (v5 : Int32) (v6 : Int32) (I : jI) (L : jL), jk Z v0 8 → f_X8_costOfMove_L24  Z Q n v0 v1 v2 v3 v4 v5 v6 I L → jJ G 7 24 [(0, .ref v0), (1, .int v1), (2, .int v2), (3, .int v3), (4, .int v4), (5, .int v5), (6, .int v6)] [] Z I L 0 0 := by
  intro n
  induction n with
  | zero => intro v0 v1 v2 v3 v4 v5 v6 I L _ h; exact h.elim
  | succ n ih =>
    intro v0 v1 v2 v3 v4 v5 v6 I L kv0 h
    have h : ((v2 ≤ v6 → Q v5 I L) ∧ (¬ (v2 ≤ v6) → (f_X8_priceOf v0 (1 : Int32) v6 v1 v4 v3 Z I L (fun r7 I4 L5 => (∀ x8 : Int32, x8 = (v5 + r7) → (∀ x9 : Int32, x9 = v6 + 1 → (f_X8_costOfMove_L24 Z Q n) v0 v1 v2 v3 v4 x8 x9 I4 L5)))))) := h
    obtain ⟨K24, eK24⟩ : ∃ K : Nat → Int32 → Int32 → Int32 → Int32 → Int32 → Int32 → jI → jL → Prop, K = f_X8_costOfMove_L24  Z Q n := ⟨_, rfl⟩
    have hK24 := ih
    clear eK24 K24
    generalize f_X8_costOfMove_L24  Z Q n = K24 at hK24 h
    refine j_iload E dX8_costOfMove_24 6 rfl ?_
    refine j_iload_n E dX8_costOfMove_26 2 rfl ?_
    refine j_icmp_ge E 52 dX8_costOfMove_27 (by decide) (fun c1 => ?_) (fun c1 => ?_)
    · have h := h.1 c1
      refine j_iload E dX8_costOfMove_52 5 rfl ?_
      exact j_ireturn E ⟨rfl, _, rfl, h⟩ (Nat.zero_le _) (Nat.zero_le _) dX8_costOfMove_54
    · have h := h.2 c1
      refine j_iload E dX8_costOfMove_30 5 rfl ?_
      refine j_aload_n E dX8_costOfMove_32 0 rfl ?_
      refine j_iconst E (v := 1) dX8_costOfMove_33 (by decide) ?_
      refine j_iload E dX8_costOfMove_34 6 rfl ?_
      refine j_iload_n E dX8_costOfMove_36 1 rfl ?_
      refine j_iload E dX8_costOfMove_37 4 rfl ?_
      refine j_iload_n E dX8_costOfMove_39 3 rfl ?_
      refine j_callV E [.int (1 : Int32), .int v6, .int v1, .int v4, .int v3] [.int v5] (c_X8_priceOf (gL G) (gD G) (gY G) v0 (1 : Int32) v6 v1 v4 v3 Z I L _ hZ kv0 h) (gwV W_277 W_278 W_279 W_248 W_276) rfl ⟨rfl, fy_X8_priceOf⟩ ⟨by decide, by decide⟩ (c := 8) rfl (by decide) kv0 rfl rfl (Nat.le_of_ble_eq_true rfl) ⟨Nat.zero_le _, Nat.zero_le _⟩ dX8_costOfMove_40 (fun v2 Z3 I4 L5 q6 => ?_)
      obtain ⟨rfl, r7, rfl, h⟩ := q6
      show jJ G 7 43 [(0, .ref v0), (1, .int v1), (2, .int v2), (3, .int v3), (4, .int v4), (5, .int v5), (6, .int v6)] [.int r7, .int v5] Z I4 L5 0 0
      refine j_iadd E dX8_costOfMove_43 ?_
      refine j_topi (fun x8 ex8 => ?_)
      have h := h x8 ex8
      refine j_istore E 5 [(5, .int x8), (0, .ref v0), (1, .int v1), (2, .int v2), (3, .int v3), (4, .int v4), (6, .int v6)] dX8_costOfMove_44 (by decide) rfl ?_
      obtain ⟨x9, ex9⟩ : ∃ y : Int32, y = v6 + 1 := ⟨_, rfl⟩
      have h := h x9 ex9
      refine j_iinc E x9 [(6, .int x9), (5, .int x8), (0, .ref v0), (1, .int v1), (2, .int v2), (3, .int v3), (4, .int v4)] dX8_costOfMove_46 6 rfl (by rw [ex9]; rfl) (by decide) rfl ?_
      refine j_goto E 24 dX8_costOfMove_49 (by decide) ?_
      refine j_sub [2, 3, 4, 5, 6, 1, 0] rfl ?_
      exact hK24 v0 v1 v2 v3 v4 x8 x9 I4 L5 kv0 h
set_option maxRecDepth 100000 in
def f_X8_costOfMove (v0 : Nat) (v1 : Int32) (v2 : Int32) (v3 : Int32) (Z : jZ) (I : jI) (L : jL) (Q : Int32 → jI → jL → Prop) : Prop := (∀ x10 : Int32, x10 = ((v2 - v1) - (1 : Int32)) → (f_X8_priceOf v0 (0 : Int32) v2 v1 x10 v3 Z I L (fun r16 I13 L14 => (∀ x17 : Int32, x17 = (v1 + (1 : Int32)) → (∃ m24 : Nat, f_X8_costOfMove_L24  Z Q m24 v0 v1 v2 v3 x10 r16 x17 I13 L14)))))
set_option maxHeartbeats 4000000 in
set_option maxRecDepth 100000 in
theorem c_X8_costOfMove (l : Launch) (D : va_G) (cy : jC) (v0 : Nat) (v1 : Int32) (v2 : Int32) (v3 : Int32) (Z : jZ) (I : jI) (L : jL) (Q : Int32 → jI → jL → Prop) (hZ : SH Z) (kv0 : jk Z v0 8) (h : f_X8_costOfMove v0 v1 v2 v3 Z I L Q) : jCt l yX8_costOfMove w_X8_costOfMove { frames := 3, cells := 0, slots := 0, locals := 74 } D cy [.ref v0, .int v1, .int v2, .int v3] Z I L (rtI Z Q) := by
  refine jCt_of (cc := cX8_costOfMove) (maxL := 7) (ret := (some .int)) (by decide +kernel) rfl (Nat.le_of_ble_eq_true rfl) ?_
  intro G eD eY eL E
  subst eD; subst eY; subst eL
  have E : jE G cX8_costOfMove RX8 w_X8_costOfMove 7 (some .int) { frames := 3, cells := 0, slots := 0, locals := 74 } (rtI Z Q) := E
  show jJ G 7 0 [(0, .ref v0), (1, .int v1), (2, .int v2), (3, .int v3)] [] Z I L 0 0
  refine j_iload_n E dX8_costOfMove_0 2 rfl ?_
  refine j_iload_n E dX8_costOfMove_1 1 rfl ?_
  refine j_isub E dX8_costOfMove_2 ?_
  refine j_iconst E (v := 1) dX8_costOfMove_3 (by decide) ?_
  refine j_isub E dX8_costOfMove_4 ?_
  refine j_topi (fun x10 ex10 => ?_)
  have h := h x10 ex10
  refine j_istore E 4 [(4, .int x10), (0, .ref v0), (1, .int v1), (2, .int v2), (3, .int v3)] dX8_costOfMove_5 (by decide) rfl ?_
  refine j_aload_n E dX8_costOfMove_7 1 rfl ?_
  refine j_iconst E (v := 0) dX8_costOfMove_8 (by decide) ?_
  refine j_iload_n E dX8_costOfMove_9 3 rfl ?_
  refine j_iload_n E dX8_costOfMove_10 2 rfl ?_
  refine j_iload E dX8_costOfMove_11 0 rfl ?_
  refine j_iload_n E dX8_costOfMove_13 4 rfl ?_
  refine j_callV E [.int (0 : Int32), .int v2, .int v1, .int x10, .int v3] [] (c_X8_priceOf (gL G) (gD G) (gY G) v0 (0 : Int32) v2 v1 x10 v3 Z I L _ hZ kv0 h) (gwV W_277 W_278 W_279 W_248 W_276) rfl ⟨rfl, fy_X8_priceOf⟩ ⟨by decide, by decide⟩ (c := 8) rfl (by decide) kv0 rfl rfl (Nat.le_of_ble_eq_true rfl) ⟨Nat.zero_le _, Nat.zero_le _⟩ dX8_costOfMove_14 (fun v11 Z12 I13 L14 q15 => ?_)
  obtain ⟨rfl, r16, rfl, h⟩ := q15
  show jJ G 7 17 [(4, .int x10), (0, .ref v0), (1, .int v1), (2, .int v2), (3, .int v3)] [.int r16] Z I13 L14 0 0
  refine j_istore E 5 [(5, .int r16), (4, .int x10), (0, .ref v0), (1, .int v1), (2, .int v2), (3, .int v3)] dX8_costOfMove_17 (by decide) rfl ?_
  refine j_iload_n E dX8_costOfMove_19 3 rfl ?_
  refine j_iconst E (v := 1) dX8_costOfMove_20 (by decide) ?_
  refine j_iadd E dX8_costOfMove_21 ?_
  refine j_topi (fun x17 ex17 => ?_)
  have h := h x17 ex17
  refine j_istore E 6 [(6, .int x17), (5, .int r16), (4, .int x10), (0, .ref v0), (1, .int v1), (2, .int v2), (3, .int v3)] dX8_costOfMove_22 (by decide) rfl ?_
  obtain ⟨n18, h⟩ := h
  refine j_sub [3, 4, 5, 6, 2, 1, 0] rfl ?_
  exact m_X8_costOfMove_L24 E hZ  n18 v0 v1 v2 v3 x10 r16 x17 I13 L14 kv0 h
set_option maxRecDepth 100000 in
def f_X8_effortOfMove_b66  (Z : jZ) (Q : Int32 → jI → jL → Prop) (v1 : Int32) (v2 : Int32) (v3 : Int32) (v4 : Int32) (s0 : Int32) (I : jI) (L : jL) : Prop := Q ((((v4 * ((10 : Int32) + v3)) / (10 : Int32)) + s0) + ((5 : Int32) * ((v2 - v1) - (1 : Int32)))) I L
set_option maxHeartbeats 4000000 in
set_option maxRecDepth 100000 in
theorem m_X8_effortOfMove_b66 {G : jG} {Z : jZ} {Q : Int32 → jI → jL → Prop} (E : jE G cX8_effortOfMove RX8 w_X8_effortOfMove 6 (some .int) { frames := 1, cells := 0, slots := 0, locals := 21 } (rtI Z Q)) (hZ : SH Z)  (v1 : Int32) (v2 : Int32) (v3 : Int32) (v4 : Int32) (s0 : Int32) (I : jI) (L : jL)  (h : f_X8_effortOfMove_b66  Z Q v1 v2 v3 v4 s0 I L) : jJ G 6 66 [(1, .int v1), (2, .int v2), (3, .int v3), (4, .int v4)] [.int s0] Z I L 0 0 := by
  refine j_istore E 5 [(5, .int s0), (1, .int v1), (2, .int v2), (3, .int v3), (4, .int v4)] dX8_effortOfMove_66 (by decide) rfl ?_
  refine j_iload E dX8_effortOfMove_68 4 rfl ?_
  refine j_bipush E (v := 10) dX8_effortOfMove_70 (by decide) ?_
  refine j_iload_n E dX8_effortOfMove_72 3 rfl ?_
  refine j_iadd E dX8_effortOfMove_73 ?_
  refine j_imul E dX8_effortOfMove_74 ?_
  refine j_bipush E (v := 10) dX8_effortOfMove_75 (by decide) ?_
  refine j_idiv E dX8_effortOfMove_77 (by decide) ?_
  refine j_iload E dX8_effortOfMove_78 0 rfl ?_
  refine j_iadd E dX8_effortOfMove_80 ?_
  refine j_iconst E (v := 5) dX8_effortOfMove_81 (by decide) ?_
  refine j_iload_n E dX8_effortOfMove_82 2 rfl ?_
  refine j_iload_n E dX8_effortOfMove_83 1 rfl ?_
  refine j_isub E dX8_effortOfMove_84 ?_
  refine j_iconst E (v := 1) dX8_effortOfMove_85 (by decide) ?_
  refine j_isub E dX8_effortOfMove_86 ?_
  refine j_imul E dX8_effortOfMove_87 ?_
  refine j_iadd E dX8_effortOfMove_88 ?_
  exact j_ireturn E ⟨rfl, _, rfl, h⟩ (Nat.zero_le _) (Nat.zero_le _) dX8_effortOfMove_89
set_option maxRecDepth 100000 in
def f_X8_effortOfMove_b36 (K8 : Nat → Int32 → Int32 → Int32 → Int32 → Int32 → jI → jL → Prop) (Z : jZ) (Q : Int32 → jI → jL → Prop) (v0 : Nat) (v1 : Int32) (v2 : Int32) (v3 : Int32) (v5 : Int32) (s0 : Int32) (s1 : Int32) (I : jI) (L : jL) : Prop := (∀ x1 : Int32, x1 = (s0 + s1) → (∀ x2 : Int32, x2 = v5 + 1 → K8 v0 v1 v2 v3 x1 x2 I L))
set_option maxHeartbeats 4000000 in
set_option maxRecDepth 100000 in
theorem m_X8_effortOfMove_b36 {G : jG} {Z : jZ} {Q : Int32 → jI → jL → Prop} (E : jE G cX8_effortOfMove RX8 w_X8_effortOfMove 6 (some .int) { frames := 1, cells := 0, slots := 0, locals := 21 } (rtI Z Q)) (hZ : SH Z) (K8 : Nat → Int32 → Int32 → Int32 → Int32 → Int32 → jI → jL → Prop) (hK8 : ∀ (v0 : Nat) (v1 : Int32) (v2 : Int32) (v3 : Int32) (v4 : Int32) (v5 : Int32) (I : jI) (L : jL), jk Z v0 8 → K8 v0 v1 v2 v3 v4 v5 I L → jJ G 6 8 [(0, .ref v0), (1, .int v1), (2, .int v2), (3, .int v3), (4, .int v4), (5, .int v5)] [] Z I L 0 0) (v0 : Nat) (v1 : Int32) (v2 : Int32) (v3 : Int32) (v5 : Int32) (s0 : Int32) (s1 : Int32) (I : jI) (L : jL) (kv0 : jk Z v0 8) (h : f_X8_effortOfMove_b36 K8 Z Q v0 v1 v2 v3 v5 s0 s1 I L) : jJ G 6 36 [(0, .ref v0), (1, .int v1), (2, .int v2), (3, .int v3), (5, .int v5)] [.int s1, .int s0] Z I L 0 0 := by
  refine j_iadd E dX8_effortOfMove_36 ?_
  refine j_topi (fun x1 ex1 => ?_)
  have h := h x1 ex1
  refine j_istore E 4 [(4, .int x1), (0, .ref v0), (1, .int v1), (2, .int v2), (3, .int v3), (5, .int v5)] dX8_effortOfMove_37 (by decide) rfl ?_
  obtain ⟨x2, ex2⟩ : ∃ y : Int32, y = v5 + 1 := ⟨_, rfl⟩
  have h := h x2 ex2
  refine j_iinc E x2 [(5, .int x2), (4, .int x1), (0, .ref v0), (1, .int v1), (2, .int v2), (3, .int v3)] dX8_effortOfMove_39 5 rfl (by rw [ex2]; rfl) (by decide) rfl ?_
  refine j_goto E 8 dX8_effortOfMove_42 (by decide) ?_
  refine j_sub [2, 3, 4, 5, 1, 0] rfl ?_
  exact hK8 v0 v1 v2 v3 x1 x2 I L kv0 h
set_option maxRecDepth 100000 in
def f_X8_effortOfMove_L8  (Z : jZ) (Q : Int32 → jI → jL → Prop) : Nat → Nat → Int32 → Int32 → Int32 → Int32 → Int32 → jI → jL → Prop
  | 0 => fun _ _ _ _ _ _ _ _ => False
  | n + 1 => fun v0 v1 v2 v3 v4 v5 I L => ((v2 < v5 → (f_X8_has v0 v2 Z I L (fun r9 I6 L7 => ((r9 = 0 → f_X8_effortOfMove_b66  Z Q v1 v2 v3 v4 (0 : Int32) I6 L7) ∧ (¬ (r9 = 0) → (∀ b11 : Nat, jr Z v0 1 = some b11 → (vp_in v2 24 ∧ f_X8_effortOfMove_b66  Z Q v1 v2 v3 v4 ((9 : Int32) - (I6 b11 v2.toNatClampNeg)) I6 L7))))))) ∧ (¬ (v2 < v5) → (f_X8_has v0 v5 Z I L (fun r18 I15 L16 => ((r18 = 0 → f_X8_effortOfMove_b36 (f_X8_effortOfMove_L8 Z Q n) Z Q v0 v1 v2 v3 v5 v4 (0 : Int32) I15 L16) ∧ (¬ (r18 = 0) → (∀ b20 : Nat, jr Z v0 0 = some b20 → (vp_in v5 24 ∧ f_X8_effortOfMove_b36 (f_X8_effortOfMove_L8 Z Q n) Z Q v0 v1 v2 v3 v5 v4 (I15 b20 v5.toNatClampNeg) I15 L16))))))))
set_option maxHeartbeats 4000000 in
set_option maxRecDepth 100000 in
theorem m_X8_effortOfMove_L8 {G : jG} {Z : jZ} {Q : Int32 → jI → jL → Prop} (E : jE G cX8_effortOfMove RX8 w_X8_effortOfMove 6 (some .int) { frames := 1, cells := 0, slots := 0, locals := 21 } (rtI Z Q)) (hZ : SH Z)  : ∀ (n : Nat) (v0 : Nat) (v1 : Int32) (v2 : Int32) (v3 : Int32) (v4 : Int32) (v5 : Int32) (I : jI) (L : jL), jk Z v0 8 → f_X8_effortOfMove_L8  Z Q n v0 v1 v2 v3 v4 v5 I L → jJ G 6 8 [(0, .ref v0), (1, .int v1), (2, .int v2), (3, .int v3), (4, .int v4), (5, .int v5)] [] Z I L 0 0 := by
  intro n
  induction n with
  | zero => intro v0 v1 v2 v3 v4 v5 I L _ h; exact h.elim
  | succ n ih =>
    intro v0 v1 v2 v3 v4 v5 I L kv0 h
    have h : ((v2 < v5 → (f_X8_has v0 v2 Z I L (fun r9 I6 L7 => ((r9 = 0 → f_X8_effortOfMove_b66  Z Q v1 v2 v3 v4 (0 : Int32) I6 L7) ∧ (¬ (r9 = 0) → (∀ b11 : Nat, jr Z v0 1 = some b11 → (vp_in v2 24 ∧ f_X8_effortOfMove_b66  Z Q v1 v2 v3 v4 ((9 : Int32) - (I6 b11 v2.toNatClampNeg)) I6 L7))))))) ∧ (¬ (v2 < v5) → (f_X8_has v0 v5 Z I L (fun r18 I15 L16 => ((r18 = 0 → f_X8_effortOfMove_b36 (f_X8_effortOfMove_L8 Z Q n) Z Q v0 v1 v2 v3 v5 v4 (0 : Int32) I15 L16) ∧ (¬ (r18 = 0) → (∀ b20 : Nat, jr Z v0 0 = some b20 → (vp_in v5 24 ∧ f_X8_effortOfMove_b36 (f_X8_effortOfMove_L8 Z Q n) Z Q v0 v1 v2 v3 v5 v4 (I15 b20 v5.toNatClampNeg) I15 L16)))))))) := h
    obtain ⟨K8, eK8⟩ : ∃ K : Nat → Int32 → Int32 → Int32 → Int32 → Int32 → jI → jL → Prop, K = f_X8_effortOfMove_L8  Z Q n := ⟨_, rfl⟩
    have hK8 := ih
    clear eK8 K8
    generalize f_X8_effortOfMove_L8  Z Q n = K8 at hK8 h
    refine j_iload E dX8_effortOfMove_8 5 rfl ?_
    refine j_iload_n E dX8_effortOfMove_10 2 rfl ?_
    refine j_icmp_gt E 45 dX8_effortOfMove_11 (by decide) (fun c3 => ?_) (fun c3 => ?_)
    · have h := h.1 c3
      refine j_aload_n E dX8_effortOfMove_45 0 rfl ?_
      refine j_iload_n E dX8_effortOfMove_46 2 rfl ?_
      refine j_callV E [.int v2] [] (c_X8_has (gL G) (gD G) (gY G) v0 v2 Z I L _ hZ kv0 h) (gwV W_249 W_250 W_251 W_248 W_247) rfl ⟨rfl, fy_X8_has⟩ ⟨by decide, by decide⟩ (c := 8) rfl (by decide) kv0 rfl rfl (Nat.le_of_ble_eq_true rfl) ⟨Nat.zero_le _, Nat.zero_le _⟩ dX8_effortOfMove_47 (fun v4 Z5 I6 L7 q8 => ?_)
      obtain ⟨rfl, r9, rfl, zr9, h⟩ := q8
      show jJ G 6 50 [(0, .ref v0), (1, .int v1), (2, .int v2), (3, .int v3), (4, .int v4), (5, .int v5)] [.int r9] Z I6 L7 0 0
      refine j_if_eq E 65 dX8_effortOfMove_50 (by decide) (fun c10 => ?_) (fun c10 => ?_)
      · have h := h.1 c10
        refine j_iconst E (v := 0) dX8_effortOfMove_65 (by decide) ?_
        refine j_sub [1, 2, 3, 4] rfl ?_
        exact m_X8_effortOfMove_b66 E hZ  v1 v2 v3 v4 (0 : Int32) I6 L7  h
      · have h := h.2 c10
        refine j_bipush E (v := 9) dX8_effortOfMove_53 (by decide) ?_
        refine j_aload_n E dX8_effortOfMove_55 0 rfl ?_
        obtain ⟨b11, eb11, kb11, lb11⟩ := sh_f hZ kv0 (j := 1) (k := 14) (m := 24) rfl
        have h := h b11 eb11
        refine j_getr E 8 1 rfl rfl (by decide) (by decide) (iw iT_8) rfl rfl (tw W_254) kv0 eb11 dX8_effortOfMove_56 ?_
        refine j_iload_n E dX8_effortOfMove_59 2 rfl ?_
        obtain ⟨o12, h⟩ := h
        refine j_iald E kb11 (by rw [lb11]; exact o12) dX8_effortOfMove_60 ?_
        refine j_isub E dX8_effortOfMove_61 ?_
        refine j_goto E 66 dX8_effortOfMove_62 (by decide) ?_
        refine j_sub [1, 2, 3, 4] rfl ?_
        exact m_X8_effortOfMove_b66 E hZ  v1 v2 v3 v4 ((9 : Int32) - (I6 b11 v2.toNatClampNeg)) I6 L7  h
    · have h := h.2 c3
      refine j_iload E dX8_effortOfMove_14 4 rfl ?_
      refine j_aload_n E dX8_effortOfMove_16 0 rfl ?_
      refine j_iload E dX8_effortOfMove_17 5 rfl ?_
      refine j_callV E [.int v5] [.int v4] (c_X8_has (gL G) (gD G) (gY G) v0 v5 Z I L _ hZ kv0 h) (gwV W_249 W_250 W_251 W_248 W_247) rfl ⟨rfl, fy_X8_has⟩ ⟨by decide, by decide⟩ (c := 8) rfl (by decide) kv0 rfl rfl (Nat.le_of_ble_eq_true rfl) ⟨Nat.zero_le _, Nat.zero_le _⟩ dX8_effortOfMove_19 (fun v13 Z14 I15 L16 q17 => ?_)
      obtain ⟨rfl, r18, rfl, zr18, h⟩ := q17
      show jJ G 6 22 [(0, .ref v0), (1, .int v1), (2, .int v2), (3, .int v3), (4, .int v4), (5, .int v5)] [.int r18, .int v4] Z I15 L16 0 0
      refine j_if_eq E 35 dX8_effortOfMove_22 (by decide) (fun c19 => ?_) (fun c19 => ?_)
      · have h := h.1 c19
        refine j_iconst E (v := 0) dX8_effortOfMove_35 (by decide) ?_
        refine j_sub [0, 1, 2, 3, 5] rfl ?_
        exact m_X8_effortOfMove_b36 E hZ K8 hK8 v0 v1 v2 v3 v5 v4 (0 : Int32) I15 L16 kv0 h
      · have h := h.2 c19
        refine j_aload_n E dX8_effortOfMove_25 0 rfl ?_
        obtain ⟨b20, eb20, kb20, lb20⟩ := sh_f hZ kv0 (j := 0) (k := 14) (m := 24) rfl
        have h := h b20 eb20
        refine j_getr E 8 0 rfl rfl (by decide) (by decide) (iw iT_8) rfl rfl (tw W_253) kv0 eb20 dX8_effortOfMove_26 ?_
        refine j_iload E dX8_effortOfMove_29 5 rfl ?_
        obtain ⟨o21, h⟩ := h
        refine j_iald E kb20 (by rw [lb20]; exact o21) dX8_effortOfMove_31 ?_
        refine j_goto E 36 dX8_effortOfMove_32 (by decide) ?_
        refine j_sub [0, 1, 2, 3, 5] rfl ?_
        exact m_X8_effortOfMove_b36 E hZ K8 hK8 v0 v1 v2 v3 v5 v4 (I15 b20 v5.toNatClampNeg) I15 L16 kv0 h
set_option maxRecDepth 100000 in
def f_X8_effortOfMove (v0 : Nat) (v1 : Int32) (v2 : Int32) (v3 : Int32) (Z : jZ) (I : jI) (L : jL) (Q : Int32 → jI → jL → Prop) : Prop := (∀ x22 : Int32, x22 = (v1 + (1 : Int32)) → (∃ m8 : Nat, f_X8_effortOfMove_L8  Z Q m8 v0 v1 v2 v3 (0 : Int32) x22 I L))
set_option maxHeartbeats 4000000 in
set_option maxRecDepth 100000 in
theorem c_X8_effortOfMove (l : Launch) (D : va_G) (cy : jC) (v0 : Nat) (v1 : Int32) (v2 : Int32) (v3 : Int32) (Z : jZ) (I : jI) (L : jL) (Q : Int32 → jI → jL → Prop) (hZ : SH Z) (kv0 : jk Z v0 8) (h : f_X8_effortOfMove v0 v1 v2 v3 Z I L Q) : jCt l yX8_effortOfMove w_X8_effortOfMove { frames := 1, cells := 0, slots := 0, locals := 21 } D cy [.ref v0, .int v1, .int v2, .int v3] Z I L (rtI Z Q) := by
  refine jCt_of (cc := cX8_effortOfMove) (maxL := 6) (ret := (some .int)) (by decide +kernel) rfl (Nat.le_of_ble_eq_true rfl) ?_
  intro G eD eY eL E
  subst eD; subst eY; subst eL
  have E : jE G cX8_effortOfMove RX8 w_X8_effortOfMove 6 (some .int) { frames := 1, cells := 0, slots := 0, locals := 21 } (rtI Z Q) := E
  show jJ G 6 0 [(0, .ref v0), (1, .int v1), (2, .int v2), (3, .int v3)] [] Z I L 0 0
  refine j_iconst E (v := 0) dX8_effortOfMove_0 (by decide) ?_
  refine j_istore E 4 [(4, .int (0 : Int32)), (0, .ref v0), (1, .int v1), (2, .int v2), (3, .int v3)] dX8_effortOfMove_1 (by decide) rfl ?_
  refine j_iload_n E dX8_effortOfMove_3 2 rfl ?_
  refine j_iconst E (v := 1) dX8_effortOfMove_4 (by decide) ?_
  refine j_iadd E dX8_effortOfMove_5 ?_
  refine j_topi (fun x22 ex22 => ?_)
  have h := h x22 ex22
  refine j_istore E 5 [(5, .int x22), (4, .int (0 : Int32)), (0, .ref v0), (1, .int v1), (2, .int v2), (3, .int v3)] dX8_effortOfMove_6 (by decide) rfl ?_
  obtain ⟨n23, h⟩ := h
  refine j_sub [2, 3, 4, 5, 1, 0] rfl ?_
  exact m_X8_effortOfMove_L8 E hZ  n23 v0 v1 v2 v3 (0 : Int32) x22 I L kv0 h
set_option maxRecDepth 100000 in
def f_X6_measure_b114 (K6 : Nat → Int32 → Int32 → jI → jL → Prop) (Z : jZ) (Q : jI → jL → Prop) (v0 : Nat) (v2 : Int32) (v3 : Int32) (I : jI) (L : jL) : Prop := (∀ x1 : Int32, x1 = v3 + 1 → K6 v0 v2 x1 I L)
set_option maxHeartbeats 4000000 in
set_option maxRecDepth 100000 in
theorem m_X6_measure_b114 {G : jG} {Z : jZ} {Q : jI → jL → Prop} (E : jE G cX6_measure RX6 w_X6_measure 6 none { frames := 4, cells := 0, slots := 0, locals := 100 } (rtV Z Q)) (hZ : SH Z) (K6 : Nat → Int32 → Int32 → jI → jL → Prop) (hK6 : ∀ (v0 : Nat) (v2 : Int32) (v3 : Int32) (I : jI) (L : jL), jk Z v0 6 → K6 v0 v2 v3 I L → jJ G 6 6 [(0, .ref v0), (2, .int v2), (3, .int v3)] [] Z I L 0 0) (v0 : Nat) (v2 : Int32) (v3 : Int32) (I : jI) (L : jL) (kv0 : jk Z v0 6) (h : f_X6_measure_b114 K6 Z Q v0 v2 v3 I L) : jJ G 6 114 [(0, .ref v0), (2, .int v2), (3, .int v3)] [] Z I L 0 0 := by
  obtain ⟨x1, ex1⟩ : ∃ y : Int32, y = v3 + 1 := ⟨_, rfl⟩
  have h := h x1 ex1
  refine j_iinc E x1 [(3, .int x1), (0, .ref v0), (2, .int v2)] dX6_measure_114 2 rfl (by rw [ex1]; rfl) (by decide) rfl ?_
  refine j_goto E 6 dX6_measure_117 (by decide) ?_
  refine j_sub [1, 2, 0] rfl ?_
  exact hK6 v0 v2 x1 I L kv0 h
set_option maxRecDepth 100000 in
def f_X6_measure_L22 (K6 : Nat → Int32 → Int32 → jI → jL → Prop) (Z : jZ) (Q : jI → jL → Prop) : Nat → Nat → Int32 → Int32 → Int32 → jI → jL → Prop
  | 0 => fun _ _ _ _ _ _ => False
  | n + 1 => fun v0 v2 v3 v4 I L => (((I v0 3) < v4 → f_X6_measure_b114 K6 Z Q v0 v2 v3 I L) ∧ (¬ ((I v0 3) < v4) → ((v3 < v4 → f_X6_measure_b114 K6 Z Q v0 v2 v3 I L) ∧ (¬ (v3 < v4) → (∀ b4 : Nat, jr Z v0 6 = some b4 → (vp_in v3 25 ∧ (((I b4 v3.toNatClampNeg) = 0 → f_X6_measure_b114 K6 Z Q v0 v2 v3 I L) ∧ (¬ ((I b4 v3.toNatClampNeg) = 0) → (f_X6_moveTo v3 v4 Z I L (fun r12 I9 L10 => (∀ b13 : Nat, jr Z v0 4 = some b13 → (∀ b14 : Nat, jr Z v0 0 = some b14 → (f_X8_costOfMove b14 ((v3 - v4) - (1 : Int32)) (v3 - (1 : Int32)) (I9 v0 14) Z I9 L10 (fun r20 I17 L18 => (vp_in r12 75 ∧ (∀ I22 : jI, I22 = jpI I17 b13 r12.toNatClampNeg r20 → (∀ b23 : Nat, jr Z v0 5 = some b23 → (∀ b24 : Nat, jr Z v0 0 = some b24 → (f_X8_effortOfMove b24 ((v3 - v4) - (1 : Int32)) (v3 - (1 : Int32)) (I22 v0 14) Z I22 L18 (fun r30 I27 L28 => (vp_in r12 75 ∧ (∀ I32 : jI, I32 = jpI I27 b23 r12.toNatClampNeg r30 → (∀ x33 : Int32, x33 = v4 + 1 → (f_X6_measure_L22 K6 Z Q n) v0 v2 v3 x33 I32 L28)))))))))))))))))))))))
set_option maxHeartbeats 4000000 in
set_option maxRecDepth 100000 in
theorem m_X6_measure_L22 {G : jG} {Z : jZ} {Q : jI → jL → Prop} (E : jE G cX6_measure RX6 w_X6_measure 6 none { frames := 4, cells := 0, slots := 0, locals := 100 } (rtV Z Q)) (hZ : SH Z) (K6 : Nat → Int32 → Int32 → jI → jL → Prop) (hK6 : ∀ (v0 : Nat) (v2 : Int32) (v3 : Int32) (I : jI) (L : jL), jk Z v0 6 → K6 v0 v2 v3 I L → jJ G 6 6 [(0, .ref v0), (2, .int v2), (3, .int v3)] [] Z I L 0 0) : ∀ (n : Nat) (v0 : Nat) (v2 : Int32) (v3 : Int32) (v4 : Int32) (I : jI) (L : jL), jk Z v0 6 → f_X6_measure_L22 K6 Z Q n v0 v2 v3 v4 I L → jJ G 6 22 [(0, .ref v0), (2, .int v2), (3, .int v3), (4, .int v4)] [] Z I L 0 0 := by
  intro n
  induction n with
  | zero => intro v0 v2 v3 v4 I L _ h; exact h.elim
  | succ n ih =>
    intro v0 v2 v3 v4 I L kv0 h
    have h : (((I v0 3) < v4 → f_X6_measure_b114 K6 Z Q v0 v2 v3 I L) ∧ (¬ ((I v0 3) < v4) → ((v3 < v4 → f_X6_measure_b114 K6 Z Q v0 v2 v3 I L) ∧ (¬ (v3 < v4) → (∀ b4 : Nat, jr Z v0 6 = some b4 → (vp_in v3 25 ∧ (((I b4 v3.toNatClampNeg) = 0 → f_X6_measure_b114 K6 Z Q v0 v2 v3 I L) ∧ (¬ ((I b4 v3.toNatClampNeg) = 0) → (f_X6_moveTo v3 v4 Z I L (fun r12 I9 L10 => (∀ b13 : Nat, jr Z v0 4 = some b13 → (∀ b14 : Nat, jr Z v0 0 = some b14 → (f_X8_costOfMove b14 ((v3 - v4) - (1 : Int32)) (v3 - (1 : Int32)) (I9 v0 14) Z I9 L10 (fun r20 I17 L18 => (vp_in r12 75 ∧ (∀ I22 : jI, I22 = jpI I17 b13 r12.toNatClampNeg r20 → (∀ b23 : Nat, jr Z v0 5 = some b23 → (∀ b24 : Nat, jr Z v0 0 = some b24 → (f_X8_effortOfMove b24 ((v3 - v4) - (1 : Int32)) (v3 - (1 : Int32)) (I22 v0 14) Z I22 L18 (fun r30 I27 L28 => (vp_in r12 75 ∧ (∀ I32 : jI, I32 = jpI I27 b23 r12.toNatClampNeg r30 → (∀ x33 : Int32, x33 = v4 + 1 → (f_X6_measure_L22 K6 Z Q n) v0 v2 v3 x33 I32 L28))))))))))))))))))))))) := h
    obtain ⟨K22, eK22⟩ : ∃ K : Nat → Int32 → Int32 → Int32 → jI → jL → Prop, K = f_X6_measure_L22 K6 Z Q n := ⟨_, rfl⟩
    have hK22 := ih
    clear eK22 K22
    generalize f_X6_measure_L22 K6 Z Q n = K22 at hK22 h
    refine j_iload E dX6_measure_22 3 rfl ?_
    refine j_aload_n E dX6_measure_24 0 rfl ?_
    refine j_geti E 6 3 rfl rfl (by decide) (by decide) (iw iT_6) rfl rfl (tw W_46) kv0 dX6_measure_25 ?_
    refine j_icmp_gt E 114 dX6_measure_28 (by decide) (fun c2 => ?_) (fun c2 => ?_)
    · have h := h.1 c2
      refine j_sub [0, 1, 2] rfl ?_
      exact m_X6_measure_b114 E hZ K6 hK6 v0 v2 v3 I L kv0 h
    · have h := h.2 c2
      refine j_iload E dX6_measure_31 3 rfl ?_
      refine j_iload_n E dX6_measure_33 2 rfl ?_
      refine j_icmp_gt E 114 dX6_measure_34 (by decide) (fun c3 => ?_) (fun c3 => ?_)
      · have h := h.1 c3
        refine j_sub [0, 1, 2] rfl ?_
        exact m_X6_measure_b114 E hZ K6 hK6 v0 v2 v3 I L kv0 h
      · have h := h.2 c3
        refine j_aload_n E dX6_measure_37 0 rfl ?_
        obtain ⟨b4, eb4, kb4, lb4⟩ := sh_f hZ kv0 (j := 6) (k := 16) (m := 25) rfl
        have h := h b4 eb4
        refine j_getr E 6 6 rfl rfl (by decide) (by decide) (iw iT_6) rfl rfl (tw W_47) kv0 eb4 dX6_measure_38 ?_
        refine j_iload_n E dX6_measure_41 2 rfl ?_
        obtain ⟨o5, h⟩ := h
        refine j_zald E kb4 (by rw [lb4]; exact o5) dX6_measure_42 ?_
        refine j_if_eq E 114 dX6_measure_43 (by decide) (fun c6 => ?_) (fun c6 => ?_)
        · have h := h.1 c6
          refine j_sub [0, 1, 2] rfl ?_
          exact m_X6_measure_b114 E hZ K6 hK6 v0 v2 v3 I L kv0 h
        · have h := h.2 c6
          refine j_iload_n E dX6_measure_46 2 rfl ?_
          refine j_iload E dX6_measure_47 3 rfl ?_
          refine j_callS E [.int v3, .int v4] [] (c_X6_moveTo (gL G) (gD G) (gY G) v3 v4 Z I L _ hZ  h) (gwS W_22 W_23 W_21 W_20) rfl fy_X6_moveTo ⟨by decide, by decide⟩ rfl rfl (Nat.le_of_ble_eq_true rfl) ⟨Nat.zero_le _, Nat.zero_le _⟩ dX6_measure_49 (fun v7 Z8 I9 L10 q11 => ?_)
          obtain ⟨rfl, r12, rfl, h⟩ := q11
          show jJ G 6 52 [(0, .ref v0), (2, .int v2), (3, .int v3), (4, .int v4)] [.int r12] Z I9 L10 0 0
          refine j_istore E 5 [(5, .int r12), (0, .ref v0), (2, .int v2), (3, .int v3), (4, .int v4)] dX6_measure_52 (by decide) rfl ?_
          refine j_aload_n E dX6_measure_54 1 rfl ?_
          obtain ⟨b13, eb13, kb13, lb13⟩ := sh_f hZ kv0 (j := 4) (k := 14) (m := 75) rfl
          have h := h b13 eb13
          refine j_getr E 6 4 rfl rfl (by decide) (by decide) (iw iT_6) rfl rfl (tw W_24) kv0 eb13 dX6_measure_55 ?_
          refine j_iload E dX6_measure_58 0 rfl ?_
          refine j_aload_n E dX6_measure_60 1 rfl ?_
          obtain ⟨b14, eb14, kb14⟩ := sh_o hZ kv0 (j := 0) (k := 8) rfl
          have h := h b14 eb14
          refine j_getr E 6 0 rfl rfl (by decide) (by decide) (iw iT_6) rfl rfl (tw W_280) kv0 eb14 dX6_measure_61 ?_
          refine j_iload_n E dX6_measure_64 3 rfl ?_
          refine j_iload E dX6_measure_65 4 rfl ?_
          refine j_isub E dX6_measure_67 ?_
          refine j_iconst E (v := 1) dX6_measure_68 (by decide) ?_
          refine j_isub E dX6_measure_69 ?_
          refine j_iload_n E dX6_measure_70 3 rfl ?_
          refine j_iconst E (v := 1) dX6_measure_71 (by decide) ?_
          refine j_isub E dX6_measure_72 ?_
          refine j_aload_n E dX6_measure_73 1 rfl ?_
          refine j_geti E 6 14 rfl rfl (by decide) (by decide) (iw iT_6) rfl rfl (tw W_281) kv0 dX6_measure_74 ?_
          refine j_callV E [.int ((v3 - v4) - (1 : Int32)), .int (v3 - (1 : Int32)), .int (I9 v0 14)] [.int r12, .ref b13] (c_X8_costOfMove (gL G) (gD G) (gY G) b14 ((v3 - v4) - (1 : Int32)) (v3 - (1 : Int32)) (I9 v0 14) Z I9 L10 _ hZ kb14 h) (gwV W_283 W_284 W_285 W_248 W_282) rfl ⟨rfl, fy_X8_costOfMove⟩ ⟨by decide, by decide⟩ (c := 8) rfl (by decide) kb14 rfl rfl (Nat.le_of_ble_eq_true rfl) ⟨Nat.zero_le _, Nat.zero_le _⟩ dX6_measure_77 (fun v15 Z16 I17 L18 q19 => ?_)
          obtain ⟨rfl, r20, rfl, h⟩ := q19
          show jJ G 6 80 [(5, .int r12), (0, .ref v0), (2, .int v2), (3, .int v3), (4, .int v4)] [.int r20, .int r12, .ref b13] Z I17 L18 0 0
          obtain ⟨o21, h⟩ := h
          refine j_iast E kb13 (by rw [lb13]; exact o21) dX6_measure_80 ?_
          refine j_nmI (fun I22 eI22 => ?_)
          have h := h I22 eI22
          refine j_aload_n E dX6_measure_81 1 rfl ?_
          obtain ⟨b23, eb23, kb23, lb23⟩ := sh_f hZ kv0 (j := 5) (k := 14) (m := 75) rfl
          have h := h b23 eb23
          refine j_getr E 6 5 rfl rfl (by decide) (by decide) (iw iT_6) rfl rfl (tw W_25) kv0 eb23 dX6_measure_82 ?_
          refine j_iload E dX6_measure_85 0 rfl ?_
          refine j_aload_n E dX6_measure_87 1 rfl ?_
          obtain ⟨b24, eb24, kb24⟩ := sh_o hZ kv0 (j := 0) (k := 8) rfl
          have h := h b24 eb24
          refine j_getr E 6 0 rfl rfl (by decide) (by decide) (iw iT_6) rfl rfl (tw W_280) kv0 eb24 dX6_measure_88 ?_
          refine j_iload_n E dX6_measure_91 3 rfl ?_
          refine j_iload E dX6_measure_92 4 rfl ?_
          refine j_isub E dX6_measure_94 ?_
          refine j_iconst E (v := 1) dX6_measure_95 (by decide) ?_
          refine j_isub E dX6_measure_96 ?_
          refine j_iload_n E dX6_measure_97 3 rfl ?_
          refine j_iconst E (v := 1) dX6_measure_98 (by decide) ?_
          refine j_isub E dX6_measure_99 ?_
          refine j_aload_n E dX6_measure_100 1 rfl ?_
          refine j_geti E 6 14 rfl rfl (by decide) (by decide) (iw iT_6) rfl rfl (tw W_281) kv0 dX6_measure_101 ?_
          refine j_callV E [.int ((v3 - v4) - (1 : Int32)), .int (v3 - (1 : Int32)), .int (I22 v0 14)] [.int r12, .ref b23] (c_X8_effortOfMove (gL G) (gD G) (gY G) b24 ((v3 - v4) - (1 : Int32)) (v3 - (1 : Int32)) (I22 v0 14) Z I22 L18 _ hZ kb24 h) (gwV W_287 W_288 W_289 W_248 W_286) rfl ⟨rfl, fy_X8_effortOfMove⟩ ⟨by decide, by decide⟩ (c := 8) rfl (by decide) kb24 rfl rfl (Nat.le_of_ble_eq_true rfl) ⟨Nat.zero_le _, Nat.zero_le _⟩ dX6_measure_104 (fun v25 Z26 I27 L28 q29 => ?_)
          obtain ⟨rfl, r30, rfl, h⟩ := q29
          show jJ G 6 107 [(5, .int r12), (0, .ref v0), (2, .int v2), (3, .int v3), (4, .int v4)] [.int r30, .int r12, .ref b23] Z I27 L28 0 0
          obtain ⟨o31, h⟩ := h
          refine j_iast E kb23 (by rw [lb23]; exact o31) dX6_measure_107 ?_
          refine j_nmI (fun I32 eI32 => ?_)
          have h := h I32 eI32
          obtain ⟨x33, ex33⟩ : ∃ y : Int32, y = v4 + 1 := ⟨_, rfl⟩
          have h := h x33 ex33
          refine j_iinc E x33 [(4, .int x33), (5, .int r12), (0, .ref v0), (2, .int v2), (3, .int v3)] dX6_measure_108 4 rfl (by rw [ex33]; rfl) (by decide) rfl ?_
          refine j_goto E 22 dX6_measure_111 (by decide) ?_
          refine j_sub [2, 3, 4, 0] rfl ?_
          exact hK22 v0 v2 v3 x33 I32 L28 kv0 h
set_option maxRecDepth 100000 in
def f_X6_measure_L6  (Z : jZ) (Q : jI → jL → Prop) : Nat → Nat → Int32 → Int32 → jI → jL → Prop
  | 0 => fun _ _ _ _ _ => False
  | n + 1 => fun v0 v2 v3 I L => ((v2 < v3 → Q I L) ∧ (¬ (v2 < v3) → (((I v0 15) < v3 → Q I L) ∧ (¬ ((I v0 15) < v3) → (∃ m22 : Nat, f_X6_measure_L22 (f_X6_measure_L6 Z Q n) Z Q m22 v0 v2 v3 (1 : Int32) I L)))))
set_option maxHeartbeats 4000000 in
set_option maxRecDepth 100000 in
theorem m_X6_measure_L6 {G : jG} {Z : jZ} {Q : jI → jL → Prop} (E : jE G cX6_measure RX6 w_X6_measure 6 none { frames := 4, cells := 0, slots := 0, locals := 100 } (rtV Z Q)) (hZ : SH Z)  : ∀ (n : Nat) (v0 : Nat) (v2 : Int32) (v3 : Int32) (I : jI) (L : jL), jk Z v0 6 → f_X6_measure_L6  Z Q n v0 v2 v3 I L → jJ G 6 6 [(0, .ref v0), (2, .int v2), (3, .int v3)] [] Z I L 0 0 := by
  intro n
  induction n with
  | zero => intro v0 v2 v3 I L _ h; exact h.elim
  | succ n ih =>
    intro v0 v2 v3 I L kv0 h
    have h : ((v2 < v3 → Q I L) ∧ (¬ (v2 < v3) → (((I v0 15) < v3 → Q I L) ∧ (¬ ((I v0 15) < v3) → (∃ m22 : Nat, f_X6_measure_L22 (f_X6_measure_L6 Z Q n) Z Q m22 v0 v2 v3 (1 : Int32) I L))))) := h
    obtain ⟨K6, eK6⟩ : ∃ K : Nat → Int32 → Int32 → jI → jL → Prop, K = f_X6_measure_L6  Z Q n := ⟨_, rfl⟩
    have hK6 := ih
    clear eK6 K6
    generalize f_X6_measure_L6  Z Q n = K6 at hK6 h
    refine j_iload_n E dX6_measure_6 2 rfl ?_
    refine j_iload_n E dX6_measure_7 1 rfl ?_
    refine j_icmp_gt E 120 dX6_measure_8 (by decide) (fun c34 => ?_) (fun c34 => ?_)
    · have h := h.1 c34
      exact j_return E ⟨rfl, rfl, h⟩ (Nat.zero_le _) (Nat.zero_le _) dX6_measure_120
    · have h := h.2 c34
      refine j_iload_n E dX6_measure_11 2 rfl ?_
      refine j_aload_n E dX6_measure_12 0 rfl ?_
      refine j_geti E 6 15 rfl rfl (by decide) (by decide) (iw iT_6) rfl rfl (tw W_290) kv0 dX6_measure_13 ?_
      refine j_icmp_gt E 120 dX6_measure_16 (by decide) (fun c35 => ?_) (fun c35 => ?_)
      · have h := h.1 c35
        exact j_return E ⟨rfl, rfl, h⟩ (Nat.zero_le _) (Nat.zero_le _) dX6_measure_120
      · have h := h.2 c35
        refine j_iconst E (v := 1) dX6_measure_19 (by decide) ?_
        refine j_istore E 4 [(4, .int (1 : Int32)), (0, .ref v0), (2, .int v2), (3, .int v3)] dX6_measure_20 (by decide) rfl ?_
        obtain ⟨n36, h⟩ := h
        refine j_sub [1, 2, 3, 0] rfl ?_
        exact m_X6_measure_L22 E hZ K6 hK6 n36 v0 v2 v3 (1 : Int32) I L kv0 h
set_option maxRecDepth 100000 in
def f_X6_measure (v0 : Nat) (v1 : Int32) (v2 : Int32) (Z : jZ) (I : jI) (L : jL) (Q : jI → jL → Prop) : Prop := (∀ x37 : Int32, x37 = (if v1 < (1 : Int32) then (1 : Int32) else v1) → (∃ m6 : Nat, f_X6_measure_L6  Z Q m6 v0 v2 x37 I L))
set_option maxHeartbeats 4000000 in
set_option maxRecDepth 100000 in
theorem c_X6_measure (l : Launch) (D : va_G) (cy : jC) (v0 : Nat) (v1 : Int32) (v2 : Int32) (Z : jZ) (I : jI) (L : jL) (Q : jI → jL → Prop) (hZ : SH Z) (kv0 : jk Z v0 6) (h : f_X6_measure v0 v1 v2 Z I L Q) : jCt l yX6_measure w_X6_measure { frames := 4, cells := 0, slots := 0, locals := 100 } D cy [.ref v0, .int v1, .int v2] Z I L (rtV Z Q) := by
  refine jCt_of (cc := cX6_measure) (maxL := 6) (ret := none) (by decide +kernel) rfl (Nat.le_of_ble_eq_true rfl) ?_
  intro G eD eY eL E
  subst eD; subst eY; subst eL
  have E : jE G cX6_measure RX6 w_X6_measure 6 none { frames := 4, cells := 0, slots := 0, locals := 100 } (rtV Z Q) := E
  show jJ G 6 0 [(0, .ref v0), (1, .int v1), (2, .int v2)] [] Z I L 0 0
  refine j_iload_n E dX6_measure_0 1 rfl ?_
  refine j_iconst E (v := 1) dX6_measure_1 (by decide) ?_
  refine j_max E (tw W_291) (tw W_138) (tw W_119) (tw W_139) (by decide) (Nat.le_of_ble_eq_true rfl) (Nat.zero_le _) (Nat.zero_le _) dX6_measure_2 ?_
  refine j_topi (fun x37 ex37 => ?_)
  have h := h x37 ex37
  refine j_istore_n E 3 [(3, .int x37), (0, .ref v0), (1, .int v1), (2, .int v2)] dX6_measure_5 rfl (by decide) rfl ?_
  obtain ⟨n38, h⟩ := h
  refine j_sub [1, 3, 0] rfl ?_
  exact m_X6_measure_L6 E hZ  n38 v0 v2 x37 I L kv0 h
set_option maxRecDepth 100000 in
def f_X6_leastEffortUp_b90 (K26 : Nat → Int32 → Int32 → Int32 → jI → jL → Prop) (Z : jZ) (Q : Int32 → jI → jL → Prop) (v0 : Nat) (v1 : Int32) (v2 : Int32) (v3 : Int32) (I : jI) (L : jL) : Prop := (∀ x1 : Int32, x1 = v3 + 1 → K26 v0 v1 v2 x1 I L)
set_option maxHeartbeats 4000000 in
set_option maxRecDepth 100000 in
theorem m_X6_leastEffortUp_b90 {G : jG} {Z : jZ} {Q : Int32 → jI → jL → Prop} (E : jE G cX6_leastEffortUp RX6 w_X6_leastEffortUp 4 (some .int) { frames := 1, cells := 0, slots := 0, locals := 23 } (rtI Z Q)) (hZ : SH Z) (K26 : Nat → Int32 → Int32 → Int32 → jI → jL → Prop) (hK26 : ∀ (v0 : Nat) (v1 : Int32) (v2 : Int32) (v3 : Int32) (I : jI) (L : jL), jk Z v0 6 → K26 v0 v1 v2 v3 I L → jJ G 4 26 [(0, .ref v0), (1, .int v1), (2, .int v2), (3, .int v3)] [] Z I L 0 0) (v0 : Nat) (v1 : Int32) (v2 : Int32) (v3 : Int32) (I : jI) (L : jL) (kv0 : jk Z v0 6) (h : f_X6_leastEffortUp_b90 K26 Z Q v0 v1 v2 v3 I L) : jJ G 4 90 [(0, .ref v0), (1, .int v1), (2, .int v2), (3, .int v3)] [] Z I L 0 0 := by
  obtain ⟨x1, ex1⟩ : ∃ y : Int32, y = v3 + 1 := ⟨_, rfl⟩
  have h := h x1 ex1
  refine j_iinc E x1 [(3, .int x1), (0, .ref v0), (1, .int v1), (2, .int v2)] dX6_leastEffortUp_90 3 rfl (by rw [ex1]; rfl) (by decide) rfl ?_
  refine j_goto E 26 dX6_leastEffortUp_93 (by decide) ?_
  refine j_sub [1, 2, 3, 0] rfl ?_
  exact hK26 v0 v1 v2 x1 I L kv0 h
set_option maxRecDepth 100000 in
def f_X6_leastEffortUp_L26  (Z : jZ) (Q : Int32 → jI → jL → Prop) : Nat → Nat → Int32 → Int32 → Int32 → jI → jL → Prop
  | 0 => fun _ _ _ _ _ _ => False
  | n + 1 => fun v0 v1 v2 v3 I L => (((I v0 3) < v3 → Q v2 I L) ∧ (¬ ((I v0 3) < v3) → (((I v0 15) < (v1 + v3) → Q v2 I L) ∧ (¬ ((I v0 15) < (v1 + v3)) → (∀ b4 : Nat, jr Z v0 6 = some b4 → (vp_in v1 25 ∧ (((I b4 v1.toNatClampNeg) = 0 → f_X6_leastEffortUp_b90 (f_X6_leastEffortUp_L26 Z Q n) Z Q v0 v1 v2 v3 I L) ∧ (¬ ((I b4 v1.toNatClampNeg) = 0) → (∀ b7 : Nat, jr Z v0 6 = some b7 → (vp_in (v1 + v3) 25 ∧ (((I b7 (v1 + v3).toNatClampNeg) = 0 → f_X6_leastEffortUp_b90 (f_X6_leastEffortUp_L26 Z Q n) Z Q v0 v1 v2 v3 I L) ∧ (¬ ((I b7 (v1 + v3).toNatClampNeg) = 0) → (∀ b10 : Nat, jr Z v0 5 = some b10 → (f_X6_moveTo (v1 + v3) v3 Z I L (fun r16 I13 L14 => (vp_in r16 75 ∧ (∀ b18 : Nat, jr Z v0 7 = some b18 → (vp_in (v1 + v3) 25 ∧ (∀ x20 : Int32, x20 = (if ((I13 b10 r16.toNatClampNeg) + (I13 b18 (v1 + v3).toNatClampNeg)) < v2 then ((I13 b10 r16.toNatClampNeg) + (I13 b18 (v1 + v3).toNatClampNeg)) else v2) → f_X6_leastEffortUp_b90 (f_X6_leastEffortUp_L26 Z Q n) Z Q v0 v1 x20 v3 I13 L14)))))))))))))))))))
set_option maxHeartbeats 4000000 in
set_option maxRecDepth 100000 in
theorem m_X6_leastEffortUp_L26 {G : jG} {Z : jZ} {Q : Int32 → jI → jL → Prop} (E : jE G cX6_leastEffortUp RX6 w_X6_leastEffortUp 4 (some .int) { frames := 1, cells := 0, slots := 0, locals := 23 } (rtI Z Q)) (hZ : SH Z)  : ∀ (n : Nat) (v0 : Nat) (v1 : Int32) (v2 : Int32) (v3 : Int32) (I : jI) (L : jL), jk Z v0 6 → f_X6_leastEffortUp_L26  Z Q n v0 v1 v2 v3 I L → jJ G 4 26 [(0, .ref v0), (1, .int v1), (2, .int v2), (3, .int v3)] [] Z I L 0 0 := by
  intro n
  induction n with
  | zero => intro v0 v1 v2 v3 I L _ h; exact h.elim
  | succ n ih =>
    intro v0 v1 v2 v3 I L kv0 h
    have h : (((I v0 3) < v3 → Q v2 I L) ∧ (¬ ((I v0 3) < v3) → (((I v0 15) < (v1 + v3) → Q v2 I L) ∧ (¬ ((I v0 15) < (v1 + v3)) → (∀ b4 : Nat, jr Z v0 6 = some b4 → (vp_in v1 25 ∧ (((I b4 v1.toNatClampNeg) = 0 → f_X6_leastEffortUp_b90 (f_X6_leastEffortUp_L26 Z Q n) Z Q v0 v1 v2 v3 I L) ∧ (¬ ((I b4 v1.toNatClampNeg) = 0) → (∀ b7 : Nat, jr Z v0 6 = some b7 → (vp_in (v1 + v3) 25 ∧ (((I b7 (v1 + v3).toNatClampNeg) = 0 → f_X6_leastEffortUp_b90 (f_X6_leastEffortUp_L26 Z Q n) Z Q v0 v1 v2 v3 I L) ∧ (¬ ((I b7 (v1 + v3).toNatClampNeg) = 0) → (∀ b10 : Nat, jr Z v0 5 = some b10 → (f_X6_moveTo (v1 + v3) v3 Z I L (fun r16 I13 L14 => (vp_in r16 75 ∧ (∀ b18 : Nat, jr Z v0 7 = some b18 → (vp_in (v1 + v3) 25 ∧ (∀ x20 : Int32, x20 = (if ((I13 b10 r16.toNatClampNeg) + (I13 b18 (v1 + v3).toNatClampNeg)) < v2 then ((I13 b10 r16.toNatClampNeg) + (I13 b18 (v1 + v3).toNatClampNeg)) else v2) → f_X6_leastEffortUp_b90 (f_X6_leastEffortUp_L26 Z Q n) Z Q v0 v1 x20 v3 I13 L14))))))))))))))))))) := h
    obtain ⟨K26, eK26⟩ : ∃ K : Nat → Int32 → Int32 → Int32 → jI → jL → Prop, K = f_X6_leastEffortUp_L26  Z Q n := ⟨_, rfl⟩
    have hK26 := ih
    clear eK26 K26
    generalize f_X6_leastEffortUp_L26  Z Q n = K26 at hK26 h
    refine j_iload_n E dX6_leastEffortUp_26 3 rfl ?_
    refine j_aload_n E dX6_leastEffortUp_27 0 rfl ?_
    refine j_geti E 6 3 rfl rfl (by decide) (by decide) (iw iT_6) rfl rfl (tw W_46) kv0 dX6_leastEffortUp_28 ?_
    refine j_icmp_gt E 96 dX6_leastEffortUp_31 (by decide) (fun c2 => ?_) (fun c2 => ?_)
    · have h := h.1 c2
      refine j_iload_n E dX6_leastEffortUp_96 2 rfl ?_
      exact j_ireturn E ⟨rfl, _, rfl, h⟩ (Nat.zero_le _) (Nat.zero_le _) dX6_leastEffortUp_97
    · have h := h.2 c2
      refine j_iload_n E dX6_leastEffortUp_34 1 rfl ?_
      refine j_iload_n E dX6_leastEffortUp_35 3 rfl ?_
      refine j_iadd E dX6_leastEffortUp_36 ?_
      refine j_aload_n E dX6_leastEffortUp_37 0 rfl ?_
      refine j_geti E 6 15 rfl rfl (by decide) (by decide) (iw iT_6) rfl rfl (tw W_290) kv0 dX6_leastEffortUp_38 ?_
      refine j_icmp_gt E 96 dX6_leastEffortUp_41 (by decide) (fun c3 => ?_) (fun c3 => ?_)
      · have h := h.1 c3
        refine j_iload_n E dX6_leastEffortUp_96 2 rfl ?_
        exact j_ireturn E ⟨rfl, _, rfl, h⟩ (Nat.zero_le _) (Nat.zero_le _) dX6_leastEffortUp_97
      · have h := h.2 c3
        refine j_aload_n E dX6_leastEffortUp_44 0 rfl ?_
        obtain ⟨b4, eb4, kb4, lb4⟩ := sh_f hZ kv0 (j := 6) (k := 16) (m := 25) rfl
        have h := h b4 eb4
        refine j_getr E 6 6 rfl rfl (by decide) (by decide) (iw iT_6) rfl rfl (tw W_47) kv0 eb4 dX6_leastEffortUp_45 ?_
        refine j_iload_n E dX6_leastEffortUp_48 1 rfl ?_
        obtain ⟨o5, h⟩ := h
        refine j_zald E kb4 (by rw [lb4]; exact o5) dX6_leastEffortUp_49 ?_
        refine j_if_eq E 90 dX6_leastEffortUp_50 (by decide) (fun c6 => ?_) (fun c6 => ?_)
        · have h := h.1 c6
          refine j_sub [0, 1, 2, 3] rfl ?_
          exact m_X6_leastEffortUp_b90 E hZ K26 hK26 v0 v1 v2 v3 I L kv0 h
        · have h := h.2 c6
          refine j_aload_n E dX6_leastEffortUp_53 0 rfl ?_
          obtain ⟨b7, eb7, kb7, lb7⟩ := sh_f hZ kv0 (j := 6) (k := 16) (m := 25) rfl
          have h := h b7 eb7
          refine j_getr E 6 6 rfl rfl (by decide) (by decide) (iw iT_6) rfl rfl (tw W_47) kv0 eb7 dX6_leastEffortUp_54 ?_
          refine j_iload_n E dX6_leastEffortUp_57 1 rfl ?_
          refine j_iload_n E dX6_leastEffortUp_58 3 rfl ?_
          refine j_iadd E dX6_leastEffortUp_59 ?_
          obtain ⟨o8, h⟩ := h
          refine j_zald E kb7 (by rw [lb7]; exact o8) dX6_leastEffortUp_60 ?_
          refine j_if_eq E 90 dX6_leastEffortUp_61 (by decide) (fun c9 => ?_) (fun c9 => ?_)
          · have h := h.1 c9
            refine j_sub [0, 1, 2, 3] rfl ?_
            exact m_X6_leastEffortUp_b90 E hZ K26 hK26 v0 v1 v2 v3 I L kv0 h
          · have h := h.2 c9
            refine j_iload_n E dX6_leastEffortUp_64 2 rfl ?_
            refine j_aload_n E dX6_leastEffortUp_65 0 rfl ?_
            obtain ⟨b10, eb10, kb10, lb10⟩ := sh_f hZ kv0 (j := 5) (k := 14) (m := 75) rfl
            have h := h b10 eb10
            refine j_getr E 6 5 rfl rfl (by decide) (by decide) (iw iT_6) rfl rfl (tw W_25) kv0 eb10 dX6_leastEffortUp_66 ?_
            refine j_iload_n E dX6_leastEffortUp_69 1 rfl ?_
            refine j_iload_n E dX6_leastEffortUp_70 3 rfl ?_
            refine j_iadd E dX6_leastEffortUp_71 ?_
            refine j_iload_n E dX6_leastEffortUp_72 3 rfl ?_
            refine j_callS E [.int (v1 + v3), .int v3] [.ref b10, .int v2] (c_X6_moveTo (gL G) (gD G) (gY G) (v1 + v3) v3 Z I L _ hZ  h) (gwS W_22 W_23 W_21 W_20) rfl fy_X6_moveTo ⟨by decide, by decide⟩ rfl rfl (Nat.le_of_ble_eq_true rfl) ⟨Nat.zero_le _, Nat.zero_le _⟩ dX6_leastEffortUp_73 (fun v11 Z12 I13 L14 q15 => ?_)
            obtain ⟨rfl, r16, rfl, h⟩ := q15
            show jJ G 4 76 [(0, .ref v0), (1, .int v1), (2, .int v2), (3, .int v3)] [.int r16, .ref b10, .int v2] Z I13 L14 0 0
            obtain ⟨o17, h⟩ := h
            refine j_iald E kb10 (by rw [lb10]; exact o17) dX6_leastEffortUp_76 ?_
            refine j_aload_n E dX6_leastEffortUp_77 0 rfl ?_
            obtain ⟨b18, eb18, kb18, lb18⟩ := sh_f hZ kv0 (j := 7) (k := 14) (m := 25) rfl
            have h := h b18 eb18
            refine j_getr E 6 7 rfl rfl (by decide) (by decide) (iw iT_6) rfl rfl (tw W_292) kv0 eb18 dX6_leastEffortUp_78 ?_
            refine j_iload_n E dX6_leastEffortUp_81 1 rfl ?_
            refine j_iload_n E dX6_leastEffortUp_82 3 rfl ?_
            refine j_iadd E dX6_leastEffortUp_83 ?_
            obtain ⟨o19, h⟩ := h
            refine j_iald E kb18 (by rw [lb18]; exact o19) dX6_leastEffortUp_84 ?_
            refine j_iadd E dX6_leastEffortUp_85 ?_
            refine j_min E (tw W_293) (tw W_118) (tw W_119) (tw W_120) (by decide) (Nat.le_of_ble_eq_true rfl) (Nat.zero_le _) (Nat.zero_le _) dX6_leastEffortUp_86 ?_
            refine j_topi (fun x20 ex20 => ?_)
            have h := h x20 ex20
            refine j_istore_n E 2 [(2, .int x20), (0, .ref v0), (1, .int v1), (3, .int v3)] dX6_leastEffortUp_89 rfl (by decide) rfl ?_
            refine j_sub [1, 2, 0, 3] rfl ?_
            exact m_X6_leastEffortUp_b90 E hZ K26 hK26 v0 v1 x20 v3 I13 L14 kv0 h
set_option maxRecDepth 100000 in
def f_X6_leastEffortUp_b23  (Z : jZ) (Q : Int32 → jI → jL → Prop) (v0 : Nat) (v1 : Int32) (s0 : Int32) (I : jI) (L : jL) : Prop := (∃ m26 : Nat, f_X6_leastEffortUp_L26  Z Q m26 v0 v1 s0 (1 : Int32) I L)
set_option maxHeartbeats 4000000 in
set_option maxRecDepth 100000 in
theorem m_X6_leastEffortUp_b23 {G : jG} {Z : jZ} {Q : Int32 → jI → jL → Prop} (E : jE G cX6_leastEffortUp RX6 w_X6_leastEffortUp 4 (some .int) { frames := 1, cells := 0, slots := 0, locals := 23 } (rtI Z Q)) (hZ : SH Z)  (v0 : Nat) (v1 : Int32) (s0 : Int32) (I : jI) (L : jL) (kv0 : jk Z v0 6) (h : f_X6_leastEffortUp_b23  Z Q v0 v1 s0 I L) : jJ G 4 23 [(0, .ref v0), (1, .int v1)] [.int s0] Z I L 0 0 := by
  refine j_istore_n E 2 [(2, .int s0), (0, .ref v0), (1, .int v1)] dX6_leastEffortUp_23 rfl (by decide) rfl ?_
  refine j_iconst E (v := 1) dX6_leastEffortUp_24 (by decide) ?_
  refine j_istore_n E 3 [(3, .int (1 : Int32)), (2, .int s0), (0, .ref v0), (1, .int v1)] dX6_leastEffortUp_25 rfl (by decide) rfl ?_
  obtain ⟨n21, h⟩ := h
  refine j_sub [2, 3, 1, 0] rfl ?_
  exact m_X6_leastEffortUp_L26 E hZ  n21 v0 v1 s0 (1 : Int32) I L kv0 h
set_option maxRecDepth 100000 in
def f_X6_leastEffortUp_b21  (Z : jZ) (Q : Int32 → jI → jL → Prop) (v0 : Nat) (v1 : Int32) (I : jI) (L : jL) : Prop := f_X6_leastEffortUp_b23  Z Q v0 v1 (1048576 : Int32) I L
set_option maxHeartbeats 4000000 in
set_option maxRecDepth 100000 in
theorem m_X6_leastEffortUp_b21 {G : jG} {Z : jZ} {Q : Int32 → jI → jL → Prop} (E : jE G cX6_leastEffortUp RX6 w_X6_leastEffortUp 4 (some .int) { frames := 1, cells := 0, slots := 0, locals := 23 } (rtI Z Q)) (hZ : SH Z)  (v0 : Nat) (v1 : Int32) (I : jI) (L : jL) (kv0 : jk Z v0 6) (h : f_X6_leastEffortUp_b21  Z Q v0 v1 I L) : jJ G 4 21 [(0, .ref v0), (1, .int v1)] [] Z I L 0 0 := by
  refine j_ldc E (tw W_294) dX6_leastEffortUp_21 ?_
  refine j_sub [0, 1] rfl ?_
  exact m_X6_leastEffortUp_b23 E hZ  v0 v1 (1048576 : Int32) I L kv0 h
set_option maxRecDepth 100000 in
def f_X6_leastEffortUp (v0 : Nat) (v1 : Int32) (Z : jZ) (I : jI) (L : jL) (Q : Int32 → jI → jL → Prop) : Prop := ((¬ v1 = (I v0 15) → f_X6_leastEffortUp_b21  Z Q v0 v1 I L) ∧ (v1 = (I v0 15) → (∀ b23 : Nat, jr Z v0 6 = some b23 → (vp_in v1 25 ∧ (((I b23 v1.toNatClampNeg) = 0 → f_X6_leastEffortUp_b21  Z Q v0 v1 I L) ∧ (¬ ((I b23 v1.toNatClampNeg) = 0) → f_X6_leastEffortUp_b23  Z Q v0 v1 (0 : Int32) I L))))))
set_option maxHeartbeats 4000000 in
set_option maxRecDepth 100000 in
theorem c_X6_leastEffortUp (l : Launch) (D : va_G) (cy : jC) (v0 : Nat) (v1 : Int32) (Z : jZ) (I : jI) (L : jL) (Q : Int32 → jI → jL → Prop) (hZ : SH Z) (kv0 : jk Z v0 6) (h : f_X6_leastEffortUp v0 v1 Z I L Q) : jCt l yX6_leastEffortUp w_X6_leastEffortUp { frames := 1, cells := 0, slots := 0, locals := 23 } D cy [.ref v0, .int v1] Z I L (rtI Z Q) := by
  refine jCt_of (cc := cX6_leastEffortUp) (maxL := 4) (ret := (some .int)) (by decide +kernel) rfl (Nat.le_of_ble_eq_true rfl) ?_
  intro G eD eY eL E
  subst eD; subst eY; subst eL
  have E : jE G cX6_leastEffortUp RX6 w_X6_leastEffortUp 4 (some .int) { frames := 1, cells := 0, slots := 0, locals := 23 } (rtI Z Q) := E
  show jJ G 4 0 [(0, .ref v0), (1, .int v1)] [] Z I L 0 0
  refine j_iload_n E dX6_leastEffortUp_0 1 rfl ?_
  refine j_aload_n E dX6_leastEffortUp_1 0 rfl ?_
  refine j_geti E 6 15 rfl rfl (by decide) (by decide) (iw iT_6) rfl rfl (tw W_290) kv0 dX6_leastEffortUp_2 ?_
  refine j_icmp_ne E 21 dX6_leastEffortUp_5 (by decide) (fun c22 => ?_) (fun c22 => ?_)
  · have h := h.1 c22
    refine j_sub [0, 1] rfl ?_
    exact m_X6_leastEffortUp_b21 E hZ  v0 v1 I L kv0 h
  · have h := h.2 c22
    refine j_aload_n E dX6_leastEffortUp_8 0 rfl ?_
    obtain ⟨b23, eb23, kb23, lb23⟩ := sh_f hZ kv0 (j := 6) (k := 16) (m := 25) rfl
    have h := h b23 eb23
    refine j_getr E 6 6 rfl rfl (by decide) (by decide) (iw iT_6) rfl rfl (tw W_47) kv0 eb23 dX6_leastEffortUp_9 ?_
    refine j_iload_n E dX6_leastEffortUp_12 1 rfl ?_
    obtain ⟨o24, h⟩ := h
    refine j_zald E kb23 (by rw [lb23]; exact o24) dX6_leastEffortUp_13 ?_
    refine j_if_eq E 21 dX6_leastEffortUp_14 (by decide) (fun c25 => ?_) (fun c25 => ?_)
    · have h := h.1 c25
      refine j_sub [0, 1] rfl ?_
      exact m_X6_leastEffortUp_b21 E hZ  v0 v1 I L kv0 h
    · have h := h.2 c25
      refine j_iconst E (v := 0) dX6_leastEffortUp_17 (by decide) ?_
      refine j_goto E 23 dX6_leastEffortUp_18 (by decide) ?_
      refine j_sub [0, 1] rfl ?_
      exact m_X6_leastEffortUp_b23 E hZ  v0 v1 (0 : Int32) I L kv0 h
set_option maxRecDepth 100000 in
def f_X6_lay_L104  (Z : jZ) (Q : jI → jL → Prop) : Nat → Nat → Int32 → jI → jL → Prop
  | 0 => fun _ _ _ _ => False
  | n + 1 => fun v0 v4 I L => ((v4 < 0 → Q I L) ∧ (¬ (v4 < 0) → (∀ b2 : Nat, jr Z v0 7 = some b2 → (f_X6_leastEffortUp v0 v4 Z I L (fun r8 I5 L6 => (vp_in v4 25 ∧ (∀ I10 : jI, I10 = jpI I5 b2 v4.toNatClampNeg r8 → (∀ x11 : Int32, x11 = v4 + (-1) → (f_X6_lay_L104 Z Q n) v0 x11 I10 L6))))))))
set_option maxHeartbeats 4000000 in
set_option maxRecDepth 100000 in
theorem m_X6_lay_L104 {G : jG} {Z : jZ} {Q : jI → jL → Prop} (E : jE G cX6_lay RX6 w_X6_lay 6 none { frames := 5, cells := 0, slots := 0, locals := 125 } (rtV Z Q)) (hZ : SH Z)  : ∀ (n : Nat) (v0 : Nat) (v4 : Int32) (I : jI) (L : jL), jk Z v0 6 → f_X6_lay_L104  Z Q n v0 v4 I L → jJ G 6 104 [(0, .ref v0), (4, .int v4)] [] Z I L 0 0 := by
  intro n
  induction n with
  | zero => intro v0 v4 I L _ h; exact h.elim
  | succ n ih =>
    intro v0 v4 I L kv0 h
    have h : ((v4 < 0 → Q I L) ∧ (¬ (v4 < 0) → (∀ b2 : Nat, jr Z v0 7 = some b2 → (f_X6_leastEffortUp v0 v4 Z I L (fun r8 I5 L6 => (vp_in v4 25 ∧ (∀ I10 : jI, I10 = jpI I5 b2 v4.toNatClampNeg r8 → (∀ x11 : Int32, x11 = v4 + (-1) → (f_X6_lay_L104 Z Q n) v0 x11 I10 L6)))))))) := h
    obtain ⟨K104, eK104⟩ : ∃ K : Nat → Int32 → jI → jL → Prop, K = f_X6_lay_L104  Z Q n := ⟨_, rfl⟩
    have hK104 := ih
    clear eK104 K104
    generalize f_X6_lay_L104  Z Q n = K104 at hK104 h
    refine j_iload E dX6_lay_104 1 rfl ?_
    refine j_if_lt E 128 dX6_lay_106 (by decide) (fun c1 => ?_) (fun c1 => ?_)
    · have h := h.1 c1
      exact j_return E ⟨rfl, rfl, h⟩ (Nat.zero_le _) (Nat.zero_le _) dX6_lay_128
    · have h := h.2 c1
      refine j_aload_n E dX6_lay_109 0 rfl ?_
      obtain ⟨b2, eb2, kb2, lb2⟩ := sh_f hZ kv0 (j := 7) (k := 14) (m := 25) rfl
      have h := h b2 eb2
      refine j_getr E 6 7 rfl rfl (by decide) (by decide) (iw iT_6) rfl rfl (tw W_292) kv0 eb2 dX6_lay_110 ?_
      refine j_iload E dX6_lay_113 1 rfl ?_
      refine j_aload_n E dX6_lay_115 0 rfl ?_
      refine j_iload E dX6_lay_116 1 rfl ?_
      refine j_callV E [.int v4] [.int v4, .ref b2] (c_X6_leastEffortUp (gL G) (gD G) (gY G) v0 v4 Z I L _ hZ kv0 h) (gwV W_296 W_297 W_298 W_21 W_295) rfl ⟨rfl, fy_X6_leastEffortUp⟩ ⟨by decide, by decide⟩ (c := 6) rfl (by decide) kv0 rfl rfl (Nat.le_of_ble_eq_true rfl) ⟨Nat.zero_le _, Nat.zero_le _⟩ dX6_lay_118 (fun v3 Z4 I5 L6 q7 => ?_)
      obtain ⟨rfl, r8, rfl, h⟩ := q7
      show jJ G 6 121 [(0, .ref v0), (4, .int v4)] [.int r8, .int v4, .ref b2] Z I5 L6 0 0
      obtain ⟨o9, h⟩ := h
      refine j_iast E kb2 (by rw [lb2]; exact o9) dX6_lay_121 ?_
      refine j_nmI (fun I10 eI10 => ?_)
      have h := h I10 eI10
      obtain ⟨x11, ex11⟩ : ∃ y : Int32, y = v4 + (-1) := ⟨_, rfl⟩
      have h := h x11 ex11
      refine j_iinc E x11 [(4, .int x11), (0, .ref v0)] dX6_lay_122 1 rfl (by rw [ex11]; rfl) (by decide) rfl ?_
      refine j_goto E 104 dX6_lay_125 (by decide) ?_
      refine j_sub [1, 0] rfl ?_
      exact hK104 v0 x11 I10 L6 kv0 h
set_option maxRecDepth 100000 in
def f_X6_lay_b82 (K31 : Nat → Int32 → Int32 → Int32 → jI → jL → Prop) (Z : jZ) (Q : jI → jL → Prop) (v0 : Nat) (v2 : Int32) (v3 : Int32) (v4 : Int32) (s0 : Nat) (s1 : Int32) (s2 : Int32) (I : jI) (L : jL) : Prop := (vp_in s1 (jlen Z s0) ∧ (∀ I13 : jI, I13 = jpI I s0 s1.toNatClampNeg (vp_nar .boolean s2) → (∀ x14 : Int32, x14 = v4 + 1 → K31 v0 v2 v3 x14 I13 L)))
set_option maxHeartbeats 4000000 in
set_option maxRecDepth 100000 in
theorem m_X6_lay_b82 {G : jG} {Z : jZ} {Q : jI → jL → Prop} (E : jE G cX6_lay RX6 w_X6_lay 6 none { frames := 5, cells := 0, slots := 0, locals := 125 } (rtV Z Q)) (hZ : SH Z) (K31 : Nat → Int32 → Int32 → Int32 → jI → jL → Prop) (hK31 : ∀ (v0 : Nat) (v2 : Int32) (v3 : Int32) (v4 : Int32) (I : jI) (L : jL), jk Z v0 6 → K31 v0 v2 v3 v4 I L → jJ G 6 31 [(0, .ref v0), (2, .int v2), (3, .int v3), (4, .int v4)] [] Z I L 0 0) (v0 : Nat) (v2 : Int32) (v3 : Int32) (v4 : Int32) (s0 : Nat) (s1 : Int32) (s2 : Int32) (I : jI) (L : jL) (kv0 : jk Z v0 6) (ks0 : jk Z s0 16) (h : f_X6_lay_b82 K31 Z Q v0 v2 v3 v4 s0 s1 s2 I L) : jJ G 6 82 [(0, .ref v0), (2, .int v2), (3, .int v3), (4, .int v4)] [.int s2, .int s1, .ref s0] Z I L 0 0 := by
  obtain ⟨o12, h⟩ := h
  refine j_zast E ks0 o12 dX6_lay_82 ?_
  refine j_nmI (fun I13 eI13 => ?_)
  have h := h I13 eI13
  obtain ⟨x14, ex14⟩ : ∃ y : Int32, y = v4 + 1 := ⟨_, rfl⟩
  have h := h x14 ex14
  refine j_iinc E x14 [(4, .int x14), (0, .ref v0), (2, .int v2), (3, .int v3)] dX6_lay_83 3 rfl (by rw [ex14]; rfl) (by decide) rfl ?_
  refine j_goto E 31 dX6_lay_86 (by decide) ?_
  refine j_sub [1, 2, 3, 0] rfl ?_
  exact hK31 v0 v2 v3 x14 I13 L kv0 h
set_option maxRecDepth 100000 in
def f_X6_lay_b81 (K31 : Nat → Int32 → Int32 → Int32 → jI → jL → Prop) (Z : jZ) (Q : jI → jL → Prop) (v0 : Nat) (v2 : Int32) (v3 : Int32) (v4 : Int32) (s0 : Nat) (s1 : Int32) (I : jI) (L : jL) : Prop := f_X6_lay_b82 K31 Z Q v0 v2 v3 v4 s0 s1 (0 : Int32) I L
set_option maxHeartbeats 4000000 in
set_option maxRecDepth 100000 in
theorem m_X6_lay_b81 {G : jG} {Z : jZ} {Q : jI → jL → Prop} (E : jE G cX6_lay RX6 w_X6_lay 6 none { frames := 5, cells := 0, slots := 0, locals := 125 } (rtV Z Q)) (hZ : SH Z) (K31 : Nat → Int32 → Int32 → Int32 → jI → jL → Prop) (hK31 : ∀ (v0 : Nat) (v2 : Int32) (v3 : Int32) (v4 : Int32) (I : jI) (L : jL), jk Z v0 6 → K31 v0 v2 v3 v4 I L → jJ G 6 31 [(0, .ref v0), (2, .int v2), (3, .int v3), (4, .int v4)] [] Z I L 0 0) (v0 : Nat) (v2 : Int32) (v3 : Int32) (v4 : Int32) (s0 : Nat) (s1 : Int32) (I : jI) (L : jL) (kv0 : jk Z v0 6) (ks0 : jk Z s0 16) (h : f_X6_lay_b81 K31 Z Q v0 v2 v3 v4 s0 s1 I L) : jJ G 6 81 [(0, .ref v0), (2, .int v2), (3, .int v3), (4, .int v4)] [.int s1, .ref s0] Z I L 0 0 := by
  refine j_iconst E (v := 0) dX6_lay_81 (by decide) ?_
  refine j_sub [0, 1, 2, 3] rfl ?_
  exact m_X6_lay_b82 E hZ K31 hK31 v0 v2 v3 v4 s0 s1 (0 : Int32) I L kv0 ks0 h
set_option maxRecDepth 100000 in
def f_X6_lay_L31  (Z : jZ) (Q : jI → jL → Prop) : Nat → Nat → Int32 → Int32 → Int32 → jI → jL → Prop
  | 0 => fun _ _ _ _ _ _ => False
  | n + 1 => fun v0 v2 v3 v4 I L => (((I v0 15) < v4 → (f_X6_measure v0 (1 : Int32) (I v0 15) Z I L (fun I18 L19 => (∀ x21 : Int32, x21 = (I18 v0 15) → (∃ m104 : Nat, f_X6_lay_L104  Z Q m104 v0 x21 I18 L19))))) ∧ (¬ ((I v0 15) < v4) → (∀ x23 : Int32, x23 = (v4 - (1 : Int32)) → (∀ b24 : Nat, jr Z v0 6 = some b24 → ((x23 = v3 → f_X6_lay_b81 (f_X6_lay_L31 Z Q n) Z Q v0 v2 v3 v4 b24 v4 I L) ∧ (¬ (x23 = v3) → (∀ b26 : Nat, jr Z v0 0 = some b26 → (∀ b27 : Nat, jr Z b26 4 = some b27 → (f_X4_mainOf b27 x23 Z I L (fun r33 I30 L31 => ((¬ ((v2 >>> (r33 &&& 31)) &&& (1 : Int32)) = 0 → f_X6_lay_b81 (f_X6_lay_L31 Z Q n) Z Q v0 v2 v3 v4 b24 v4 I30 L31) ∧ (((v2 >>> (r33 &&& 31)) &&& (1 : Int32)) = 0 → f_X6_lay_b82 (f_X6_lay_L31 Z Q n) Z Q v0 v2 v3 v4 b24 v4 (1 : Int32) I30 L31))))))))))))
set_option maxHeartbeats 4000000 in
set_option maxRecDepth 100000 in
theorem m_X6_lay_L31 {G : jG} {Z : jZ} {Q : jI → jL → Prop} (E : jE G cX6_lay RX6 w_X6_lay 6 none { frames := 5, cells := 0, slots := 0, locals := 125 } (rtV Z Q)) (hZ : SH Z)  : ∀ (n : Nat) (v0 : Nat) (v2 : Int32) (v3 : Int32) (v4 : Int32) (I : jI) (L : jL), jk Z v0 6 → f_X6_lay_L31  Z Q n v0 v2 v3 v4 I L → jJ G 6 31 [(0, .ref v0), (2, .int v2), (3, .int v3), (4, .int v4)] [] Z I L 0 0 := by
  intro n
  induction n with
  | zero => intro v0 v2 v3 v4 I L _ h; exact h.elim
  | succ n ih =>
    intro v0 v2 v3 v4 I L kv0 h
    have h : (((I v0 15) < v4 → (f_X6_measure v0 (1 : Int32) (I v0 15) Z I L (fun I18 L19 => (∀ x21 : Int32, x21 = (I18 v0 15) → (∃ m104 : Nat, f_X6_lay_L104  Z Q m104 v0 x21 I18 L19))))) ∧ (¬ ((I v0 15) < v4) → (∀ x23 : Int32, x23 = (v4 - (1 : Int32)) → (∀ b24 : Nat, jr Z v0 6 = some b24 → ((x23 = v3 → f_X6_lay_b81 (f_X6_lay_L31 Z Q n) Z Q v0 v2 v3 v4 b24 v4 I L) ∧ (¬ (x23 = v3) → (∀ b26 : Nat, jr Z v0 0 = some b26 → (∀ b27 : Nat, jr Z b26 4 = some b27 → (f_X4_mainOf b27 x23 Z I L (fun r33 I30 L31 => ((¬ ((v2 >>> (r33 &&& 31)) &&& (1 : Int32)) = 0 → f_X6_lay_b81 (f_X6_lay_L31 Z Q n) Z Q v0 v2 v3 v4 b24 v4 I30 L31) ∧ (((v2 >>> (r33 &&& 31)) &&& (1 : Int32)) = 0 → f_X6_lay_b82 (f_X6_lay_L31 Z Q n) Z Q v0 v2 v3 v4 b24 v4 (1 : Int32) I30 L31)))))))))))) := h
    obtain ⟨K31, eK31⟩ : ∃ K : Nat → Int32 → Int32 → Int32 → jI → jL → Prop, K = f_X6_lay_L31  Z Q n := ⟨_, rfl⟩
    have hK31 := ih
    clear eK31 K31
    generalize f_X6_lay_L31  Z Q n = K31 at hK31 h
    refine j_iload E dX6_lay_31 3 rfl ?_
    refine j_aload_n E dX6_lay_33 0 rfl ?_
    refine j_geti E 6 15 rfl rfl (by decide) (by decide) (iw iT_6) rfl rfl (tw W_290) kv0 dX6_lay_34 ?_
    refine j_icmp_gt E 89 dX6_lay_37 (by decide) (fun c15 => ?_) (fun c15 => ?_)
    · have h := h.1 c15
      refine j_aload_n E dX6_lay_89 0 rfl ?_
      refine j_iconst E (v := 1) dX6_lay_90 (by decide) ?_
      refine j_aload_n E dX6_lay_91 0 rfl ?_
      refine j_geti E 6 15 rfl rfl (by decide) (by decide) (iw iT_6) rfl rfl (tw W_290) kv0 dX6_lay_92 ?_
      refine j_callV E [.int (1 : Int32), .int (I v0 15)] [] (c_X6_measure (gL G) (gD G) (gY G) v0 (1 : Int32) (I v0 15) Z I L _ hZ kv0 h) (gwV W_300 W_301 W_302 W_21 W_299) rfl ⟨rfl, fy_X6_measure⟩ ⟨by decide, by decide⟩ (c := 6) rfl (by decide) kv0 rfl rfl (Nat.le_of_ble_eq_true rfl) ⟨Nat.zero_le _, Nat.zero_le _⟩ dX6_lay_95 (fun v16 Z17 I18 L19 q20 => ?_)
      obtain ⟨rfl, rfl, h⟩ := q20
      show jJ G 6 98 [(0, .ref v0), (2, .int v2), (3, .int v3), (4, .int v4)] [] Z I18 L19 0 0
      refine j_aload_n E dX6_lay_98 0 rfl ?_
      refine j_geti E 6 15 rfl rfl (by decide) (by decide) (iw iT_6) rfl rfl (tw W_290) kv0 dX6_lay_99 ?_
      refine j_topi (fun x21 ex21 => ?_)
      have h := h x21 ex21
      refine j_istore E 4 [(4, .int x21), (0, .ref v0), (2, .int v2), (3, .int v3)] dX6_lay_102 (by decide) rfl ?_
      obtain ⟨n22, h⟩ := h
      refine j_sub [1, 0] rfl ?_
      exact m_X6_lay_L104 E hZ  n22 v0 x21 I18 L19 kv0 h
    · have h := h.2 c15
      refine j_iload E dX6_lay_40 3 rfl ?_
      refine j_iconst E (v := 1) dX6_lay_42 (by decide) ?_
      refine j_isub E dX6_lay_43 ?_
      refine j_topi (fun x23 ex23 => ?_)
      have h := h x23 ex23
      refine j_istore E 5 [(5, .int x23), (0, .ref v0), (2, .int v2), (3, .int v3), (4, .int v4)] dX6_lay_44 (by decide) rfl ?_
      refine j_aload_n E dX6_lay_46 1 rfl ?_
      obtain ⟨b24, eb24, kb24, lb24⟩ := sh_f hZ kv0 (j := 6) (k := 16) (m := 25) rfl
      have h := h b24 eb24
      refine j_getr E 6 6 rfl rfl (by decide) (by decide) (iw iT_6) rfl rfl (tw W_47) kv0 eb24 dX6_lay_47 ?_
      refine j_iload E dX6_lay_50 4 rfl ?_
      refine j_iload E dX6_lay_52 0 rfl ?_
      refine j_iload_n E dX6_lay_54 3 rfl ?_
      refine j_icmp_eq E 81 dX6_lay_55 (by decide) (fun c25 => ?_) (fun c25 => ?_)
      · have h := h.1 c25
        refine j_sub [1, 2, 3, 4] rfl ?_
        exact m_X6_lay_b81 E hZ K31 hK31 v0 v2 v3 v4 b24 v4 I L kv0 kb24 h
      · have h := h.2 c25
        refine j_iload_n E dX6_lay_58 2 rfl ?_
        refine j_aload_n E dX6_lay_59 1 rfl ?_
        obtain ⟨b26, eb26, kb26⟩ := sh_o hZ kv0 (j := 0) (k := 8) rfl
        have h := h b26 eb26
        refine j_getr E 6 0 rfl rfl (by decide) (by decide) (iw iT_6) rfl rfl (tw W_280) kv0 eb26 dX6_lay_60 ?_
        obtain ⟨b27, eb27, kb27⟩ := sh_o hZ kb26 (j := 4) (k := 4) rfl
        have h := h b27 eb27
        refine j_getrN E 8 4 rfl rfl (by decide) (by decide) (iw iT_8) rfl rfl (nw_8_4_X6_79) kb26 eb27 dX6_lay_63 ?_
        refine j_iload E dX6_lay_66 0 rfl ?_
        refine j_callV E [.int x23] [.int v2, .int v4, .ref b24] (c_X4_mainOf (gL G) (gD G) (gY G) b27 x23 Z I L _ hZ kb27 h) (gwV W_303 W_259 W_260 W_154 W_257) rfl ⟨rfl, fy_X4_mainOf⟩ ⟨by decide, by decide⟩ (c := 4) rfl (by decide) kb27 rfl rfl (Nat.le_of_ble_eq_true rfl) ⟨Nat.zero_le _, Nat.zero_le _⟩ dX6_lay_68 (fun v28 Z29 I30 L31 q32 => ?_)
        obtain ⟨rfl, r33, rfl, h⟩ := q32
        show jJ G 6 71 [(5, .int x23), (0, .ref v0), (2, .int v2), (3, .int v3), (4, .int v4)] [.int r33, .int v2, .int v4, .ref b24] Z I30 L31 0 0
        refine j_ishr E dX6_lay_71 ?_
        refine j_iconst E (v := 1) dX6_lay_72 (by decide) ?_
        refine j_iand E dX6_lay_73 ?_
        refine j_if_ne E 81 dX6_lay_74 (by decide) (fun c34 => ?_) (fun c34 => ?_)
        · have h := h.1 c34
          refine j_sub [1, 2, 3, 4] rfl ?_
          exact m_X6_lay_b81 E hZ K31 hK31 v0 v2 v3 v4 b24 v4 I30 L31 kv0 kb24 h
        · have h := h.2 c34
          refine j_iconst E (v := 1) dX6_lay_77 (by decide) ?_
          refine j_goto E 82 dX6_lay_78 (by decide) ?_
          refine j_sub [1, 2, 3, 4] rfl ?_
          exact m_X6_lay_b82 E hZ K31 hK31 v0 v2 v3 v4 b24 v4 (1 : Int32) I30 L31 kv0 kb24 h
set_option maxRecDepth 100000 in
def f_X6_lay (v0 : Nat) (v1 : Int32) (v2 : Int32) (v3 : Int32) (Z : jZ) (I : jI) (L : jL) (Q : jI → jL → Prop) : Prop := (∀ I35 : jI, I35 = jpI I v0 14 v1 → (∀ b36 : Nat, jr Z v0 0 = some b36 → (∀ I37 : jI, I37 = jpI I35 v0 15 (if (24 : Int32) < (I35 b36 9) then (24 : Int32) else (I35 b36 9)) → (∀ b38 : Nat, jr Z v0 6 = some b38 → (∀ I39 : jI, I39 = jpI I37 b38 (0 : Int32).toNatClampNeg (vp_nar .boolean (1 : Int32)) → (∃ m31 : Nat, f_X6_lay_L31  Z Q m31 v0 v2 v3 (1 : Int32) I39 L))))))
set_option maxHeartbeats 4000000 in
set_option maxRecDepth 100000 in
theorem c_X6_lay (l : Launch) (D : va_G) (cy : jC) (v0 : Nat) (v1 : Int32) (v2 : Int32) (v3 : Int32) (Z : jZ) (I : jI) (L : jL) (Q : jI → jL → Prop) (hZ : SH Z) (kv0 : jk Z v0 6) (h : f_X6_lay v0 v1 v2 v3 Z I L Q) : jCt l yX6_lay w_X6_lay { frames := 5, cells := 0, slots := 0, locals := 125 } D cy [.ref v0, .int v1, .int v2, .int v3] Z I L (rtV Z Q) := by
  refine jCt_of (cc := cX6_lay) (maxL := 6) (ret := none) (by decide +kernel) rfl (Nat.le_of_ble_eq_true rfl) ?_
  intro G eD eY eL E
  subst eD; subst eY; subst eL
  have E : jE G cX6_lay RX6 w_X6_lay 6 none { frames := 5, cells := 0, slots := 0, locals := 125 } (rtV Z Q) := E
  show jJ G 6 0 [(0, .ref v0), (1, .int v1), (2, .int v2), (3, .int v3)] [] Z I L 0 0
  refine j_aload_n E dX6_lay_0 0 rfl ?_
  refine j_iload_n E dX6_lay_1 1 rfl ?_
  refine j_puti E 6 14 rfl rfl (by decide) (by decide) (iw iT_6) tyX6_ok nmX6 rfl rfl (tw W_281) rfl rfl rfl kv0 dX6_lay_2 ?_
  refine j_nmI (fun I35 eI35 => ?_)
  have h := h I35 eI35
  refine j_aload_n E dX6_lay_5 0 rfl ?_
  refine j_aload_n E dX6_lay_6 0 rfl ?_
  obtain ⟨b36, eb36, kb36⟩ := sh_o hZ kv0 (j := 0) (k := 8) rfl
  have h := h b36 eb36
  refine j_getr E 6 0 rfl rfl (by decide) (by decide) (iw iT_6) rfl rfl (tw W_280) kv0 eb36 dX6_lay_7 ?_
  refine j_getiN E 8 9 rfl rfl (by decide) (by decide) (iw iT_8) rfl rfl (nw_8_9_X6_68) kb36 dX6_lay_10 ?_
  refine j_bipush E (v := 24) dX6_lay_13 (by decide) ?_
  refine j_min E (tw W_293) (tw W_118) (tw W_119) (tw W_120) (by decide) (Nat.le_of_ble_eq_true rfl) (Nat.zero_le _) (Nat.zero_le _) dX6_lay_15 ?_
  refine j_puti E 6 15 rfl rfl (by decide) (by decide) (iw iT_6) tyX6_ok nmX6 rfl rfl (tw W_290) rfl rfl rfl kv0 dX6_lay_18 ?_
  refine j_nmI (fun I37 eI37 => ?_)
  have h := h I37 eI37
  refine j_aload_n E dX6_lay_21 0 rfl ?_
  obtain ⟨b38, eb38, kb38, lb38⟩ := sh_f hZ kv0 (j := 6) (k := 16) (m := 25) rfl
  have h := h b38 eb38
  refine j_getr E 6 6 rfl rfl (by decide) (by decide) (iw iT_6) rfl rfl (tw W_47) kv0 eb38 dX6_lay_22 ?_
  refine j_iconst E (v := 0) dX6_lay_25 (by decide) ?_
  refine j_iconst E (v := 1) dX6_lay_26 (by decide) ?_
  refine j_zast E kb38 (by rw [lb38]; exact vp_in_lit (by decide)) dX6_lay_27 ?_
  refine j_nmI (fun I39 eI39 => ?_)
  have h := h I39 eI39
  refine j_iconst E (v := 1) dX6_lay_28 (by decide) ?_
  refine j_istore E 4 [(4, .int (1 : Int32)), (0, .ref v0), (1, .int v1), (2, .int v2), (3, .int v3)] dX6_lay_29 (by decide) rfl ?_
  obtain ⟨n40, h⟩ := h
  refine j_sub [1, 3, 4, 0] rfl ?_
  exact m_X6_lay_L31 E hZ  n40 v0 v2 v3 (1 : Int32) I39 L kv0 h
set_option maxRecDepth 100000 in
def f_X6_leastEffortFrom_L13  (Z : jZ) (Q : Int32 → jI → jL → Prop) : Nat → Nat → Int32 → Int32 → Int32 → jI → jL → Prop
  | 0 => fun _ _ _ _ _ _ => False
  | n + 1 => fun v0 v1 v2 v3 I L => (((I v0 3) < v3 → Q v2 I L) ∧ (¬ ((I v0 3) < v3) → ((v1 < v3 → Q v2 I L) ∧ (¬ (v1 < v3) → (∀ b3 : Nat, jr Z v0 6 = some b3 → (vp_in v1 25 ∧ (((I b3 v1.toNatClampNeg) = 0 → Q v2 I L) ∧ (¬ ((I b3 v1.toNatClampNeg) = 0) → (∀ b6 : Nat, jr Z v0 5 = some b6 → (f_X6_moveTo v1 v3 Z I L (fun r12 I9 L10 => (vp_in r12 75 ∧ (∀ b14 : Nat, jr Z v0 8 = some b14 → (vp_in (v1 - v3) 25 ∧ (∀ x16 : Int32, x16 = (if ((I9 b6 r12.toNatClampNeg) + (I9 b14 (v1 - v3).toNatClampNeg)) < v2 then ((I9 b6 r12.toNatClampNeg) + (I9 b14 (v1 - v3).toNatClampNeg)) else v2) → (∀ x17 : Int32, x17 = v3 + 1 → (f_X6_leastEffortFrom_L13 Z Q n) v0 v1 x16 x17 I9 L10))))))))))))))))
set_option maxHeartbeats 4000000 in
set_option maxRecDepth 100000 in
theorem m_X6_leastEffortFrom_L13 {G : jG} {Z : jZ} {Q : Int32 → jI → jL → Prop} (E : jE G cX6_leastEffortFrom RX6 w_X6_leastEffortFrom 4 (some .int) { frames := 1, cells := 0, slots := 0, locals := 23 } (rtI Z Q)) (hZ : SH Z)  : ∀ (n : Nat) (v0 : Nat) (v1 : Int32) (v2 : Int32) (v3 : Int32) (I : jI) (L : jL), jk Z v0 6 → f_X6_leastEffortFrom_L13  Z Q n v0 v1 v2 v3 I L → jJ G 4 13 [(0, .ref v0), (1, .int v1), (2, .int v2), (3, .int v3)] [] Z I L 0 0 := by
  intro n
  induction n with
  | zero => intro v0 v1 v2 v3 I L _ h; exact h.elim
  | succ n ih =>
    intro v0 v1 v2 v3 I L kv0 h
    have h : (((I v0 3) < v3 → Q v2 I L) ∧ (¬ ((I v0 3) < v3) → ((v1 < v3 → Q v2 I L) ∧ (¬ (v1 < v3) → (∀ b3 : Nat, jr Z v0 6 = some b3 → (vp_in v1 25 ∧ (((I b3 v1.toNatClampNeg) = 0 → Q v2 I L) ∧ (¬ ((I b3 v1.toNatClampNeg) = 0) → (∀ b6 : Nat, jr Z v0 5 = some b6 → (f_X6_moveTo v1 v3 Z I L (fun r12 I9 L10 => (vp_in r12 75 ∧ (∀ b14 : Nat, jr Z v0 8 = some b14 → (vp_in (v1 - v3) 25 ∧ (∀ x16 : Int32, x16 = (if ((I9 b6 r12.toNatClampNeg) + (I9 b14 (v1 - v3).toNatClampNeg)) < v2 then ((I9 b6 r12.toNatClampNeg) + (I9 b14 (v1 - v3).toNatClampNeg)) else v2) → (∀ x17 : Int32, x17 = v3 + 1 → (f_X6_leastEffortFrom_L13 Z Q n) v0 v1 x16 x17 I9 L10)))))))))))))))) := h
    obtain ⟨K13, eK13⟩ : ∃ K : Nat → Int32 → Int32 → Int32 → jI → jL → Prop, K = f_X6_leastEffortFrom_L13  Z Q n := ⟨_, rfl⟩
    have hK13 := ih
    clear eK13 K13
    generalize f_X6_leastEffortFrom_L13  Z Q n = K13 at hK13 h
    refine j_iload_n E dX6_leastEffortFrom_13 3 rfl ?_
    refine j_aload_n E dX6_leastEffortFrom_14 0 rfl ?_
    refine j_geti E 6 3 rfl rfl (by decide) (by decide) (iw iT_6) rfl rfl (tw W_46) kv0 dX6_leastEffortFrom_15 ?_
    refine j_icmp_gt E 65 dX6_leastEffortFrom_18 (by decide) (fun c1 => ?_) (fun c1 => ?_)
    · have h := h.1 c1
      refine j_iload_n E dX6_leastEffortFrom_65 2 rfl ?_
      exact j_ireturn E ⟨rfl, _, rfl, h⟩ (Nat.zero_le _) (Nat.zero_le _) dX6_leastEffortFrom_66
    · have h := h.2 c1
      refine j_iload_n E dX6_leastEffortFrom_21 3 rfl ?_
      refine j_iload_n E dX6_leastEffortFrom_22 1 rfl ?_
      refine j_icmp_gt E 65 dX6_leastEffortFrom_23 (by decide) (fun c2 => ?_) (fun c2 => ?_)
      · have h := h.1 c2
        refine j_iload_n E dX6_leastEffortFrom_65 2 rfl ?_
        exact j_ireturn E ⟨rfl, _, rfl, h⟩ (Nat.zero_le _) (Nat.zero_le _) dX6_leastEffortFrom_66
      · have h := h.2 c2
        refine j_aload_n E dX6_leastEffortFrom_26 0 rfl ?_
        obtain ⟨b3, eb3, kb3, lb3⟩ := sh_f hZ kv0 (j := 6) (k := 16) (m := 25) rfl
        have h := h b3 eb3
        refine j_getr E 6 6 rfl rfl (by decide) (by decide) (iw iT_6) rfl rfl (tw W_47) kv0 eb3 dX6_leastEffortFrom_27 ?_
        refine j_iload_n E dX6_leastEffortFrom_30 1 rfl ?_
        obtain ⟨o4, h⟩ := h
        refine j_zald E kb3 (by rw [lb3]; exact o4) dX6_leastEffortFrom_31 ?_
        refine j_if_eq E 65 dX6_leastEffortFrom_32 (by decide) (fun c5 => ?_) (fun c5 => ?_)
        · have h := h.1 c5
          refine j_iload_n E dX6_leastEffortFrom_65 2 rfl ?_
          exact j_ireturn E ⟨rfl, _, rfl, h⟩ (Nat.zero_le _) (Nat.zero_le _) dX6_leastEffortFrom_66
        · have h := h.2 c5
          refine j_iload_n E dX6_leastEffortFrom_35 2 rfl ?_
          refine j_aload_n E dX6_leastEffortFrom_36 0 rfl ?_
          obtain ⟨b6, eb6, kb6, lb6⟩ := sh_f hZ kv0 (j := 5) (k := 14) (m := 75) rfl
          have h := h b6 eb6
          refine j_getr E 6 5 rfl rfl (by decide) (by decide) (iw iT_6) rfl rfl (tw W_25) kv0 eb6 dX6_leastEffortFrom_37 ?_
          refine j_iload_n E dX6_leastEffortFrom_40 1 rfl ?_
          refine j_iload_n E dX6_leastEffortFrom_41 3 rfl ?_
          refine j_callS E [.int v1, .int v3] [.ref b6, .int v2] (c_X6_moveTo (gL G) (gD G) (gY G) v1 v3 Z I L _ hZ  h) (gwS W_22 W_23 W_21 W_20) rfl fy_X6_moveTo ⟨by decide, by decide⟩ rfl rfl (Nat.le_of_ble_eq_true rfl) ⟨Nat.zero_le _, Nat.zero_le _⟩ dX6_leastEffortFrom_42 (fun v7 Z8 I9 L10 q11 => ?_)
          obtain ⟨rfl, r12, rfl, h⟩ := q11
          show jJ G 4 45 [(0, .ref v0), (1, .int v1), (2, .int v2), (3, .int v3)] [.int r12, .ref b6, .int v2] Z I9 L10 0 0
          obtain ⟨o13, h⟩ := h
          refine j_iald E kb6 (by rw [lb6]; exact o13) dX6_leastEffortFrom_45 ?_
          refine j_aload_n E dX6_leastEffortFrom_46 0 rfl ?_
          obtain ⟨b14, eb14, kb14, lb14⟩ := sh_f hZ kv0 (j := 8) (k := 14) (m := 25) rfl
          have h := h b14 eb14
          refine j_getr E 6 8 rfl rfl (by decide) (by decide) (iw iT_6) rfl rfl (tw W_304) kv0 eb14 dX6_leastEffortFrom_47 ?_
          refine j_iload_n E dX6_leastEffortFrom_50 1 rfl ?_
          refine j_iload_n E dX6_leastEffortFrom_51 3 rfl ?_
          refine j_isub E dX6_leastEffortFrom_52 ?_
          obtain ⟨o15, h⟩ := h
          refine j_iald E kb14 (by rw [lb14]; exact o15) dX6_leastEffortFrom_53 ?_
          refine j_iadd E dX6_leastEffortFrom_54 ?_
          refine j_min E (tw W_293) (tw W_118) (tw W_119) (tw W_120) (by decide) (Nat.le_of_ble_eq_true rfl) (Nat.zero_le _) (Nat.zero_le _) dX6_leastEffortFrom_55 ?_
          refine j_topi (fun x16 ex16 => ?_)
          have h := h x16 ex16
          refine j_istore_n E 2 [(2, .int x16), (0, .ref v0), (1, .int v1), (3, .int v3)] dX6_leastEffortFrom_58 rfl (by decide) rfl ?_
          obtain ⟨x17, ex17⟩ : ∃ y : Int32, y = v3 + 1 := ⟨_, rfl⟩
          have h := h x17 ex17
          refine j_iinc E x17 [(3, .int x17), (2, .int x16), (0, .ref v0), (1, .int v1)] dX6_leastEffortFrom_59 3 rfl (by rw [ex17]; rfl) (by decide) rfl ?_
          refine j_goto E 13 dX6_leastEffortFrom_62 (by decide) ?_
          refine j_sub [2, 3, 1, 0] rfl ?_
          exact hK13 v0 v1 x16 x17 I9 L10 kv0 h
set_option maxRecDepth 100000 in
def f_X6_leastEffortFrom_b10  (Z : jZ) (Q : Int32 → jI → jL → Prop) (v0 : Nat) (v1 : Int32) (s0 : Int32) (I : jI) (L : jL) : Prop := (∃ m13 : Nat, f_X6_leastEffortFrom_L13  Z Q m13 v0 v1 s0 (1 : Int32) I L)
set_option maxHeartbeats 4000000 in
set_option maxRecDepth 100000 in
theorem m_X6_leastEffortFrom_b10 {G : jG} {Z : jZ} {Q : Int32 → jI → jL → Prop} (E : jE G cX6_leastEffortFrom RX6 w_X6_leastEffortFrom 4 (some .int) { frames := 1, cells := 0, slots := 0, locals := 23 } (rtI Z Q)) (hZ : SH Z)  (v0 : Nat) (v1 : Int32) (s0 : Int32) (I : jI) (L : jL) (kv0 : jk Z v0 6) (h : f_X6_leastEffortFrom_b10  Z Q v0 v1 s0 I L) : jJ G 4 10 [(0, .ref v0), (1, .int v1)] [.int s0] Z I L 0 0 := by
  refine j_istore_n E 2 [(2, .int s0), (0, .ref v0), (1, .int v1)] dX6_leastEffortFrom_10 rfl (by decide) rfl ?_
  refine j_iconst E (v := 1) dX6_leastEffortFrom_11 (by decide) ?_
  refine j_istore_n E 3 [(3, .int (1 : Int32)), (2, .int s0), (0, .ref v0), (1, .int v1)] dX6_leastEffortFrom_12 rfl (by decide) rfl ?_
  obtain ⟨n18, h⟩ := h
  refine j_sub [2, 3, 1, 0] rfl ?_
  exact m_X6_leastEffortFrom_L13 E hZ  n18 v0 v1 s0 (1 : Int32) I L kv0 h
set_option maxRecDepth 100000 in
def f_X6_leastEffortFrom (v0 : Nat) (v1 : Int32) (Z : jZ) (I : jI) (L : jL) (Q : Int32 → jI → jL → Prop) : Prop := ((¬ v1 = 0 → f_X6_leastEffortFrom_b10  Z Q v0 v1 (1048576 : Int32) I L) ∧ (v1 = 0 → f_X6_leastEffortFrom_b10  Z Q v0 v1 (0 : Int32) I L))
set_option maxHeartbeats 4000000 in
set_option maxRecDepth 100000 in
theorem c_X6_leastEffortFrom (l : Launch) (D : va_G) (cy : jC) (v0 : Nat) (v1 : Int32) (Z : jZ) (I : jI) (L : jL) (Q : Int32 → jI → jL → Prop) (hZ : SH Z) (kv0 : jk Z v0 6) (h : f_X6_leastEffortFrom v0 v1 Z I L Q) : jCt l yX6_leastEffortFrom w_X6_leastEffortFrom { frames := 1, cells := 0, slots := 0, locals := 23 } D cy [.ref v0, .int v1] Z I L (rtI Z Q) := by
  refine jCt_of (cc := cX6_leastEffortFrom) (maxL := 4) (ret := (some .int)) (by decide +kernel) rfl (Nat.le_of_ble_eq_true rfl) ?_
  intro G eD eY eL E
  subst eD; subst eY; subst eL
  have E : jE G cX6_leastEffortFrom RX6 w_X6_leastEffortFrom 4 (some .int) { frames := 1, cells := 0, slots := 0, locals := 23 } (rtI Z Q) := E
  show jJ G 4 0 [(0, .ref v0), (1, .int v1)] [] Z I L 0 0
  refine j_iload_n E dX6_leastEffortFrom_0 1 rfl ?_
  refine j_if_ne E 8 dX6_leastEffortFrom_1 (by decide) (fun c19 => ?_) (fun c19 => ?_)
  · have h := h.1 c19
    refine j_ldc E (tw W_294) dX6_leastEffortFrom_8 ?_
    refine j_sub [0, 1] rfl ?_
    exact m_X6_leastEffortFrom_b10 E hZ  v0 v1 (1048576 : Int32) I L kv0 h
  · have h := h.2 c19
    refine j_iconst E (v := 0) dX6_leastEffortFrom_4 (by decide) ?_
    refine j_goto E 10 dX6_leastEffortFrom_5 (by decide) ?_
    refine j_sub [0, 1] rfl ?_
    exact m_X6_leastEffortFrom_b10 E hZ  v0 v1 (0 : Int32) I L kv0 h
set_option maxRecDepth 100000 in
def f_X6_raiseOne (v0 : Nat) (v1 : Int32) (Z : jZ) (I : jI) (L : jL) (Q : jZ → jI → jL → Prop) : Prop := ((v1 ≤ 0 → Q Z I L) ∧ (¬ (v1 ≤ 0) → (((I v0 15) < v1 → Q Z I L) ∧ (¬ ((I v0 15) < v1) → (∀ b3 : Nat, jr Z v0 9 = some b3 → (f_X6_feed v0 b3 v1 (-1 : Int64) (-1 : Int32) Z I L (fun I6 L7 => (∀ b9 : Nat, jr Z v0 9 = some b9 → (∀ b10 : Nat, jr Z v0 7 = some b10 → (vp_in v1 25 ∧ (f_X7_keepCheapest b9 v1 ((I6 v0 1) - (I6 b10 v1.toNatClampNeg)) (I6 v0 2) Z I6 L7 (fun Z13 I14 L15 => Q Z13 I14 L15))))))))))))
set_option maxHeartbeats 4000000 in
set_option maxRecDepth 100000 in
theorem c_X6_raiseOne (l : Launch) (D : va_G) (cy : jC) (v0 : Nat) (v1 : Int32) (Z : jZ) (I : jI) (L : jL) (Q : jZ → jI → jL → Prop) (hZ : SH Z) (kv0 : jk Z v0 6) (h : f_X6_raiseOne v0 v1 Z I L Q) : jCt l yX6_raiseOne w_X6_raiseOne { frames := 3, cells := 0, slots := 0, locals := 72 } D cy [.ref v0, .int v1] Z I L (xrtV Z Q) := by
  refine jCt_of (cc := cX6_raiseOne) (maxL := 2) (ret := none) (by decide +kernel) rfl (Nat.le_of_ble_eq_true rfl) ?_
  intro G eD eY eL E
  subst eD; subst eY; subst eL
  have E : jE G cX6_raiseOne RX6 w_X6_raiseOne 2 none { frames := 3, cells := 0, slots := 0, locals := 72 } (xrtV Z Q) := E
  have hx : jext Z Z := jext_rfl
  show jJ G 2 0 [(0, .ref v0), (1, .int v1)] [] Z I L 0 0
  refine j_iload_n E dX6_raiseOne_0 1 rfl ?_
  refine j_if_le E 48 dX6_raiseOne_1 (by decide) (fun c1 => ?_) (fun c1 => ?_)
  · have h := h.1 c1
    exact j_return E ⟨hx, hZ, rfl, h⟩ (Nat.zero_le _) (Nat.zero_le _) dX6_raiseOne_48
  · have h := h.2 c1
    refine j_iload_n E dX6_raiseOne_4 1 rfl ?_
    refine j_aload_n E dX6_raiseOne_5 0 rfl ?_
    refine j_geti E 6 15 rfl rfl (by decide) (by decide) (iw iT_6) rfl rfl (tw W_290) kv0 dX6_raiseOne_6 ?_
    refine j_icmp_gt E 48 dX6_raiseOne_9 (by decide) (fun c2 => ?_) (fun c2 => ?_)
    · have h := h.1 c2
      exact j_return E ⟨hx, hZ, rfl, h⟩ (Nat.zero_le _) (Nat.zero_le _) dX6_raiseOne_48
    · have h := h.2 c2
      refine j_aload_n E dX6_raiseOne_12 0 rfl ?_
      refine j_aload_n E dX6_raiseOne_13 0 rfl ?_
      obtain ⟨b3, eb3, kb3⟩ := sh_o hZ kv0 (j := 9) (k := 7) rfl
      have h := h b3 eb3
      refine j_getr E 6 9 rfl rfl (by decide) (by decide) (iw iT_6) rfl rfl (tw W_305) kv0 eb3 dX6_raiseOne_14 ?_
      refine j_iload_n E dX6_raiseOne_17 1 rfl ?_
      refine j_ldc2 E (tw W_306) dX6_raiseOne_18 ?_
      refine j_iconst E (v := -1) dX6_raiseOne_21 (by decide) ?_
      refine j_callV E [.ref b3, .int v1, .long (-1 : Int64), .int (-1 : Int32)] [] (c_X6_feed (gL G) (gD G) (gY G) v0 b3 v1 (-1 : Int64) (-1 : Int32) Z I L _ hZ kv0 kb3 h) (gwV W_307 W_67 W_68 W_21 W_65) rfl ⟨rfl, fy_X6_feed⟩ ⟨by decide, by decide⟩ (c := 6) rfl (by decide) kv0 rfl rfl (Nat.le_of_ble_eq_true rfl) ⟨Nat.zero_le _, Nat.zero_le _⟩ dX6_raiseOne_22 (fun v4 Z5 I6 L7 q8 => ?_)
      obtain ⟨rfl, rfl, h⟩ := q8
      show jJ G 2 25 [(0, .ref v0), (1, .int v1)] [] Z I6 L7 0 0
      refine j_aload_n E dX6_raiseOne_25 0 rfl ?_
      obtain ⟨b9, eb9, kb9⟩ := sh_o hZ kv0 (j := 9) (k := 7) rfl
      have h := h b9 eb9
      refine j_getr E 6 9 rfl rfl (by decide) (by decide) (iw iT_6) rfl rfl (tw W_305) kv0 eb9 dX6_raiseOne_26 ?_
      refine j_iload_n E dX6_raiseOne_29 1 rfl ?_
      refine j_aload_n E dX6_raiseOne_30 0 rfl ?_
      refine j_geti E 6 1 rfl rfl (by decide) (by decide) (iw iT_6) rfl rfl (tw W_308) kv0 dX6_raiseOne_31 ?_
      refine j_aload_n E dX6_raiseOne_34 0 rfl ?_
      obtain ⟨b10, eb10, kb10, lb10⟩ := sh_f hZ kv0 (j := 7) (k := 14) (m := 25) rfl
      have h := h b10 eb10
      refine j_getr E 6 7 rfl rfl (by decide) (by decide) (iw iT_6) rfl rfl (tw W_292) kv0 eb10 dX6_raiseOne_35 ?_
      refine j_iload_n E dX6_raiseOne_38 1 rfl ?_
      obtain ⟨o11, h⟩ := h
      refine j_iald E kb10 (by rw [lb10]; exact o11) dX6_raiseOne_39 ?_
      refine j_isub E dX6_raiseOne_40 ?_
      refine j_aload_n E dX6_raiseOne_41 0 rfl ?_
      refine j_geti E 6 2 rfl rfl (by decide) (by decide) (iw iT_6) rfl rfl (tw W_309) kv0 dX6_raiseOne_42 ?_
      refine j_callV E [.int v1, .int ((I6 v0 1) - (I6 b10 v1.toNatClampNeg)), .int (I6 v0 2)] [] (c_X7_keepCheapest (gL G) (gD G) (gY G) b9 v1 ((I6 v0 1) - (I6 b10 v1.toNatClampNeg)) (I6 v0 2) Z I6 L7 _ hZ kb9 h) (gwV W_310 W_71 W_72 W_12 W_69) rfl ⟨rfl, fy_X7_keepCheapest⟩ ⟨by decide, by decide⟩ (c := 7) rfl (by decide) kb9 rfl rfl (Nat.le_of_ble_eq_true rfl) ⟨Nat.zero_le _, Nat.zero_le _⟩ dX6_raiseOne_45 (fun v12 Z13 I14 L15 q16 => ?_)
      obtain ⟨yZ13, hZ13, rfl, h⟩ := q16
      have hZ := hZ13
      have hx : jext Z Z13 := jext_trans hx yZ13
      have k17 := (yZ13 _ _ kv0).1
      show jJ G 2 48 [(0, .ref v0), (1, .int v1)] [] Z13 I14 L15 0 0
      exact j_return E ⟨hx, hZ, rfl, h⟩ (Nat.zero_le _) (Nat.zero_le _) dX6_raiseOne_48
set_option maxRecDepth 100000 in
def f_X6_raiseTo_L2  (Q : jZ → jI → jL → Prop) : Nat → Nat → Int32 → Int32 → jZ → jI → jL → Prop
  | 0 => fun _ _ _ _ _ _ => False
  | n + 1 => fun v0 v1 v2 Z I L => ((v1 < v2 → Q Z I L) ∧ (¬ (v1 < v2) → (((I v0 15) < v2 → Q Z I L) ∧ (¬ ((I v0 15) < v2) → (f_X6_raiseOne v0 v2 Z I L (fun Z4 I5 L6 => (∀ x9 : Int32, x9 = v2 + 1 → (f_X6_raiseTo_L2 Q n) v0 v1 x9 Z4 I5 L6)))))))
set_option maxHeartbeats 4000000 in
set_option maxRecDepth 100000 in
theorem m_X6_raiseTo_L2 {G : jG} {Z0 : jZ} {Q : jZ → jI → jL → Prop} (E : jE G cX6_raiseTo RX6 w_X6_raiseTo 3 none { frames := 4, cells := 0, slots := 0, locals := 93 } (xrtV Z0 Q))  : ∀ (n : Nat) (v0 : Nat) (v1 : Int32) (v2 : Int32) (Z : jZ) (I : jI) (L : jL), SH Z → jext Z0 Z → jk Z v0 6 → f_X6_raiseTo_L2  Q n v0 v1 v2 Z I L → jJ G 3 2 [(0, .ref v0), (1, .int v1), (2, .int v2)] [] Z I L 0 0 := by
  intro n
  induction n with
  | zero => intro v0 v1 v2 Z I L _ _ _ h; exact h.elim
  | succ n ih =>
    intro v0 v1 v2 Z I L hZ hx kv0 h
    have h : ((v1 < v2 → Q Z I L) ∧ (¬ (v1 < v2) → (((I v0 15) < v2 → Q Z I L) ∧ (¬ ((I v0 15) < v2) → (f_X6_raiseOne v0 v2 Z I L (fun Z4 I5 L6 => (∀ x9 : Int32, x9 = v2 + 1 → (f_X6_raiseTo_L2 Q n) v0 v1 x9 Z4 I5 L6))))))) := h
    obtain ⟨K2, eK2⟩ : ∃ K : Nat → Int32 → Int32 → jZ → jI → jL → Prop, K = f_X6_raiseTo_L2  Q n := ⟨_, rfl⟩
    have hK2 := ih
    clear eK2 K2
    generalize f_X6_raiseTo_L2  Q n = K2 at hK2 h
    refine j_iload_n E dX6_raiseTo_2 2 rfl ?_
    refine j_iload_n E dX6_raiseTo_3 1 rfl ?_
    refine j_icmp_gt E 26 dX6_raiseTo_4 (by decide) (fun c1 => ?_) (fun c1 => ?_)
    · have h := h.1 c1
      exact j_return E ⟨hx, hZ, rfl, h⟩ (Nat.zero_le _) (Nat.zero_le _) dX6_raiseTo_26
    · have h := h.2 c1
      refine j_iload_n E dX6_raiseTo_7 2 rfl ?_
      refine j_aload_n E dX6_raiseTo_8 0 rfl ?_
      refine j_geti E 6 15 rfl rfl (by decide) (by decide) (iw iT_6) rfl rfl (tw W_290) kv0 dX6_raiseTo_9 ?_
      refine j_icmp_gt E 26 dX6_raiseTo_12 (by decide) (fun c2 => ?_) (fun c2 => ?_)
      · have h := h.1 c2
        exact j_return E ⟨hx, hZ, rfl, h⟩ (Nat.zero_le _) (Nat.zero_le _) dX6_raiseTo_26
      · have h := h.2 c2
        refine j_aload_n E dX6_raiseTo_15 0 rfl ?_
        refine j_iload_n E dX6_raiseTo_16 2 rfl ?_
        refine j_callV E [.int v2] [] (c_X6_raiseOne (gL G) (gD G) (gY G) v0 v2 Z I L _ hZ kv0 h) (gwV W_312 W_313 W_314 W_21 W_311) rfl ⟨rfl, fy_X6_raiseOne⟩ ⟨by decide, by decide⟩ (c := 6) rfl (by decide) kv0 rfl rfl (Nat.le_of_ble_eq_true rfl) ⟨Nat.zero_le _, Nat.zero_le _⟩ dX6_raiseTo_17 (fun v3 Z4 I5 L6 q7 => ?_)
        obtain ⟨yZ4, hZ4, rfl, h⟩ := q7
        have hZ := hZ4
        have hx : jext Z0 Z4 := jext_trans hx yZ4
        have k8 := (yZ4 _ _ kv0).1
        show jJ G 3 20 [(0, .ref v0), (1, .int v1), (2, .int v2)] [] Z4 I5 L6 0 0
        obtain ⟨x9, ex9⟩ : ∃ y : Int32, y = v2 + 1 := ⟨_, rfl⟩
        have h := h x9 ex9
        refine j_iinc E x9 [(2, .int x9), (0, .ref v0), (1, .int v1)] dX6_raiseTo_20 2 rfl (by rw [ex9]; rfl) (by decide) rfl ?_
        refine j_goto E 2 dX6_raiseTo_23 (by decide) ?_
        refine j_sub [1, 2, 0] rfl ?_
        exact hK2 v0 v1 x9 Z4 I5 L6 hZ hx k8 h
set_option maxRecDepth 100000 in
def f_X6_raiseTo (v0 : Nat) (v1 : Int32) (Z : jZ) (I : jI) (L : jL) (Q : jZ → jI → jL → Prop) : Prop := (∃ m2 : Nat, f_X6_raiseTo_L2  Q m2 v0 v1 (1 : Int32) Z I L)
set_option maxHeartbeats 4000000 in
set_option maxRecDepth 100000 in
theorem c_X6_raiseTo (l : Launch) (D : va_G) (cy : jC) (v0 : Nat) (v1 : Int32) (Z : jZ) (I : jI) (L : jL) (Q : jZ → jI → jL → Prop) (hZ : SH Z) (kv0 : jk Z v0 6) (h : f_X6_raiseTo v0 v1 Z I L Q) : jCt l yX6_raiseTo w_X6_raiseTo { frames := 4, cells := 0, slots := 0, locals := 93 } D cy [.ref v0, .int v1] Z I L (xrtV Z Q) := by
  refine jCt_of (cc := cX6_raiseTo) (maxL := 3) (ret := none) (by decide +kernel) rfl (Nat.le_of_ble_eq_true rfl) ?_
  intro G eD eY eL E
  subst eD; subst eY; subst eL
  have E : jE G cX6_raiseTo RX6 w_X6_raiseTo 3 none { frames := 4, cells := 0, slots := 0, locals := 93 } (xrtV Z Q) := E
  have hx : jext Z Z := jext_rfl
  show jJ G 3 0 [(0, .ref v0), (1, .int v1)] [] Z I L 0 0
  refine j_iconst E (v := 1) dX6_raiseTo_0 (by decide) ?_
  refine j_istore_n E 2 [(2, .int (1 : Int32)), (0, .ref v0), (1, .int v1)] dX6_raiseTo_1 rfl (by decide) rfl ?_
  obtain ⟨n10, h⟩ := h
  refine j_sub [1, 2, 0] rfl ?_
  exact m_X6_raiseTo_L2 E  n10 v0 v1 (1 : Int32) Z I L hZ hx kv0 h
set_option maxRecDepth 100000 in
def f_X6_cheapest (v0 : Nat) (Z : jZ) (I : jI) (L : jL) (Q : Int64 → jZ → jI → jL → Prop) : Prop := (∀ b1 : Nat, jr Z v0 7 = some b1 → (((I b1 (0 : Int32).toNatClampNeg) ≤ (I v0 1) → (∀ b3 : Nat, jr Z v0 9 = some b3 → (f_X7_begin b3 (0 : Int32) (16777215 : Int64) Z I L (fun Z5 I6 L7 => (f_X6_raiseTo v0 (I6 v0 15) Z5 I6 L7 (fun Z11 I12 L13 => (∀ b16 : Nat, jr Z11 v0 9 = some b16 → (f_X7_sizeAt b16 (I12 v0 15) Z11 I12 L13 (fun r22 I19 L20 => ((r22 ≤ 0 → Q (9223372036854775807 : Int64) Z11 I19 L20) ∧ (¬ (r22 ≤ 0) → (∀ b24 : Nat, jr Z11 v0 9 = some b24 → (f_X7_keyAt b24 (I19 v0 15) (0 : Int32) Z11 I19 L20 (fun r30 I27 L28 => Q r30 Z11 I27 L28)))))))))))))) ∧ (¬ ((I b1 (0 : Int32).toNatClampNeg) ≤ (I v0 1)) → Q (9223372036854775807 : Int64) Z I L)))
set_option maxHeartbeats 4000000 in
set_option maxRecDepth 100000 in
theorem c_X6_cheapest (l : Launch) (D : va_G) (cy : jC) (v0 : Nat) (Z : jZ) (I : jI) (L : jL) (Q : Int64 → jZ → jI → jL → Prop) (hZ : SH Z) (kv0 : jk Z v0 6) (h : f_X6_cheapest v0 Z I L Q) : jCt l yX6_cheapest w_X6_cheapest { frames := 5, cells := 0, slots := 0, locals := 115 } D cy [.ref v0] Z I L (xrtL Z Q) := by
  refine jCt_of (cc := cX6_cheapest) (maxL := 1) (ret := (some .long)) (by decide +kernel) rfl (Nat.le_of_ble_eq_true rfl) ?_
  intro G eD eY eL E
  subst eD; subst eY; subst eL
  have E : jE G cX6_cheapest RX6 w_X6_cheapest 1 (some .long) { frames := 5, cells := 0, slots := 0, locals := 115 } (xrtL Z Q) := E
  have hx : jext Z Z := jext_rfl
  show jJ G 1 0 [(0, .ref v0)] [] Z I L 0 0
  refine j_aload_n E dX6_cheapest_0 0 rfl ?_
  obtain ⟨b1, eb1, kb1, lb1⟩ := sh_f hZ kv0 (j := 7) (k := 14) (m := 25) rfl
  have h := h b1 eb1
  refine j_getr E 6 7 rfl rfl (by decide) (by decide) (iw iT_6) rfl rfl (tw W_292) kv0 eb1 dX6_cheapest_1 ?_
  refine j_iconst E (v := 0) dX6_cheapest_4 (by decide) ?_
  refine j_iald E kb1 (by rw [lb1]; exact vp_in_lit (by decide)) dX6_cheapest_5 ?_
  refine j_aload_n E dX6_cheapest_6 0 rfl ?_
  refine j_geti E 6 1 rfl rfl (by decide) (by decide) (iw iT_6) rfl rfl (tw W_308) kv0 dX6_cheapest_7 ?_
  refine j_icmp_le E 17 dX6_cheapest_10 (by decide) (fun c2 => ?_) (fun c2 => ?_)
  · have h := h.1 c2
    refine j_aload_n E dX6_cheapest_17 0 rfl ?_
    obtain ⟨b3, eb3, kb3⟩ := sh_o hZ kv0 (j := 9) (k := 7) rfl
    have h := h b3 eb3
    refine j_getr E 6 9 rfl rfl (by decide) (by decide) (iw iT_6) rfl rfl (tw W_305) kv0 eb3 dX6_cheapest_18 ?_
    refine j_iconst E (v := 0) dX6_cheapest_21 (by decide) ?_
    refine j_ldc2 E (tw W_315) dX6_cheapest_22 ?_
    refine j_callV E [.int (0 : Int32), .long (16777215 : Int64)] [] (c_X7_begin (gL G) (gD G) (gY G) b3 (0 : Int32) (16777215 : Int64) Z I L _ hZ kb3 h) (gwV W_316 W_76 W_77 W_12 W_74) rfl ⟨rfl, fy_X7_begin⟩ ⟨by decide, by decide⟩ (c := 7) rfl (by decide) kb3 rfl rfl (Nat.le_of_ble_eq_true rfl) ⟨Nat.zero_le _, Nat.zero_le _⟩ dX6_cheapest_25 (fun v4 Z5 I6 L7 q8 => ?_)
    obtain ⟨yZ5, hZ5, rfl, h⟩ := q8
    have hZ := hZ5
    have hx : jext Z Z5 := jext_trans hx yZ5
    have k9 := (yZ5 _ _ kv0).1
    show jJ G 1 28 [(0, .ref v0)] [] Z5 I6 L7 0 0
    refine j_aload_n E dX6_cheapest_28 0 rfl ?_
    refine j_aload_n E dX6_cheapest_29 0 rfl ?_
    refine j_geti E 6 15 rfl rfl (by decide) (by decide) (iw iT_6) rfl rfl (tw W_290) k9 dX6_cheapest_30 ?_
    refine j_callV E [.int (I6 v0 15)] [] (c_X6_raiseTo (gL G) (gD G) (gY G) v0 (I6 v0 15) Z5 I6 L7 _ hZ k9 h) (gwV W_318 W_319 W_320 W_21 W_317) rfl ⟨rfl, fy_X6_raiseTo⟩ ⟨by decide, by decide⟩ (c := 6) rfl (by decide) k9 rfl rfl (Nat.le_of_ble_eq_true rfl) ⟨Nat.zero_le _, Nat.zero_le _⟩ dX6_cheapest_33 (fun v10 Z11 I12 L13 q14 => ?_)
    obtain ⟨yZ11, hZ11, rfl, h⟩ := q14
    have hZ := hZ11
    have hx : jext Z Z11 := jext_trans hx yZ11
    have k15 := (yZ11 _ _ k9).1
    show jJ G 1 36 [(0, .ref v0)] [] Z11 I12 L13 0 0
    refine j_aload_n E dX6_cheapest_36 0 rfl ?_
    obtain ⟨b16, eb16, kb16⟩ := sh_o hZ k15 (j := 9) (k := 7) rfl
    have h := h b16 eb16
    refine j_getr E 6 9 rfl rfl (by decide) (by decide) (iw iT_6) rfl rfl (tw W_305) k15 eb16 dX6_cheapest_37 ?_
    refine j_aload_n E dX6_cheapest_40 0 rfl ?_
    refine j_geti E 6 15 rfl rfl (by decide) (by decide) (iw iT_6) rfl rfl (tw W_290) k15 dX6_cheapest_41 ?_
    refine j_callV E [.int (I12 v0 15)] [] (c_X7_sizeAt (gL G) (gD G) (gY G) b16 (I12 v0 15) Z11 I12 L13 _ hZ kb16 h) (gwV W_321 W_32 W_33 W_12 W_30) rfl ⟨rfl, fy_X7_sizeAt⟩ ⟨by decide, by decide⟩ (c := 7) rfl (by decide) kb16 rfl rfl (Nat.le_of_ble_eq_true rfl) ⟨Nat.zero_le _, Nat.zero_le _⟩ dX6_cheapest_44 (fun v17 Z18 I19 L20 q21 => ?_)
    obtain ⟨rfl, r22, rfl, h⟩ := q21
    show jJ G 1 47 [(0, .ref v0)] [.int r22] Z11 I19 L20 0 0
    refine j_if_le E 65 dX6_cheapest_47 (by decide) (fun c23 => ?_) (fun c23 => ?_)
    · have h := h.1 c23
      refine j_ldc2 E (tw W_322) dX6_cheapest_65 ?_
      exact j_lreturn E ⟨hx, hZ, _, rfl, h⟩ (Nat.zero_le _) (Nat.zero_le _) dX6_cheapest_68
    · have h := h.2 c23
      refine j_aload_n E dX6_cheapest_50 0 rfl ?_
      obtain ⟨b24, eb24, kb24⟩ := sh_o hZ k15 (j := 9) (k := 7) rfl
      have h := h b24 eb24
      refine j_getr E 6 9 rfl rfl (by decide) (by decide) (iw iT_6) rfl rfl (tw W_305) k15 eb24 dX6_cheapest_51 ?_
      refine j_aload_n E dX6_cheapest_54 0 rfl ?_
      refine j_geti E 6 15 rfl rfl (by decide) (by decide) (iw iT_6) rfl rfl (tw W_290) k15 dX6_cheapest_55 ?_
      refine j_iconst E (v := 0) dX6_cheapest_58 (by decide) ?_
      refine j_callV E [.int (I19 v0 15), .int (0 : Int32)] [] (c_X7_keyAt (gL G) (gD G) (gY G) b24 (I19 v0 15) (0 : Int32) Z11 I19 L20 _ hZ kb24 h) (gwV W_323 W_62 W_63 W_12 W_60) rfl ⟨rfl, fy_X7_keyAt⟩ ⟨by decide, by decide⟩ (c := 7) rfl (by decide) kb24 rfl rfl (Nat.le_of_ble_eq_true rfl) ⟨Nat.zero_le _, Nat.zero_le _⟩ dX6_cheapest_59 (fun v25 Z26 I27 L28 q29 => ?_)
      obtain ⟨rfl, r30, rfl, h⟩ := q29
      show jJ G 1 62 [(0, .ref v0)] [.long r30] Z11 I27 L28 0 0
      refine j_goto E 68 dX6_cheapest_62 (by decide) ?_
      exact j_lreturn E ⟨hx, hZ, _, rfl, h⟩ (Nat.zero_le _) (Nat.zero_le _) dX6_cheapest_68
  · have h := h.2 c2
    refine j_ldc2 E (tw W_322) dX6_cheapest_13 ?_
    exact j_lreturn E ⟨hx, hZ, _, rfl, h⟩ (Nat.zero_le _) (Nat.zero_le _) dX6_cheapest_16
set_option maxRecDepth 100000 in
def f_X6_lower_b72  (Q : jZ → jI → jL → Prop) (v0 : Nat) (v1 : Int32) (Z : jZ) (I : jI) (L : jL) : Prop := (∀ b1 : Nat, jr Z v0 10 = some b1 → (∀ b2 : Nat, jr Z v0 8 = some b2 → (vp_in v1 25 ∧ (f_X7_keepCheapest b1 v1 ((I v0 1) - (I b2 v1.toNatClampNeg)) (I v0 2) Z I L (fun Z5 I6 L7 => Q Z5 I6 L7)))))
set_option maxHeartbeats 4000000 in
set_option maxRecDepth 100000 in
theorem m_X6_lower_b72 {G : jG} {Z0 : jZ} {Q : jZ → jI → jL → Prop} (E : jE G cX6_lower RX6 w_X6_lower 3 none { frames := 2, cells := 0, slots := 0, locals := 51 } (xrtV Z0 Q))  (v0 : Nat) (v1 : Int32) (Z : jZ) (I : jI) (L : jL) (hZ : SH Z) (hx : jext Z0 Z) (kv0 : jk Z v0 6) (h : f_X6_lower_b72  Q v0 v1 Z I L) : jJ G 3 72 [(0, .ref v0), (1, .int v1)] [] Z I L 0 0 := by
  refine j_aload_n E dX6_lower_72 0 rfl ?_
  obtain ⟨b1, eb1, kb1⟩ := sh_o hZ kv0 (j := 10) (k := 7) rfl
  have h := h b1 eb1
  refine j_getr E 6 10 rfl rfl (by decide) (by decide) (iw iT_6) rfl rfl (tw W_324) kv0 eb1 dX6_lower_73 ?_
  refine j_iload_n E dX6_lower_76 1 rfl ?_
  refine j_aload_n E dX6_lower_77 0 rfl ?_
  refine j_geti E 6 1 rfl rfl (by decide) (by decide) (iw iT_6) rfl rfl (tw W_308) kv0 dX6_lower_78 ?_
  refine j_aload_n E dX6_lower_81 0 rfl ?_
  obtain ⟨b2, eb2, kb2, lb2⟩ := sh_f hZ kv0 (j := 8) (k := 14) (m := 25) rfl
  have h := h b2 eb2
  refine j_getr E 6 8 rfl rfl (by decide) (by decide) (iw iT_6) rfl rfl (tw W_304) kv0 eb2 dX6_lower_82 ?_
  refine j_iload_n E dX6_lower_85 1 rfl ?_
  obtain ⟨o3, h⟩ := h
  refine j_iald E kb2 (by rw [lb2]; exact o3) dX6_lower_86 ?_
  refine j_isub E dX6_lower_87 ?_
  refine j_aload_n E dX6_lower_88 0 rfl ?_
  refine j_geti E 6 2 rfl rfl (by decide) (by decide) (iw iT_6) rfl rfl (tw W_309) kv0 dX6_lower_89 ?_
  refine j_callV E [.int v1, .int ((I v0 1) - (I b2 v1.toNatClampNeg)), .int (I v0 2)] [] (c_X7_keepCheapest (gL G) (gD G) (gY G) b1 v1 ((I v0 1) - (I b2 v1.toNatClampNeg)) (I v0 2) Z I L _ hZ kb1 h) (gwV W_310 W_71 W_72 W_12 W_69) rfl ⟨rfl, fy_X7_keepCheapest⟩ ⟨by decide, by decide⟩ (c := 7) rfl (by decide) kb1 rfl rfl (Nat.le_of_ble_eq_true rfl) ⟨Nat.zero_le _, Nat.zero_le _⟩ dX6_lower_92 (fun v4 Z5 I6 L7 q8 => ?_)
  obtain ⟨yZ5, hZ5, rfl, h⟩ := q8
  have hZ := hZ5
  have hx : jext Z0 Z5 := jext_trans hx yZ5
  have k9 := (yZ5 _ _ kv0).1
  show jJ G 3 95 [(0, .ref v0), (1, .int v1)] [] Z5 I6 L7 0 0
  exact j_return E ⟨hx, hZ, rfl, h⟩ (Nat.zero_le _) (Nat.zero_le _) dX6_lower_95
set_option maxRecDepth 100000 in
def f_X6_lower_b66 (K10 : Nat → Int32 → Int32 → jZ → jI → jL → Prop) (Q : jZ → jI → jL → Prop) (v0 : Nat) (v1 : Int32) (v2 : Int32) (Z : jZ) (I : jI) (L : jL) : Prop := (∀ x10 : Int32, x10 = v2 + 1 → K10 v0 v1 x10 Z I L)
set_option maxHeartbeats 4000000 in
set_option maxRecDepth 100000 in
theorem m_X6_lower_b66 {G : jG} {Z0 : jZ} {Q : jZ → jI → jL → Prop} (E : jE G cX6_lower RX6 w_X6_lower 3 none { frames := 2, cells := 0, slots := 0, locals := 51 } (xrtV Z0 Q)) (K10 : Nat → Int32 → Int32 → jZ → jI → jL → Prop) (hK10 : ∀ (v0 : Nat) (v1 : Int32) (v2 : Int32) (Z : jZ) (I : jI) (L : jL), SH Z → jext Z0 Z → jk Z v0 6 → K10 v0 v1 v2 Z I L → jJ G 3 10 [(0, .ref v0), (1, .int v1), (2, .int v2)] [] Z I L 0 0) (v0 : Nat) (v1 : Int32) (v2 : Int32) (Z : jZ) (I : jI) (L : jL) (hZ : SH Z) (hx : jext Z0 Z) (kv0 : jk Z v0 6) (h : f_X6_lower_b66 K10 Q v0 v1 v2 Z I L) : jJ G 3 66 [(0, .ref v0), (1, .int v1), (2, .int v2)] [] Z I L 0 0 := by
  obtain ⟨x10, ex10⟩ : ∃ y : Int32, y = v2 + 1 := ⟨_, rfl⟩
  have h := h x10 ex10
  refine j_iinc E x10 [(2, .int x10), (0, .ref v0), (1, .int v1)] dX6_lower_66 2 rfl (by rw [ex10]; rfl) (by decide) rfl ?_
  refine j_goto E 10 dX6_lower_69 (by decide) ?_
  refine j_sub [1, 2, 0] rfl ?_
  exact hK10 v0 v1 x10 Z I L hZ hx kv0 h
set_option maxRecDepth 100000 in
def f_X6_lower_L10  (Q : jZ → jI → jL → Prop) : Nat → Nat → Int32 → Int32 → jZ → jI → jL → Prop
  | 0 => fun _ _ _ _ _ _ => False
  | n + 1 => fun v0 v1 v2 Z I L => (((I v0 3) < v2 → f_X6_lower_b72  Q v0 v1 Z I L) ∧ (¬ ((I v0 3) < v2) → (((I v0 15) < (v1 + v2) → f_X6_lower_b72  Q v0 v1 Z I L) ∧ (¬ ((I v0 15) < (v1 + v2)) → (∀ b13 : Nat, jr Z v0 6 = some b13 → (vp_in v1 25 ∧ (((I b13 v1.toNatClampNeg) = 0 → f_X6_lower_b72  Q v0 v1 Z I L) ∧ (¬ ((I b13 v1.toNatClampNeg) = 0) → (∀ b16 : Nat, jr Z v0 6 = some b16 → (vp_in (v1 + v2) 25 ∧ (((I b16 (v1 + v2).toNatClampNeg) = 0 → f_X6_lower_b66 (f_X6_lower_L10 Q n) Q v0 v1 v2 Z I L) ∧ (¬ ((I b16 (v1 + v2).toNatClampNeg) = 0) → (∀ b19 : Nat, jr Z v0 10 = some b19 → (f_X6_keyOf v0 (v1 + v2) v2 Z I L (fun r25 I22 L23 => (f_X7_merge b19 (v1 + v2) r25 Z I22 L23 (fun I28 L29 => f_X6_lower_b66 (f_X6_lower_L10 Q n) Q v0 v1 v2 Z I28 L29)))))))))))))))))
set_option maxHeartbeats 4000000 in
set_option maxRecDepth 100000 in
theorem m_X6_lower_L10 {G : jG} {Z0 : jZ} {Q : jZ → jI → jL → Prop} (E : jE G cX6_lower RX6 w_X6_lower 3 none { frames := 2, cells := 0, slots := 0, locals := 51 } (xrtV Z0 Q))  : ∀ (n : Nat) (v0 : Nat) (v1 : Int32) (v2 : Int32) (Z : jZ) (I : jI) (L : jL), SH Z → jext Z0 Z → jk Z v0 6 → f_X6_lower_L10  Q n v0 v1 v2 Z I L → jJ G 3 10 [(0, .ref v0), (1, .int v1), (2, .int v2)] [] Z I L 0 0 := by
  intro n
  induction n with
  | zero => intro v0 v1 v2 Z I L _ _ _ h; exact h.elim
  | succ n ih =>
    intro v0 v1 v2 Z I L hZ hx kv0 h
    have h : (((I v0 3) < v2 → f_X6_lower_b72  Q v0 v1 Z I L) ∧ (¬ ((I v0 3) < v2) → (((I v0 15) < (v1 + v2) → f_X6_lower_b72  Q v0 v1 Z I L) ∧ (¬ ((I v0 15) < (v1 + v2)) → (∀ b13 : Nat, jr Z v0 6 = some b13 → (vp_in v1 25 ∧ (((I b13 v1.toNatClampNeg) = 0 → f_X6_lower_b72  Q v0 v1 Z I L) ∧ (¬ ((I b13 v1.toNatClampNeg) = 0) → (∀ b16 : Nat, jr Z v0 6 = some b16 → (vp_in (v1 + v2) 25 ∧ (((I b16 (v1 + v2).toNatClampNeg) = 0 → f_X6_lower_b66 (f_X6_lower_L10 Q n) Q v0 v1 v2 Z I L) ∧ (¬ ((I b16 (v1 + v2).toNatClampNeg) = 0) → (∀ b19 : Nat, jr Z v0 10 = some b19 → (f_X6_keyOf v0 (v1 + v2) v2 Z I L (fun r25 I22 L23 => (f_X7_merge b19 (v1 + v2) r25 Z I22 L23 (fun I28 L29 => f_X6_lower_b66 (f_X6_lower_L10 Q n) Q v0 v1 v2 Z I28 L29))))))))))))))))) := h
    obtain ⟨K10, eK10⟩ : ∃ K : Nat → Int32 → Int32 → jZ → jI → jL → Prop, K = f_X6_lower_L10  Q n := ⟨_, rfl⟩
    have hK10 := ih
    clear eK10 K10
    generalize f_X6_lower_L10  Q n = K10 at hK10 h
    refine j_iload_n E dX6_lower_10 2 rfl ?_
    refine j_aload_n E dX6_lower_11 0 rfl ?_
    refine j_geti E 6 3 rfl rfl (by decide) (by decide) (iw iT_6) rfl rfl (tw W_46) kv0 dX6_lower_12 ?_
    refine j_icmp_gt E 72 dX6_lower_15 (by decide) (fun c11 => ?_) (fun c11 => ?_)
    · have h := h.1 c11
      refine j_sub [0, 1] rfl ?_
      exact m_X6_lower_b72 E  v0 v1 Z I L hZ hx kv0 h
    · have h := h.2 c11
      refine j_iload_n E dX6_lower_18 1 rfl ?_
      refine j_iload_n E dX6_lower_19 2 rfl ?_
      refine j_iadd E dX6_lower_20 ?_
      refine j_aload_n E dX6_lower_21 0 rfl ?_
      refine j_geti E 6 15 rfl rfl (by decide) (by decide) (iw iT_6) rfl rfl (tw W_290) kv0 dX6_lower_22 ?_
      refine j_icmp_gt E 72 dX6_lower_25 (by decide) (fun c12 => ?_) (fun c12 => ?_)
      · have h := h.1 c12
        refine j_sub [0, 1] rfl ?_
        exact m_X6_lower_b72 E  v0 v1 Z I L hZ hx kv0 h
      · have h := h.2 c12
        refine j_aload_n E dX6_lower_28 0 rfl ?_
        obtain ⟨b13, eb13, kb13, lb13⟩ := sh_f hZ kv0 (j := 6) (k := 16) (m := 25) rfl
        have h := h b13 eb13
        refine j_getr E 6 6 rfl rfl (by decide) (by decide) (iw iT_6) rfl rfl (tw W_47) kv0 eb13 dX6_lower_29 ?_
        refine j_iload_n E dX6_lower_32 1 rfl ?_
        obtain ⟨o14, h⟩ := h
        refine j_zald E kb13 (by rw [lb13]; exact o14) dX6_lower_33 ?_
        refine j_if_eq E 72 dX6_lower_34 (by decide) (fun c15 => ?_) (fun c15 => ?_)
        · have h := h.1 c15
          refine j_sub [0, 1] rfl ?_
          exact m_X6_lower_b72 E  v0 v1 Z I L hZ hx kv0 h
        · have h := h.2 c15
          refine j_aload_n E dX6_lower_37 0 rfl ?_
          obtain ⟨b16, eb16, kb16, lb16⟩ := sh_f hZ kv0 (j := 6) (k := 16) (m := 25) rfl
          have h := h b16 eb16
          refine j_getr E 6 6 rfl rfl (by decide) (by decide) (iw iT_6) rfl rfl (tw W_47) kv0 eb16 dX6_lower_38 ?_
          refine j_iload_n E dX6_lower_41 1 rfl ?_
          refine j_iload_n E dX6_lower_42 2 rfl ?_
          refine j_iadd E dX6_lower_43 ?_
          obtain ⟨o17, h⟩ := h
          refine j_zald E kb16 (by rw [lb16]; exact o17) dX6_lower_44 ?_
          refine j_if_eq E 66 dX6_lower_45 (by decide) (fun c18 => ?_) (fun c18 => ?_)
          · have h := h.1 c18
            refine j_sub [0, 1, 2] rfl ?_
            exact m_X6_lower_b66 E K10 hK10 v0 v1 v2 Z I L hZ hx kv0 h
          · have h := h.2 c18
            refine j_aload_n E dX6_lower_48 0 rfl ?_
            obtain ⟨b19, eb19, kb19⟩ := sh_o hZ kv0 (j := 10) (k := 7) rfl
            have h := h b19 eb19
            refine j_getr E 6 10 rfl rfl (by decide) (by decide) (iw iT_6) rfl rfl (tw W_324) kv0 eb19 dX6_lower_49 ?_
            refine j_iload_n E dX6_lower_52 1 rfl ?_
            refine j_iload_n E dX6_lower_53 2 rfl ?_
            refine j_iadd E dX6_lower_54 ?_
            refine j_aload_n E dX6_lower_55 0 rfl ?_
            refine j_iload_n E dX6_lower_56 1 rfl ?_
            refine j_iload_n E dX6_lower_57 2 rfl ?_
            refine j_iadd E dX6_lower_58 ?_
            refine j_iload_n E dX6_lower_59 2 rfl ?_
            refine j_callV E [.int (v1 + v2), .int v2] [.int (v1 + v2), .ref b19] (c_X6_keyOf (gL G) (gD G) (gY G) v0 (v1 + v2) v2 Z I L _ hZ kv0 h) (gwV W_39 W_40 W_41 W_21 W_38) rfl ⟨rfl, fy_X6_keyOf⟩ ⟨by decide, by decide⟩ (c := 6) rfl (by decide) kv0 rfl rfl (Nat.le_of_ble_eq_true rfl) ⟨Nat.zero_le _, Nat.zero_le _⟩ dX6_lower_60 (fun v20 Z21 I22 L23 q24 => ?_)
            obtain ⟨rfl, r25, rfl, h⟩ := q24
            show jJ G 3 63 [(0, .ref v0), (1, .int v1), (2, .int v2)] [.long r25, .int (v1 + v2), .ref b19] Z I22 L23 0 0
            refine j_callV E [.int (v1 + v2), .long r25] [] (c_X7_merge (gL G) (gD G) (gY G) b19 (v1 + v2) r25 Z I22 L23 _ hZ kb19 h) (gwV W_43 W_44 W_45 W_12 W_42) rfl ⟨rfl, fy_X7_merge⟩ ⟨by decide, by decide⟩ (c := 7) rfl (by decide) kb19 rfl rfl (Nat.le_of_ble_eq_true rfl) ⟨Nat.zero_le _, Nat.zero_le _⟩ dX6_lower_63 (fun v26 Z27 I28 L29 q30 => ?_)
            obtain ⟨rfl, rfl, h⟩ := q30
            show jJ G 3 66 [(0, .ref v0), (1, .int v1), (2, .int v2)] [] Z I28 L29 0 0
            refine j_sub [0, 1, 2] rfl ?_
            exact m_X6_lower_b66 E K10 hK10 v0 v1 v2 Z I28 L29 hZ hx kv0 h
set_option maxRecDepth 100000 in
def f_X6_lower (v0 : Nat) (v1 : Int32) (Z : jZ) (I : jI) (L : jL) (Q : jZ → jI → jL → Prop) : Prop := (∀ b31 : Nat, jr Z v0 10 = some b31 → (f_X7_start b31 v1 Z I L (fun I34 L35 => (∃ m10 : Nat, f_X6_lower_L10  Q m10 v0 v1 (1 : Int32) Z I34 L35))))
set_option maxHeartbeats 4000000 in
set_option maxRecDepth 100000 in
theorem c_X6_lower (l : Launch) (D : va_G) (cy : jC) (v0 : Nat) (v1 : Int32) (Z : jZ) (I : jI) (L : jL) (Q : jZ → jI → jL → Prop) (hZ : SH Z) (kv0 : jk Z v0 6) (h : f_X6_lower v0 v1 Z I L Q) : jCt l yX6_lower w_X6_lower { frames := 2, cells := 0, slots := 0, locals := 51 } D cy [.ref v0, .int v1] Z I L (xrtV Z Q) := by
  refine jCt_of (cc := cX6_lower) (maxL := 3) (ret := none) (by decide +kernel) rfl (Nat.le_of_ble_eq_true rfl) ?_
  intro G eD eY eL E
  subst eD; subst eY; subst eL
  have E : jE G cX6_lower RX6 w_X6_lower 3 none { frames := 2, cells := 0, slots := 0, locals := 51 } (xrtV Z Q) := E
  have hx : jext Z Z := jext_rfl
  show jJ G 3 0 [(0, .ref v0), (1, .int v1)] [] Z I L 0 0
  refine j_aload_n E dX6_lower_0 0 rfl ?_
  obtain ⟨b31, eb31, kb31⟩ := sh_o hZ kv0 (j := 10) (k := 7) rfl
  have h := h b31 eb31
  refine j_getr E 6 10 rfl rfl (by decide) (by decide) (iw iT_6) rfl rfl (tw W_324) kv0 eb31 dX6_lower_1 ?_
  refine j_iload_n E dX6_lower_4 1 rfl ?_
  refine j_callV E [.int v1] [] (c_X7_start (gL G) (gD G) (gY G) b31 v1 Z I L _ hZ kb31 h) (gwV W_48 W_14 W_15 W_12 W_11) rfl ⟨rfl, fy_X7_start⟩ ⟨by decide, by decide⟩ (c := 7) rfl (by decide) kb31 rfl rfl (Nat.le_of_ble_eq_true rfl) ⟨Nat.zero_le _, Nat.zero_le _⟩ dX6_lower_5 (fun v32 Z33 I34 L35 q36 => ?_)
  obtain ⟨rfl, rfl, h⟩ := q36
  show jJ G 3 8 [(0, .ref v0), (1, .int v1)] [] Z I34 L35 0 0
  refine j_iconst E (v := 1) dX6_lower_8 (by decide) ?_
  refine j_istore_n E 2 [(2, .int (1 : Int32)), (0, .ref v0), (1, .int v1)] dX6_lower_9 rfl (by decide) rfl ?_
  obtain ⟨n37, h⟩ := h
  refine j_sub [1, 2, 0] rfl ?_
  exact m_X6_lower_L10 E  n37 v0 v1 (1 : Int32) Z I34 L35 hZ hx kv0 h
set_option maxRecDepth 100000 in
def f_X6_survey_L48  (Q : jZ → jI → jL → Prop) : Nat → Nat → Int32 → jZ → jI → jL → Prop
  | 0 => fun _ _ _ _ _ => False
  | n + 1 => fun v0 v1 Z I L => ((v1 ≤ 0 → (∀ b2 : Nat, jr Z v0 9 = some b2 → (f_X7_begin b2 (0 : Int32) (16777215 : Int64) Z I L (fun Z4 I5 L6 => Q Z4 I5 L6)))) ∧ (¬ (v1 ≤ 0) → (f_X6_lower v0 v1 Z I L (fun Z10 I11 L12 => (∀ x15 : Int32, x15 = v1 + (-1) → (f_X6_survey_L48 Q n) v0 x15 Z10 I11 L12)))))
set_option maxHeartbeats 4000000 in
set_option maxRecDepth 100000 in
theorem m_X6_survey_L48 {G : jG} {Z0 : jZ} {Q : jZ → jI → jL → Prop} (E : jE G cX6_survey RX6 w_X6_survey 2 none { frames := 3, cells := 0, slots := 0, locals := 73 } (xrtV Z0 Q))  : ∀ (n : Nat) (v0 : Nat) (v1 : Int32) (Z : jZ) (I : jI) (L : jL), SH Z → jext Z0 Z → jk Z v0 6 → f_X6_survey_L48  Q n v0 v1 Z I L → jJ G 2 48 [(0, .ref v0), (1, .int v1)] [] Z I L 0 0 := by
  intro n
  induction n with
  | zero => intro v0 v1 Z I L _ _ _ h; exact h.elim
  | succ n ih =>
    intro v0 v1 Z I L hZ hx kv0 h
    have h : ((v1 ≤ 0 → (∀ b2 : Nat, jr Z v0 9 = some b2 → (f_X7_begin b2 (0 : Int32) (16777215 : Int64) Z I L (fun Z4 I5 L6 => Q Z4 I5 L6)))) ∧ (¬ (v1 ≤ 0) → (f_X6_lower v0 v1 Z I L (fun Z10 I11 L12 => (∀ x15 : Int32, x15 = v1 + (-1) → (f_X6_survey_L48 Q n) v0 x15 Z10 I11 L12))))) := h
    obtain ⟨K48, eK48⟩ : ∃ K : Nat → Int32 → jZ → jI → jL → Prop, K = f_X6_survey_L48  Q n := ⟨_, rfl⟩
    have hK48 := ih
    clear eK48 K48
    generalize f_X6_survey_L48  Q n = K48 at hK48 h
    refine j_iload_n E dX6_survey_48 1 rfl ?_
    refine j_if_le E 63 dX6_survey_49 (by decide) (fun c1 => ?_) (fun c1 => ?_)
    · have h := h.1 c1
      refine j_aload_n E dX6_survey_63 0 rfl ?_
      obtain ⟨b2, eb2, kb2⟩ := sh_o hZ kv0 (j := 9) (k := 7) rfl
      have h := h b2 eb2
      refine j_getr E 6 9 rfl rfl (by decide) (by decide) (iw iT_6) rfl rfl (tw W_305) kv0 eb2 dX6_survey_64 ?_
      refine j_iconst E (v := 0) dX6_survey_67 (by decide) ?_
      refine j_ldc2 E (tw W_315) dX6_survey_68 ?_
      refine j_callV E [.int (0 : Int32), .long (16777215 : Int64)] [] (c_X7_begin (gL G) (gD G) (gY G) b2 (0 : Int32) (16777215 : Int64) Z I L _ hZ kb2 h) (gwV W_316 W_76 W_77 W_12 W_74) rfl ⟨rfl, fy_X7_begin⟩ ⟨by decide, by decide⟩ (c := 7) rfl (by decide) kb2 rfl rfl (Nat.le_of_ble_eq_true rfl) ⟨Nat.zero_le _, Nat.zero_le _⟩ dX6_survey_71 (fun v3 Z4 I5 L6 q7 => ?_)
      obtain ⟨yZ4, hZ4, rfl, h⟩ := q7
      have hZ := hZ4
      have hx : jext Z0 Z4 := jext_trans hx yZ4
      have k8 := (yZ4 _ _ kv0).1
      show jJ G 2 74 [(0, .ref v0), (1, .int v1)] [] Z4 I5 L6 0 0
      exact j_return E ⟨hx, hZ, rfl, h⟩ (Nat.zero_le _) (Nat.zero_le _) dX6_survey_74
    · have h := h.2 c1
      refine j_aload_n E dX6_survey_52 0 rfl ?_
      refine j_iload_n E dX6_survey_53 1 rfl ?_
      refine j_callV E [.int v1] [] (c_X6_lower (gL G) (gD G) (gY G) v0 v1 Z I L _ hZ kv0 h) (gwV W_326 W_327 W_328 W_21 W_325) rfl ⟨rfl, fy_X6_lower⟩ ⟨by decide, by decide⟩ (c := 6) rfl (by decide) kv0 rfl rfl (Nat.le_of_ble_eq_true rfl) ⟨Nat.zero_le _, Nat.zero_le _⟩ dX6_survey_54 (fun v9 Z10 I11 L12 q13 => ?_)
      obtain ⟨yZ10, hZ10, rfl, h⟩ := q13
      have hZ := hZ10
      have hx : jext Z0 Z10 := jext_trans hx yZ10
      have k14 := (yZ10 _ _ kv0).1
      show jJ G 2 57 [(0, .ref v0), (1, .int v1)] [] Z10 I11 L12 0 0
      obtain ⟨x15, ex15⟩ : ∃ y : Int32, y = v1 + (-1) := ⟨_, rfl⟩
      have h := h x15 ex15
      refine j_iinc E x15 [(1, .int x15), (0, .ref v0)] dX6_survey_57 1 rfl (by rw [ex15]; rfl) (by decide) rfl ?_
      refine j_goto E 48 dX6_survey_60 (by decide) ?_
      refine j_sub [1, 0] rfl ?_
      exact hK48 v0 x15 Z10 I11 L12 hZ hx k14 h
set_option maxRecDepth 100000 in
def f_X6_survey_L2  (Q : jZ → jI → jL → Prop) : Nat → Nat → Int32 → jZ → jI → jL → Prop
  | 0 => fun _ _ _ _ _ => False
  | n + 1 => fun v0 v1 Z I L => (((I v0 15) < v1 → (∀ b17 : Nat, jr Z v0 10 = some b17 → (f_X7_begin b17 (I v0 15) (16777215 : Int64) Z I L (fun Z19 I20 L21 => (∀ x24 : Int32, x24 = ((I20 v0 15) - (1 : Int32)) → (∃ m48 : Nat, f_X6_survey_L48  Q m48 v0 x24 Z19 I20 L21)))))) ∧ (¬ ((I v0 15) < v1) → (∀ b26 : Nat, jr Z v0 8 = some b26 → (f_X6_leastEffortFrom v0 v1 Z I L (fun r32 I29 L30 => (vp_in v1 25 ∧ (∀ I34 : jI, I34 = jpI I29 b26 v1.toNatClampNeg r32 → (∀ x35 : Int32, x35 = v1 + 1 → (f_X6_survey_L2 Q n) v0 x35 Z I34 L30))))))))
set_option maxHeartbeats 4000000 in
set_option maxRecDepth 100000 in
theorem m_X6_survey_L2 {G : jG} {Z0 : jZ} {Q : jZ → jI → jL → Prop} (E : jE G cX6_survey RX6 w_X6_survey 2 none { frames := 3, cells := 0, slots := 0, locals := 73 } (xrtV Z0 Q))  : ∀ (n : Nat) (v0 : Nat) (v1 : Int32) (Z : jZ) (I : jI) (L : jL), SH Z → jext Z0 Z → jk Z v0 6 → f_X6_survey_L2  Q n v0 v1 Z I L → jJ G 2 2 [(0, .ref v0), (1, .int v1)] [] Z I L 0 0 := by
  intro n
  induction n with
  | zero => intro v0 v1 Z I L _ _ _ h; exact h.elim
  | succ n ih =>
    intro v0 v1 Z I L hZ hx kv0 h
    have h : (((I v0 15) < v1 → (∀ b17 : Nat, jr Z v0 10 = some b17 → (f_X7_begin b17 (I v0 15) (16777215 : Int64) Z I L (fun Z19 I20 L21 => (∀ x24 : Int32, x24 = ((I20 v0 15) - (1 : Int32)) → (∃ m48 : Nat, f_X6_survey_L48  Q m48 v0 x24 Z19 I20 L21)))))) ∧ (¬ ((I v0 15) < v1) → (∀ b26 : Nat, jr Z v0 8 = some b26 → (f_X6_leastEffortFrom v0 v1 Z I L (fun r32 I29 L30 => (vp_in v1 25 ∧ (∀ I34 : jI, I34 = jpI I29 b26 v1.toNatClampNeg r32 → (∀ x35 : Int32, x35 = v1 + 1 → (f_X6_survey_L2 Q n) v0 x35 Z I34 L30)))))))) := h
    obtain ⟨K2, eK2⟩ : ∃ K : Nat → Int32 → jZ → jI → jL → Prop, K = f_X6_survey_L2  Q n := ⟨_, rfl⟩
    have hK2 := ih
    clear eK2 K2
    generalize f_X6_survey_L2  Q n = K2 at hK2 h
    refine j_iload_n E dX6_survey_2 1 rfl ?_
    refine j_aload_n E dX6_survey_3 0 rfl ?_
    refine j_geti E 6 15 rfl rfl (by decide) (by decide) (iw iT_6) rfl rfl (tw W_290) kv0 dX6_survey_4 ?_
    refine j_icmp_gt E 27 dX6_survey_7 (by decide) (fun c16 => ?_) (fun c16 => ?_)
    · have h := h.1 c16
      refine j_aload_n E dX6_survey_27 0 rfl ?_
      obtain ⟨b17, eb17, kb17⟩ := sh_o hZ kv0 (j := 10) (k := 7) rfl
      have h := h b17 eb17
      refine j_getr E 6 10 rfl rfl (by decide) (by decide) (iw iT_6) rfl rfl (tw W_324) kv0 eb17 dX6_survey_28 ?_
      refine j_aload_n E dX6_survey_31 0 rfl ?_
      refine j_geti E 6 15 rfl rfl (by decide) (by decide) (iw iT_6) rfl rfl (tw W_290) kv0 dX6_survey_32 ?_
      refine j_ldc2 E (tw W_315) dX6_survey_35 ?_
      refine j_callV E [.int (I v0 15), .long (16777215 : Int64)] [] (c_X7_begin (gL G) (gD G) (gY G) b17 (I v0 15) (16777215 : Int64) Z I L _ hZ kb17 h) (gwV W_316 W_76 W_77 W_12 W_74) rfl ⟨rfl, fy_X7_begin⟩ ⟨by decide, by decide⟩ (c := 7) rfl (by decide) kb17 rfl rfl (Nat.le_of_ble_eq_true rfl) ⟨Nat.zero_le _, Nat.zero_le _⟩ dX6_survey_38 (fun v18 Z19 I20 L21 q22 => ?_)
      obtain ⟨yZ19, hZ19, rfl, h⟩ := q22
      have hZ := hZ19
      have hx : jext Z0 Z19 := jext_trans hx yZ19
      have k23 := (yZ19 _ _ kv0).1
      show jJ G 2 41 [(0, .ref v0), (1, .int v1)] [] Z19 I20 L21 0 0
      refine j_aload_n E dX6_survey_41 0 rfl ?_
      refine j_geti E 6 15 rfl rfl (by decide) (by decide) (iw iT_6) rfl rfl (tw W_290) k23 dX6_survey_42 ?_
      refine j_iconst E (v := 1) dX6_survey_45 (by decide) ?_
      refine j_isub E dX6_survey_46 ?_
      refine j_topi (fun x24 ex24 => ?_)
      have h := h x24 ex24
      refine j_istore_n E 1 [(1, .int x24), (0, .ref v0)] dX6_survey_47 rfl (by decide) rfl ?_
      obtain ⟨n25, h⟩ := h
      refine j_sub [1, 0] rfl ?_
      exact m_X6_survey_L48 E  n25 v0 x24 Z19 I20 L21 hZ hx k23 h
    · have h := h.2 c16
      refine j_aload_n E dX6_survey_10 0 rfl ?_
      obtain ⟨b26, eb26, kb26, lb26⟩ := sh_f hZ kv0 (j := 8) (k := 14) (m := 25) rfl
      have h := h b26 eb26
      refine j_getr E 6 8 rfl rfl (by decide) (by decide) (iw iT_6) rfl rfl (tw W_304) kv0 eb26 dX6_survey_11 ?_
      refine j_iload_n E dX6_survey_14 1 rfl ?_
      refine j_aload_n E dX6_survey_15 0 rfl ?_
      refine j_iload_n E dX6_survey_16 1 rfl ?_
      refine j_callV E [.int v1] [.int v1, .ref b26] (c_X6_leastEffortFrom (gL G) (gD G) (gY G) v0 v1 Z I L _ hZ kv0 h) (gwV W_330 W_331 W_332 W_21 W_329) rfl ⟨rfl, fy_X6_leastEffortFrom⟩ ⟨by decide, by decide⟩ (c := 6) rfl (by decide) kv0 rfl rfl (Nat.le_of_ble_eq_true rfl) ⟨Nat.zero_le _, Nat.zero_le _⟩ dX6_survey_17 (fun v27 Z28 I29 L30 q31 => ?_)
      obtain ⟨rfl, r32, rfl, h⟩ := q31
      show jJ G 2 20 [(0, .ref v0), (1, .int v1)] [.int r32, .int v1, .ref b26] Z I29 L30 0 0
      obtain ⟨o33, h⟩ := h
      refine j_iast E kb26 (by rw [lb26]; exact o33) dX6_survey_20 ?_
      refine j_nmI (fun I34 eI34 => ?_)
      have h := h I34 eI34
      obtain ⟨x35, ex35⟩ : ∃ y : Int32, y = v1 + 1 := ⟨_, rfl⟩
      have h := h x35 ex35
      refine j_iinc E x35 [(1, .int x35), (0, .ref v0)] dX6_survey_21 1 rfl (by rw [ex35]; rfl) (by decide) rfl ?_
      refine j_goto E 2 dX6_survey_24 (by decide) ?_
      refine j_sub [1, 0] rfl ?_
      exact hK2 v0 x35 Z I34 L30 hZ hx kv0 h
set_option maxRecDepth 100000 in
def f_X6_survey (v0 : Nat) (Z : jZ) (I : jI) (L : jL) (Q : jZ → jI → jL → Prop) : Prop := (∃ m2 : Nat, f_X6_survey_L2  Q m2 v0 (0 : Int32) Z I L)
set_option maxHeartbeats 4000000 in
set_option maxRecDepth 100000 in
theorem c_X6_survey (l : Launch) (D : va_G) (cy : jC) (v0 : Nat) (Z : jZ) (I : jI) (L : jL) (Q : jZ → jI → jL → Prop) (hZ : SH Z) (kv0 : jk Z v0 6) (h : f_X6_survey v0 Z I L Q) : jCt l yX6_survey w_X6_survey { frames := 3, cells := 0, slots := 0, locals := 73 } D cy [.ref v0] Z I L (xrtV Z Q) := by
  refine jCt_of (cc := cX6_survey) (maxL := 2) (ret := none) (by decide +kernel) rfl (Nat.le_of_ble_eq_true rfl) ?_
  intro G eD eY eL E
  subst eD; subst eY; subst eL
  have E : jE G cX6_survey RX6 w_X6_survey 2 none { frames := 3, cells := 0, slots := 0, locals := 73 } (xrtV Z Q) := E
  have hx : jext Z Z := jext_rfl
  show jJ G 2 0 [(0, .ref v0)] [] Z I L 0 0
  refine j_iconst E (v := 0) dX6_survey_0 (by decide) ?_
  refine j_istore_n E 1 [(1, .int (0 : Int32)), (0, .ref v0)] dX6_survey_1 rfl (by decide) rfl ?_
  obtain ⟨n36, h⟩ := h
  refine j_sub [1, 0] rfl ?_
  exact m_X6_survey_L2 E  n36 v0 (0 : Int32) Z I L hZ hx kv0 h
set_option maxRecDepth 100000 in
def f_X8_pricesInto_b130 (K79 : Nat → Nat → Nat → Int32 → Int32 → Int32 → jI → jL → Prop) (Z : jZ) (Q : jI → jL → Prop) (v0 : Nat) (v1 : Nat) (v7 : Nat) (v8 : Int32) (v9 : Int32) (v10 : Int32) (s0 : Nat) (s1 : Int32) (s2 : Int32) (I : jI) (L : jL) : Prop := (vp_in s1 (jlen Z s0) ∧ (∀ I2 : jI, I2 = jpI I s0 s1.toNatClampNeg s2 → (∀ x3 : Int32, x3 = v10 + 1 → K79 v0 v1 v7 v8 v9 x3 I2 L)))
set_option maxHeartbeats 4000000 in
set_option maxRecDepth 100000 in
theorem m_X8_pricesInto_b130 {G : jG} {Z : jZ} {Q : jI → jL → Prop} (E : jE G cX8_pricesInto RX8 w_X8_pricesInto 11 none { frames := 2, cells := 0, slots := 0, locals := 48 } (rtV Z Q)) (hZ : SH Z) (K79 : Nat → Nat → Nat → Int32 → Int32 → Int32 → jI → jL → Prop) (hK79 : ∀ (v0 : Nat) (v1 : Nat) (v7 : Nat) (v8 : Int32) (v9 : Int32) (v10 : Int32) (I : jI) (L : jL), jk Z v0 8 → jk Z v1 14 → jk Z v7 3 → K79 v0 v1 v7 v8 v9 v10 I L → jJ G 11 79 [(0, .ref v0), (1, .ref v1), (7, .ref v7), (8, .int v8), (9, .int v9), (10, .int v10)] [] Z I L 0 0) (v0 : Nat) (v1 : Nat) (v7 : Nat) (v8 : Int32) (v9 : Int32) (v10 : Int32) (s0 : Nat) (s1 : Int32) (s2 : Int32) (I : jI) (L : jL) (kv0 : jk Z v0 8) (kv1 : jk Z v1 14) (kv7 : jk Z v7 3) (ks0 : jk Z s0 14) (h : f_X8_pricesInto_b130 K79 Z Q v0 v1 v7 v8 v9 v10 s0 s1 s2 I L) : jJ G 11 130 [(0, .ref v0), (1, .ref v1), (7, .ref v7), (8, .int v8), (9, .int v9), (10, .int v10)] [.int s2, .int s1, .ref s0] Z I L 0 0 := by
  obtain ⟨o1, h⟩ := h
  refine j_iast E ks0 o1 dX8_pricesInto_130 ?_
  refine j_nmI (fun I2 eI2 => ?_)
  have h := h I2 eI2
  obtain ⟨x3, ex3⟩ : ∃ y : Int32, y = v10 + 1 := ⟨_, rfl⟩
  have h := h x3 ex3
  refine j_iinc E x3 [(10, .int x3), (0, .ref v0), (1, .ref v1), (7, .ref v7), (8, .int v8), (9, .int v9)] dX8_pricesInto_131 5 rfl (by rw [ex3]; rfl) (by decide) rfl ?_
  refine j_goto E 79 dX8_pricesInto_134 (by decide) ?_
  refine j_sub [1, 2, 3, 4, 5, 0] rfl ?_
  exact hK79 v0 v1 v7 v8 v9 x3 I2 L kv0 kv1 kv7 h
set_option maxRecDepth 100000 in
def f_X8_pricesInto_L79  (Z : jZ) (Q : jI → jL → Prop) : Nat → Nat → Nat → Nat → Int32 → Int32 → Int32 → jI → jL → Prop
  | 0 => fun _ _ _ _ _ _ _ _ => False
  | n + 1 => fun v0 v1 v7 v8 v9 v10 I L => (((nI (jlen Z v1)) ≤ v10 → Q I L) ∧ (¬ ((nI (jlen Z v1)) ≤ v10) → (∀ b5 : Nat, jr Z v0 8 = some b5 → (∀ I6 : jI, I6 = jpI I b5 (0 : Int32).toNatClampNeg v10 → ((v8 = 0 → (f_X3_names v7 (0 : Int32) Z I6 L (fun r13 I10 L11 => ((r13 = 0 → f_X8_pricesInto_b130 (f_X8_pricesInto_L79 Z Q n) Z Q v0 v1 v7 v8 v9 v10 v1 v10 v9 I10 L11) ∧ (¬ (r13 = 0) → (∀ b15 : Nat, jr Z v0 8 = some b15 → (f_X3_priceFor v7 b15 Z I10 L11 (fun r21 I18 L19 => f_X8_pricesInto_b130 (f_X8_pricesInto_L79 Z Q n) Z Q v0 v1 v7 v8 v9 v10 v1 v10 r21 I18 L19)))))))) ∧ (¬ (v8 = 0) → f_X8_pricesInto_b130 (f_X8_pricesInto_L79 Z Q n) Z Q v0 v1 v7 v8 v9 v10 v1 v10 v10 I6 L))))))
set_option maxHeartbeats 4000000 in
set_option maxRecDepth 100000 in
theorem m_X8_pricesInto_L79 {G : jG} {Z : jZ} {Q : jI → jL → Prop} (E : jE G cX8_pricesInto RX8 w_X8_pricesInto 11 none { frames := 2, cells := 0, slots := 0, locals := 48 } (rtV Z Q)) (hZ : SH Z)  : ∀ (n : Nat) (v0 : Nat) (v1 : Nat) (v7 : Nat) (v8 : Int32) (v9 : Int32) (v10 : Int32) (I : jI) (L : jL), jk Z v0 8 → jk Z v1 14 → jk Z v7 3 → f_X8_pricesInto_L79  Z Q n v0 v1 v7 v8 v9 v10 I L → jJ G 11 79 [(0, .ref v0), (1, .ref v1), (7, .ref v7), (8, .int v8), (9, .int v9), (10, .int v10)] [] Z I L 0 0 := by
  intro n
  induction n with
  | zero => intro v0 v1 v7 v8 v9 v10 I L _ _ _ h; exact h.elim
  | succ n ih =>
    intro v0 v1 v7 v8 v9 v10 I L kv0 kv1 kv7 h
    have h : (((nI (jlen Z v1)) ≤ v10 → Q I L) ∧ (¬ ((nI (jlen Z v1)) ≤ v10) → (∀ b5 : Nat, jr Z v0 8 = some b5 → (∀ I6 : jI, I6 = jpI I b5 (0 : Int32).toNatClampNeg v10 → ((v8 = 0 → (f_X3_names v7 (0 : Int32) Z I6 L (fun r13 I10 L11 => ((r13 = 0 → f_X8_pricesInto_b130 (f_X8_pricesInto_L79 Z Q n) Z Q v0 v1 v7 v8 v9 v10 v1 v10 v9 I10 L11) ∧ (¬ (r13 = 0) → (∀ b15 : Nat, jr Z v0 8 = some b15 → (f_X3_priceFor v7 b15 Z I10 L11 (fun r21 I18 L19 => f_X8_pricesInto_b130 (f_X8_pricesInto_L79 Z Q n) Z Q v0 v1 v7 v8 v9 v10 v1 v10 r21 I18 L19)))))))) ∧ (¬ (v8 = 0) → f_X8_pricesInto_b130 (f_X8_pricesInto_L79 Z Q n) Z Q v0 v1 v7 v8 v9 v10 v1 v10 v10 I6 L)))))) := h
    obtain ⟨K79, eK79⟩ : ∃ K : Nat → Nat → Nat → Int32 → Int32 → Int32 → jI → jL → Prop, K = f_X8_pricesInto_L79  Z Q n := ⟨_, rfl⟩
    have hK79 := ih
    clear eK79 K79
    generalize f_X8_pricesInto_L79  Z Q n = K79 at hK79 h
    refine j_iload E dX8_pricesInto_79 5 rfl ?_
    refine j_aload_n E dX8_pricesInto_81 1 rfl ?_
    refine j_alen14 E kv1 rfl dX8_pricesInto_82 ?_
    refine j_icmp_ge E 137 dX8_pricesInto_83 (by decide) (fun c4 => ?_) (fun c4 => ?_)
    · have h := h.1 c4
      exact j_return E ⟨rfl, rfl, h⟩ (Nat.zero_le _) (Nat.zero_le _) dX8_pricesInto_137
    · have h := h.2 c4
      refine j_aload_n E dX8_pricesInto_86 0 rfl ?_
      obtain ⟨b5, eb5, kb5, lb5⟩ := sh_f hZ kv0 (j := 8) (k := 14) (m := 7) rfl
      have h := h b5 eb5
      refine j_getr E 8 8 rfl rfl (by decide) (by decide) (iw iT_8) rfl rfl (tw W_246) kv0 eb5 dX8_pricesInto_87 ?_
      refine j_iconst E (v := 0) dX8_pricesInto_90 (by decide) ?_
      refine j_iload E dX8_pricesInto_91 5 rfl ?_
      refine j_iast E kb5 (by rw [lb5]; exact vp_in_lit (by decide)) dX8_pricesInto_93 ?_
      refine j_nmI (fun I6 eI6 => ?_)
      have h := h I6 eI6
      refine j_aload_n E dX8_pricesInto_94 1 rfl ?_
      refine j_iload E dX8_pricesInto_95 5 rfl ?_
      refine j_iload E dX8_pricesInto_97 3 rfl ?_
      refine j_if_eq E 107 dX8_pricesInto_99 (by decide) (fun c7 => ?_) (fun c7 => ?_)
      · have h := h.1 c7
        refine j_aload E dX8_pricesInto_107 2 rfl ?_
        refine j_iconst E (v := 0) dX8_pricesInto_109 (by decide) ?_
        refine j_callV E [.int (0 : Int32)] [.int v10, .ref v1] (c_X3_names (gL G) (gD G) (gY G) v7 (0 : Int32) Z I6 L _ hZ kv7 h) (gwV W_334 W_335 W_336 W_173 W_333) rfl ⟨rfl, fy_X3_names⟩ ⟨by decide, by decide⟩ (c := 3) rfl (by decide) kv7 rfl rfl (Nat.le_of_ble_eq_true rfl) ⟨Nat.zero_le _, Nat.zero_le _⟩ dX8_pricesInto_110 (fun v8 Z9 I10 L11 q12 => ?_)
        obtain ⟨rfl, r13, rfl, zr13, h⟩ := q12
        show jJ G 11 113 [(0, .ref v0), (1, .ref v1), (7, .ref v7), (8, .int v8), (9, .int v9), (10, .int v10)] [.int r13, .int v10, .ref v1] Z I10 L11 0 0
        refine j_if_eq E 128 dX8_pricesInto_113 (by decide) (fun c14 => ?_) (fun c14 => ?_)
        · have h := h.1 c14
          refine j_iload E dX8_pricesInto_128 4 rfl ?_
          refine j_sub [0, 1, 2, 3, 4, 5] rfl ?_
          exact m_X8_pricesInto_b130 E hZ K79 hK79 v0 v1 v7 v8 v9 v10 v1 v10 v9 I10 L11 kv0 kv1 kv7 kv1 h
        · have h := h.2 c14
          refine j_aload E dX8_pricesInto_116 2 rfl ?_
          refine j_aload_n E dX8_pricesInto_118 0 rfl ?_
          obtain ⟨b15, eb15, kb15, lb15⟩ := sh_f hZ kv0 (j := 8) (k := 14) (m := 7) rfl
          have h := h b15 eb15
          refine j_getr E 8 8 rfl rfl (by decide) (by decide) (iw iT_8) rfl rfl (tw W_246) kv0 eb15 dX8_pricesInto_119 ?_
          refine j_callV E [.ref b15] [.int v10, .ref v1] (c_X3_priceFor (gL G) (gD G) (gY G) v7 b15 Z I10 L11 _ hZ kv7 kb15 h) (gwV W_271 W_272 W_273 W_173 W_270) rfl ⟨rfl, fy_X3_priceFor⟩ ⟨by decide, by decide⟩ (c := 3) rfl (by decide) kv7 rfl rfl (Nat.le_of_ble_eq_true rfl) ⟨Nat.zero_le _, Nat.zero_le _⟩ dX8_pricesInto_122 (fun v16 Z17 I18 L19 q20 => ?_)
          obtain ⟨rfl, r21, rfl, h⟩ := q20
          show jJ G 11 125 [(0, .ref v0), (1, .ref v1), (7, .ref v7), (8, .int v8), (9, .int v9), (10, .int v10)] [.int r21, .int v10, .ref v1] Z I18 L19 0 0
          refine j_goto E 130 dX8_pricesInto_125 (by decide) ?_
          refine j_sub [0, 1, 2, 3, 4, 5] rfl ?_
          exact m_X8_pricesInto_b130 E hZ K79 hK79 v0 v1 v7 v8 v9 v10 v1 v10 r21 I18 L19 kv0 kv1 kv7 kv1 h
      · have h := h.2 c7
        refine j_iload E dX8_pricesInto_102 5 rfl ?_
        refine j_goto E 130 dX8_pricesInto_104 (by decide) ?_
        refine j_sub [0, 1, 2, 3, 4, 5] rfl ?_
        exact m_X8_pricesInto_b130 E hZ K79 hK79 v0 v1 v7 v8 v9 v10 v1 v10 v10 I6 L kv0 kv1 kv7 kv1 h
set_option maxRecDepth 100000 in
def f_X8_pricesInto_b52  (Z : jZ) (Q : jI → jL → Prop) (v0 : Nat) (v1 : Nat) (v3 : Int32) (v4 : Int32) (v5 : Int32) (v6 : Int32) (v7 : Nat) (s0 : Int32) (I : jI) (L : jL) : Prop := (f_X8_putLetters v0 v3 v4 v5 v6 Z I L (fun I24 L25 => (∀ b27 : Nat, jr Z v0 8 = some b27 → (f_X3_priceFor v7 b27 Z I24 L25 (fun r33 I30 L31 => (∃ m79 : Nat, f_X8_pricesInto_L79  Z Q m79 v0 v1 v7 s0 r33 (0 : Int32) I30 L31))))))
set_option maxHeartbeats 4000000 in
set_option maxRecDepth 100000 in
theorem m_X8_pricesInto_b52 {G : jG} {Z : jZ} {Q : jI → jL → Prop} (E : jE G cX8_pricesInto RX8 w_X8_pricesInto 11 none { frames := 2, cells := 0, slots := 0, locals := 48 } (rtV Z Q)) (hZ : SH Z)  (v0 : Nat) (v1 : Nat) (v3 : Int32) (v4 : Int32) (v5 : Int32) (v6 : Int32) (v7 : Nat) (s0 : Int32) (I : jI) (L : jL) (kv0 : jk Z v0 8) (kv1 : jk Z v1 14) (kv7 : jk Z v7 3) (h : f_X8_pricesInto_b52  Z Q v0 v1 v3 v4 v5 v6 v7 s0 I L) : jJ G 11 52 [(0, .ref v0), (1, .ref v1), (3, .int v3), (4, .int v4), (5, .int v5), (6, .int v6), (7, .ref v7)] [.int s0] Z I L 0 0 := by
  refine j_istore E 8 [(8, .int s0), (0, .ref v0), (1, .ref v1), (3, .int v3), (4, .int v4), (5, .int v5), (6, .int v6), (7, .ref v7)] dX8_pricesInto_52 (by decide) rfl ?_
  refine j_aload_n E dX8_pricesInto_54 1 rfl ?_
  refine j_iload_n E dX8_pricesInto_55 3 rfl ?_
  refine j_iload E dX8_pricesInto_56 4 rfl ?_
  refine j_iload E dX8_pricesInto_58 5 rfl ?_
  refine j_iload E dX8_pricesInto_60 6 rfl ?_
  refine j_callV E [.int v3, .int v4, .int v5, .int v6] [] (c_X8_putLetters (gL G) (gD G) (gY G) v0 v3 v4 v5 v6 Z I L _ hZ kv0 h) (gwV W_267 W_268 W_269 W_248 W_266) rfl ⟨rfl, fy_X8_putLetters⟩ ⟨by decide, by decide⟩ (c := 8) rfl (by decide) kv0 rfl rfl (Nat.le_of_ble_eq_true rfl) ⟨Nat.zero_le _, Nat.zero_le _⟩ dX8_pricesInto_62 (fun v22 Z23 I24 L25 q26 => ?_)
  obtain ⟨rfl, rfl, h⟩ := q26
  show jJ G 11 65 [(8, .int s0), (0, .ref v0), (1, .ref v1), (3, .int v3), (4, .int v4), (5, .int v5), (6, .int v6), (7, .ref v7)] [] Z I24 L25 0 0
  refine j_aload E dX8_pricesInto_65 7 rfl ?_
  refine j_aload_n E dX8_pricesInto_67 1 rfl ?_
  obtain ⟨b27, eb27, kb27, lb27⟩ := sh_f hZ kv0 (j := 8) (k := 14) (m := 7) rfl
  have h := h b27 eb27
  refine j_getr E 8 8 rfl rfl (by decide) (by decide) (iw iT_8) rfl rfl (tw W_246) kv0 eb27 dX8_pricesInto_68 ?_
  refine j_callV E [.ref b27] [] (c_X3_priceFor (gL G) (gD G) (gY G) v7 b27 Z I24 L25 _ hZ kv7 kb27 h) (gwV W_271 W_272 W_273 W_173 W_270) rfl ⟨rfl, fy_X3_priceFor⟩ ⟨by decide, by decide⟩ (c := 3) rfl (by decide) kv7 rfl rfl (Nat.le_of_ble_eq_true rfl) ⟨Nat.zero_le _, Nat.zero_le _⟩ dX8_pricesInto_71 (fun v28 Z29 I30 L31 q32 => ?_)
  obtain ⟨rfl, r33, rfl, h⟩ := q32
  show jJ G 11 74 [(8, .int s0), (0, .ref v0), (1, .ref v1), (3, .int v3), (4, .int v4), (5, .int v5), (6, .int v6), (7, .ref v7)] [.int r33] Z I30 L31 0 0
  refine j_istore E 9 [(9, .int r33), (8, .int s0), (0, .ref v0), (1, .ref v1), (3, .int v3), (4, .int v4), (5, .int v5), (6, .int v6), (7, .ref v7)] dX8_pricesInto_74 (by decide) rfl ?_
  refine j_iconst E (v := 0) dX8_pricesInto_76 (by decide) ?_
  refine j_istore E 10 [(10, .int (0 : Int32)), (9, .int r33), (8, .int s0), (0, .ref v0), (1, .ref v1), (3, .int v3), (4, .int v4), (5, .int v5), (6, .int v6), (7, .ref v7)] dX8_pricesInto_77 (by decide) rfl ?_
  obtain ⟨n34, h⟩ := h
  refine j_sub [3, 4, 9, 2, 1, 0] rfl ?_
  exact m_X8_pricesInto_L79 E hZ  n34 v0 v1 v7 s0 r33 (0 : Int32) I30 L31 kv0 kv1 kv7 h
set_option maxRecDepth 100000 in
def f_X8_pricesInto_b51  (Z : jZ) (Q : jI → jL → Prop) (v0 : Nat) (v1 : Nat) (v3 : Int32) (v4 : Int32) (v5 : Int32) (v6 : Int32) (v7 : Nat) (I : jI) (L : jL) : Prop := f_X8_pricesInto_b52  Z Q v0 v1 v3 v4 v5 v6 v7 (0 : Int32) I L
set_option maxHeartbeats 4000000 in
set_option maxRecDepth 100000 in
theorem m_X8_pricesInto_b51 {G : jG} {Z : jZ} {Q : jI → jL → Prop} (E : jE G cX8_pricesInto RX8 w_X8_pricesInto 11 none { frames := 2, cells := 0, slots := 0, locals := 48 } (rtV Z Q)) (hZ : SH Z)  (v0 : Nat) (v1 : Nat) (v3 : Int32) (v4 : Int32) (v5 : Int32) (v6 : Int32) (v7 : Nat) (I : jI) (L : jL) (kv0 : jk Z v0 8) (kv1 : jk Z v1 14) (kv7 : jk Z v7 3) (h : f_X8_pricesInto_b51  Z Q v0 v1 v3 v4 v5 v6 v7 I L) : jJ G 11 51 [(0, .ref v0), (1, .ref v1), (3, .int v3), (4, .int v4), (5, .int v5), (6, .int v6), (7, .ref v7)] [] Z I L 0 0 := by
  refine j_iconst E (v := 0) dX8_pricesInto_51 (by decide) ?_
  refine j_sub [0, 1, 2, 3, 4, 5, 6] rfl ?_
  exact m_X8_pricesInto_b52 E hZ  v0 v1 v3 v4 v5 v6 v7 (0 : Int32) I L kv0 kv1 kv7 h
set_option maxRecDepth 100000 in
def f_X8_pricesInto_b15  (Z : jZ) (Q : jI → jL → Prop) (v0 : Nat) (v1 : Nat) (v2 : Int32) (v3 : Int32) (v4 : Int32) (v5 : Int32) (v6 : Int32) (s0 : Nat) (I : jI) (L : jL) : Prop := (f_X8_has v0 v3 Z I L (fun r40 I37 L38 => ((¬ r40 = 0 → ((¬ v2 = 0 → f_X8_pricesInto_b51  Z Q v0 v1 v3 v4 v5 v6 s0 I37 L38) ∧ (v2 = 0 → (f_X3_isTold s0 Z I37 L38 (fun r48 I45 L46 => ((¬ r48 = 0 → f_X8_pricesInto_b51  Z Q v0 v1 v3 v4 v5 v6 s0 I45 L46) ∧ (r48 = 0 → (∀ b50 : Nat, jr Z v0 3 = some b50 → (vp_in v3 24 ∧ ((¬ (I45 b50 v3.toNatClampNeg) = 0 → f_X8_pricesInto_b51  Z Q v0 v1 v3 v4 v5 v6 s0 I45 L46) ∧ ((I45 b50 v3.toNatClampNeg) = 0 → f_X8_pricesInto_b52  Z Q v0 v1 v3 v4 v5 v6 s0 (1 : Int32) I45 L46))))))))))) ∧ (r40 = 0 → Q I37 L38))))
set_option maxHeartbeats 4000000 in
set_option maxRecDepth 100000 in
theorem m_X8_pricesInto_b15 {G : jG} {Z : jZ} {Q : jI → jL → Prop} (E : jE G cX8_pricesInto RX8 w_X8_pricesInto 11 none { frames := 2, cells := 0, slots := 0, locals := 48 } (rtV Z Q)) (hZ : SH Z)  (v0 : Nat) (v1 : Nat) (v2 : Int32) (v3 : Int32) (v4 : Int32) (v5 : Int32) (v6 : Int32) (s0 : Nat) (I : jI) (L : jL) (kv0 : jk Z v0 8) (kv1 : jk Z v1 14) (ks0 : jk Z s0 3) (h : f_X8_pricesInto_b15  Z Q v0 v1 v2 v3 v4 v5 v6 s0 I L) : jJ G 11 15 [(0, .ref v0), (1, .ref v1), (2, .int v2), (3, .int v3), (4, .int v4), (5, .int v5), (6, .int v6)] [.ref s0] Z I L 0 0 := by
  refine j_astore E 7 [(7, .ref s0), (0, .ref v0), (1, .ref v1), (2, .int v2), (3, .int v3), (4, .int v4), (5, .int v5), (6, .int v6)] dX8_pricesInto_15 (by decide) rfl ?_
  refine j_aload_n E dX8_pricesInto_17 1 rfl ?_
  refine j_iload_n E dX8_pricesInto_18 4 rfl ?_
  refine j_callV E [.int v3] [] (c_X8_has (gL G) (gD G) (gY G) v0 v3 Z I L _ hZ kv0 h) (gwV W_249 W_250 W_251 W_248 W_247) rfl ⟨rfl, fy_X8_has⟩ ⟨by decide, by decide⟩ (c := 8) rfl (by decide) kv0 rfl rfl (Nat.le_of_ble_eq_true rfl) ⟨Nat.zero_le _, Nat.zero_le _⟩ dX8_pricesInto_19 (fun v35 Z36 I37 L38 q39 => ?_)
  obtain ⟨rfl, r40, rfl, zr40, h⟩ := q39
  show jJ G 11 22 [(7, .ref s0), (0, .ref v0), (1, .ref v1), (2, .int v2), (3, .int v3), (4, .int v4), (5, .int v5), (6, .int v6)] [.int r40] Z I37 L38 0 0
  refine j_if_ne E 26 dX8_pricesInto_22 (by decide) (fun c41 => ?_) (fun c41 => ?_)
  · have h := h.1 c41
    refine j_iload_n E dX8_pricesInto_26 3 rfl ?_
    refine j_if_ne E 51 dX8_pricesInto_27 (by decide) (fun c42 => ?_) (fun c42 => ?_)
    · have h := h.1 c42
      refine j_sub [1, 2, 4, 5, 6, 7, 0] rfl ?_
      exact m_X8_pricesInto_b51 E hZ  v0 v1 v3 v4 v5 v6 s0 I37 L38 kv0 kv1 ks0 h
    · have h := h.2 c42
      refine j_aload E dX8_pricesInto_30 0 rfl ?_
      refine j_callV E [] [] (c_X3_isTold (gL G) (gD G) (gY G) s0 Z I37 L38 _ hZ ks0 h) (gwV W_265 W_175 W_176 W_173 W_172) rfl ⟨rfl, fy_X3_isTold⟩ ⟨by decide, by decide⟩ (c := 3) rfl (by decide) ks0 rfl rfl (Nat.le_of_ble_eq_true rfl) ⟨Nat.zero_le _, Nat.zero_le _⟩ dX8_pricesInto_32 (fun v43 Z44 I45 L46 q47 => ?_)
      obtain ⟨rfl, r48, rfl, zr48, h⟩ := q47
      show jJ G 11 35 [(7, .ref s0), (0, .ref v0), (1, .ref v1), (2, .int v2), (3, .int v3), (4, .int v4), (5, .int v5), (6, .int v6)] [.int r48] Z I45 L46 0 0
      refine j_if_ne E 51 dX8_pricesInto_35 (by decide) (fun c49 => ?_) (fun c49 => ?_)
      · have h := h.1 c49
        refine j_sub [1, 2, 4, 5, 6, 7, 0] rfl ?_
        exact m_X8_pricesInto_b51 E hZ  v0 v1 v3 v4 v5 v6 s0 I45 L46 kv0 kv1 ks0 h
      · have h := h.2 c49
        refine j_aload_n E dX8_pricesInto_38 1 rfl ?_
        obtain ⟨b50, eb50, kb50, lb50⟩ := sh_f hZ kv0 (j := 3) (k := 14) (m := 24) rfl
        have h := h b50 eb50
        refine j_getr E 8 3 rfl rfl (by decide) (by decide) (iw iT_8) rfl rfl (tw W_255) kv0 eb50 dX8_pricesInto_39 ?_
        refine j_iload_n E dX8_pricesInto_42 4 rfl ?_
        obtain ⟨o51, h⟩ := h
        refine j_iald E kb50 (by rw [lb50]; exact o51) dX8_pricesInto_43 ?_
        refine j_if_ne E 51 dX8_pricesInto_44 (by decide) (fun c52 => ?_) (fun c52 => ?_)
        · have h := h.1 c52
          refine j_sub [1, 2, 4, 5, 6, 7, 0] rfl ?_
          exact m_X8_pricesInto_b51 E hZ  v0 v1 v3 v4 v5 v6 s0 I45 L46 kv0 kv1 ks0 h
        · have h := h.2 c52
          refine j_iconst E (v := 1) dX8_pricesInto_47 (by decide) ?_
          refine j_goto E 52 dX8_pricesInto_48 (by decide) ?_
          refine j_sub [1, 2, 4, 5, 6, 7, 0] rfl ?_
          exact m_X8_pricesInto_b52 E hZ  v0 v1 v3 v4 v5 v6 s0 (1 : Int32) I45 L46 kv0 kv1 ks0 h
  · have h := h.2 c41
    exact j_return E ⟨rfl, rfl, h⟩ (Nat.zero_le _) (Nat.zero_le _) dX8_pricesInto_25
set_option maxRecDepth 100000 in
def f_X8_pricesInto (v0 : Nat) (v1 : Nat) (v2 : Int32) (v3 : Int32) (v4 : Int32) (v5 : Int32) (v6 : Int32) (Z : jZ) (I : jI) (L : jL) (Q : jI → jL → Prop) : Prop := ((¬ v2 = 0 → (∀ b54 : Nat, jr Z v0 7 = some b54 → f_X8_pricesInto_b15  Z Q v0 v1 v2 v3 v4 v5 v6 b54 I L)) ∧ (v2 = 0 → (∀ b55 : Nat, jr Z v0 6 = some b55 → f_X8_pricesInto_b15  Z Q v0 v1 v2 v3 v4 v5 v6 b55 I L)))
set_option maxHeartbeats 4000000 in
set_option maxRecDepth 100000 in
theorem c_X8_pricesInto (l : Launch) (D : va_G) (cy : jC) (v0 : Nat) (v1 : Nat) (v2 : Int32) (v3 : Int32) (v4 : Int32) (v5 : Int32) (v6 : Int32) (Z : jZ) (I : jI) (L : jL) (Q : jI → jL → Prop) (hZ : SH Z) (kv0 : jk Z v0 8) (kv1 : jk Z v1 14) (h : f_X8_pricesInto v0 v1 v2 v3 v4 v5 v6 Z I L Q) : jCt l yX8_pricesInto w_X8_pricesInto { frames := 2, cells := 0, slots := 0, locals := 48 } D cy [.ref v0, .ref v1, .int v2, .int v3, .int v4, .int v5, .int v6] Z I L (rtV Z Q) := by
  refine jCt_of (cc := cX8_pricesInto) (maxL := 11) (ret := none) (by decide +kernel) rfl (Nat.le_of_ble_eq_true rfl) ?_
  intro G eD eY eL E
  subst eD; subst eY; subst eL
  have E : jE G cX8_pricesInto RX8 w_X8_pricesInto 11 none { frames := 2, cells := 0, slots := 0, locals := 48 } (rtV Z Q) := E
  show jJ G 11 0 [(0, .ref v0), (1, .ref v1), (2, .int v2), (3, .int v3), (4, .int v4), (5, .int v5), (6, .int v6)] [] Z I L 0 0
  refine j_iload_n E dX8_pricesInto_0 2 rfl ?_
  refine j_if_ne E 11 dX8_pricesInto_1 (by decide) (fun c53 => ?_) (fun c53 => ?_)
  · have h := h.1 c53
    refine j_aload_n E dX8_pricesInto_11 0 rfl ?_
    obtain ⟨b54, eb54, kb54⟩ := sh_o hZ kv0 (j := 7) (k := 3) rfl
    have h := h b54 eb54
    refine j_getr E 8 7 rfl rfl (by decide) (by decide) (iw iT_8) rfl rfl (tw W_274) kv0 eb54 dX8_pricesInto_12 ?_
    refine j_sub [0, 1, 2, 3, 4, 5, 6] rfl ?_
    exact m_X8_pricesInto_b15 E hZ  v0 v1 v2 v3 v4 v5 v6 b54 I L kv0 kv1 kb54 h
  · have h := h.2 c53
    refine j_aload_n E dX8_pricesInto_4 0 rfl ?_
    obtain ⟨b55, eb55, kb55⟩ := sh_o hZ kv0 (j := 6) (k := 3) rfl
    have h := h b55 eb55
    refine j_getr E 8 6 rfl rfl (by decide) (by decide) (iw iT_8) rfl rfl (tw W_275) kv0 eb55 dX8_pricesInto_5 ?_
    refine j_goto E 15 dX8_pricesInto_8 (by decide) ?_
    refine j_sub [0, 1, 2, 3, 4, 5, 6] rfl ?_
    exact m_X8_pricesInto_b15 E hZ  v0 v1 v2 v3 v4 v5 v6 b55 I L kv0 kv1 kb55 h
set_option maxRecDepth 100000 in
def f_X11_isAsked (v0 : Int32) (Z : jZ) (I : jI) (L : jL) (Q : Int32 → jI → jL → Prop) : Prop := ((v0 < 0 → Q (0 : Int32) I L) ∧ (¬ (v0 < 0) → (((20 : Int32) < v0 → Q (0 : Int32) I L) ∧ (¬ ((20 : Int32) < v0) → Q (1 : Int32) I L))))
set_option maxHeartbeats 4000000 in
set_option maxRecDepth 100000 in
theorem c_X11_isAsked (l : Launch) (D : va_G) (cy : jC) (v0 : Int32) (Z : jZ) (I : jI) (L : jL) (Q : Int32 → jI → jL → Prop) (hZ : SH Z)  (h : f_X11_isAsked v0 Z I L Q) : jCt l yX11_isAsked w_X11_isAsked { frames := 0, cells := 0, slots := 0, locals := 0 } D cy [.int v0] Z I L (rtZ Z Q) := by
  refine jCt_of (cc := cX11_isAsked) (maxL := 1) (ret := (some .boolean)) (by decide +kernel) rfl (Nat.le_of_ble_eq_true rfl) ?_
  intro G eD eY eL E
  subst eD; subst eY; subst eL
  have E : jE G cX11_isAsked RX11 w_X11_isAsked 1 (some .boolean) { frames := 0, cells := 0, slots := 0, locals := 0 } (rtZ Z Q) := E
  show jJ G 1 0 [(0, .int v0)] [] Z I L 0 0
  refine j_iload_n E dX11_isAsked_0 0 rfl ?_
  refine j_if_lt E 14 dX11_isAsked_1 (by decide) (fun c1 => ?_) (fun c1 => ?_)
  · have h := h.1 c1
    refine j_iconst E (v := 0) dX11_isAsked_14 (by decide) ?_
    exact j_zreturn E (Or.inl rfl) ⟨rfl, _, rfl, (Or.inl rfl), h⟩ (Nat.zero_le _) (Nat.zero_le _) dX11_isAsked_15
  · have h := h.2 c1
    refine j_iload_n E dX11_isAsked_4 0 rfl ?_
    refine j_bipush E (v := 20) dX11_isAsked_5 (by decide) ?_
    refine j_icmp_gt E 14 dX11_isAsked_7 (by decide) (fun c2 => ?_) (fun c2 => ?_)
    · have h := h.1 c2
      refine j_iconst E (v := 0) dX11_isAsked_14 (by decide) ?_
      exact j_zreturn E (Or.inl rfl) ⟨rfl, _, rfl, (Or.inl rfl), h⟩ (Nat.zero_le _) (Nat.zero_le _) dX11_isAsked_15
    · have h := h.2 c2
      refine j_iconst E (v := 1) dX11_isAsked_10 (by decide) ?_
      refine j_goto E 15 dX11_isAsked_11 (by decide) ?_
      exact j_zreturn E (Or.inr rfl) ⟨rfl, _, rfl, (Or.inr rfl), h⟩ (Nat.zero_le _) (Nat.zero_le _) dX11_isAsked_15
set_option maxRecDepth 100000 in
def f_X6_offerBy_b209 (K150 : Nat → Int64 → Int32 → jI → jL → Prop) (Z : jZ) (Q : jI → jL → Prop) (v0 : Nat) (v10 : Int64) (v12 : Int32) (I : jI) (L : jL) : Prop := (∀ x1 : Int32, x1 = v12 + 1 → K150 v0 v10 x1 I L)
set_option maxHeartbeats 4000000 in
set_option maxRecDepth 100000 in
theorem m_X6_offerBy_b209 {G : jG} {Z : jZ} {Q : jI → jL → Prop} (E : jE G cX6_offerBy RX6 w_X6_offerBy 15 none { frames := 3, cells := 0, slots := 0, locals := 78 } (rtV Z Q)) (hZ : SH Z) (K150 : Nat → Int64 → Int32 → jI → jL → Prop) (hK150 : ∀ (v0 : Nat) (v10 : Int64) (v12 : Int32) (I : jI) (L : jL), jk Z v0 6 → K150 v0 v10 v12 I L → jJ G 15 150 [(0, .ref v0), (10, .long v10), (12, .int v12)] [] Z I L 0 0) (v0 : Nat) (v10 : Int64) (v12 : Int32) (I : jI) (L : jL) (kv0 : jk Z v0 6) (h : f_X6_offerBy_b209 K150 Z Q v0 v10 v12 I L) : jJ G 15 209 [(0, .ref v0), (10, .long v10), (12, .int v12)] [] Z I L 0 0 := by
  obtain ⟨x1, ex1⟩ : ∃ y : Int32, y = v12 + 1 := ⟨_, rfl⟩
  have h := h x1 ex1
  refine j_iinc E x1 [(12, .int x1), (0, .ref v0), (10, .long v10)] dX6_offerBy_209 2 rfl (by rw [ex1]; rfl) (by decide) rfl ?_
  refine j_goto E 150 dX6_offerBy_212 (by decide) ?_
  refine j_sub [1, 2, 0] rfl ?_
  exact hK150 v0 v10 x1 I L kv0 h
set_option maxRecDepth 100000 in
def f_X6_offerBy_L150  (Z : jZ) (Q : jI → jL → Prop) : Nat → Nat → Int64 → Int32 → jI → jL → Prop
  | 0 => fun _ _ _ _ _ => False
  | n + 1 => fun v0 v10 v12 I L => (((20 : Int32) < v12 → Q I L) ∧ (¬ ((20 : Int32) < v12) → (∀ b3 : Nat, jr Z v0 13 = some b3 → (vp_in v12 21 ∧ (∀ x5 : Int64, x5 = (v10 + (((I b3 v12.toNatClampNeg).toInt64) <<< ((41 : Int32).toInt64 &&& 63))) → (∀ b6 : Nat, jr Z v0 11 = some b6 → (vp_in v12 21 ∧ ((0 ≤ (lg_cmp x5 (L b6 v12.toNatClampNeg)) → f_X6_offerBy_b209 (f_X6_offerBy_L150 Z Q n) Z Q v0 v10 v12 I L) ∧ (¬ (0 ≤ (lg_cmp x5 (L b6 v12.toNatClampNeg))) → (∀ b9 : Nat, jr Z v0 11 = some b9 → (vp_in v12 21 ∧ (∀ L11 : jL, L11 = jpL L b9 v12.toNatClampNeg x5 → (∀ b12 : Nat, jr Z v0 12 = some b12 → (∀ b13 : Nat, jr Z v0 13 = some b13 → (vp_in v12 21 ∧ (vp_in v12 21 ∧ (∀ I16 : jI, I16 = jpI I b12 v12.toNatClampNeg (I b13 v12.toNatClampNeg) → f_X6_offerBy_b209 (f_X6_offerBy_L150 Z Q n) Z Q v0 v10 v12 I16 L11)))))))))))))))))
set_option maxHeartbeats 4000000 in
set_option maxRecDepth 100000 in
theorem m_X6_offerBy_L150 {G : jG} {Z : jZ} {Q : jI → jL → Prop} (E : jE G cX6_offerBy RX6 w_X6_offerBy 15 none { frames := 3, cells := 0, slots := 0, locals := 78 } (rtV Z Q)) (hZ : SH Z)  : ∀ (n : Nat) (v0 : Nat) (v10 : Int64) (v12 : Int32) (I : jI) (L : jL), jk Z v0 6 → f_X6_offerBy_L150  Z Q n v0 v10 v12 I L → jJ G 15 150 [(0, .ref v0), (10, .long v10), (12, .int v12)] [] Z I L 0 0 := by
  intro n
  induction n with
  | zero => intro v0 v10 v12 I L _ h; exact h.elim
  | succ n ih =>
    intro v0 v10 v12 I L kv0 h
    have h : (((20 : Int32) < v12 → Q I L) ∧ (¬ ((20 : Int32) < v12) → (∀ b3 : Nat, jr Z v0 13 = some b3 → (vp_in v12 21 ∧ (∀ x5 : Int64, x5 = (v10 + (((I b3 v12.toNatClampNeg).toInt64) <<< ((41 : Int32).toInt64 &&& 63))) → (∀ b6 : Nat, jr Z v0 11 = some b6 → (vp_in v12 21 ∧ ((0 ≤ (lg_cmp x5 (L b6 v12.toNatClampNeg)) → f_X6_offerBy_b209 (f_X6_offerBy_L150 Z Q n) Z Q v0 v10 v12 I L) ∧ (¬ (0 ≤ (lg_cmp x5 (L b6 v12.toNatClampNeg))) → (∀ b9 : Nat, jr Z v0 11 = some b9 → (vp_in v12 21 ∧ (∀ L11 : jL, L11 = jpL L b9 v12.toNatClampNeg x5 → (∀ b12 : Nat, jr Z v0 12 = some b12 → (∀ b13 : Nat, jr Z v0 13 = some b13 → (vp_in v12 21 ∧ (vp_in v12 21 ∧ (∀ I16 : jI, I16 = jpI I b12 v12.toNatClampNeg (I b13 v12.toNatClampNeg) → f_X6_offerBy_b209 (f_X6_offerBy_L150 Z Q n) Z Q v0 v10 v12 I16 L11))))))))))))))))) := h
    obtain ⟨K150, eK150⟩ : ∃ K : Nat → Int64 → Int32 → jI → jL → Prop, K = f_X6_offerBy_L150  Z Q n := ⟨_, rfl⟩
    have hK150 := ih
    clear eK150 K150
    generalize f_X6_offerBy_L150  Z Q n = K150 at hK150 h
    refine j_iload E dX6_offerBy_150 2 rfl ?_
    refine j_bipush E (v := 20) dX6_offerBy_152 (by decide) ?_
    refine j_icmp_gt E 215 dX6_offerBy_154 (by decide) (fun c2 => ?_) (fun c2 => ?_)
    · have h := h.1 c2
      exact j_return E ⟨rfl, rfl, h⟩ (Nat.zero_le _) (Nat.zero_le _) dX6_offerBy_215
    · have h := h.2 c2
      refine j_lload E dX6_offerBy_157 1 rfl ?_
      refine j_aload_n E dX6_offerBy_159 0 rfl ?_
      obtain ⟨b3, eb3, kb3, lb3⟩ := sh_f hZ kv0 (j := 13) (k := 14) (m := 21) rfl
      have h := h b3 eb3
      refine j_getr E 6 13 rfl rfl (by decide) (by decide) (iw iT_6) rfl rfl (tw W_337) kv0 eb3 dX6_offerBy_160 ?_
      refine j_iload E dX6_offerBy_163 2 rfl ?_
      obtain ⟨o4, h⟩ := h
      refine j_iald E kb3 (by rw [lb3]; exact o4) dX6_offerBy_165 ?_
      refine j_i2l E dX6_offerBy_166 ?_
      refine j_bipush E (v := 41) dX6_offerBy_167 (by decide) ?_
      refine j_lshl E dX6_offerBy_169 ?_
      refine j_ladd E dX6_offerBy_170 ?_
      refine j_topl (fun x5 ex5 => ?_)
      have h := h x5 ex5
      refine j_lstore E 13 [(13, .long x5), (0, .ref v0), (10, .long v10), (12, .int v12)] dX6_offerBy_171 (by decide) rfl ?_
      refine j_lload E dX6_offerBy_173 0 rfl ?_
      refine j_aload_n E dX6_offerBy_175 1 rfl ?_
      obtain ⟨b6, eb6, kb6, lb6⟩ := sh_f hZ kv0 (j := 11) (k := 15) (m := 21) rfl
      have h := h b6 eb6
      refine j_getr E 6 11 rfl rfl (by decide) (by decide) (iw iT_6) rfl rfl (tw W_338) kv0 eb6 dX6_offerBy_176 ?_
      refine j_iload E dX6_offerBy_179 3 rfl ?_
      obtain ⟨o7, h⟩ := h
      refine j_lald E kb6 (by rw [lb6]; exact o7) dX6_offerBy_181 ?_
      refine j_lcmp E dX6_offerBy_182 ?_
      refine j_if_ge E 209 dX6_offerBy_183 (by decide) (fun c8 => ?_) (fun c8 => ?_)
      · have h := h.1 c8
        refine j_sub [1, 2, 3] rfl ?_
        exact m_X6_offerBy_b209 E hZ K150 hK150 v0 v10 v12 I L kv0 h
      · have h := h.2 c8
        refine j_aload_n E dX6_offerBy_186 1 rfl ?_
        obtain ⟨b9, eb9, kb9, lb9⟩ := sh_f hZ kv0 (j := 11) (k := 15) (m := 21) rfl
        have h := h b9 eb9
        refine j_getr E 6 11 rfl rfl (by decide) (by decide) (iw iT_6) rfl rfl (tw W_338) kv0 eb9 dX6_offerBy_187 ?_
        refine j_iload E dX6_offerBy_190 3 rfl ?_
        refine j_lload E dX6_offerBy_192 0 rfl ?_
        obtain ⟨o10, h⟩ := h
        refine j_last E kb9 (by rw [lb9]; exact o10) dX6_offerBy_194 ?_
        refine j_nmL (fun L11 eL11 => ?_)
        have h := h L11 eL11
        refine j_aload_n E dX6_offerBy_195 1 rfl ?_
        obtain ⟨b12, eb12, kb12, lb12⟩ := sh_f hZ kv0 (j := 12) (k := 14) (m := 21) rfl
        have h := h b12 eb12
        refine j_getr E 6 12 rfl rfl (by decide) (by decide) (iw iT_6) rfl rfl (tw W_339) kv0 eb12 dX6_offerBy_196 ?_
        refine j_iload E dX6_offerBy_199 3 rfl ?_
        refine j_aload_n E dX6_offerBy_201 1 rfl ?_
        obtain ⟨b13, eb13, kb13, lb13⟩ := sh_f hZ kv0 (j := 13) (k := 14) (m := 21) rfl
        have h := h b13 eb13
        refine j_getr E 6 13 rfl rfl (by decide) (by decide) (iw iT_6) rfl rfl (tw W_337) kv0 eb13 dX6_offerBy_202 ?_
        refine j_iload E dX6_offerBy_205 3 rfl ?_
        obtain ⟨o14, h⟩ := h
        refine j_iald E kb13 (by rw [lb13]; exact o14) dX6_offerBy_207 ?_
        obtain ⟨o15, h⟩ := h
        refine j_iast E kb12 (by rw [lb12]; exact o15) dX6_offerBy_208 ?_
        refine j_nmI (fun I16 eI16 => ?_)
        have h := h I16 eI16
        refine j_sub [1, 2, 3] rfl ?_
        exact m_X6_offerBy_b209 E hZ K150 hK150 v0 v10 v12 I16 L11 kv0 h
set_option maxRecDepth 100000 in
def f_X6_offerBy_b126  (Z : jZ) (Q : jI → jL → Prop) (v0 : Nat) (v3 : Int32) (v4 : Int32) (v5 : Int64) (s0 : Int32) (I : jI) (L : jL) : Prop := (f_X6_keyOf v0 v3 v4 Z I L (fun r22 I19 L20 => (∀ x23 : Int64, x23 = ((v5 + r22) - ((s0.toInt64) <<< ((41 : Int32).toInt64 &&& 63))) → (∃ m150 : Nat, f_X6_offerBy_L150  Z Q m150 v0 x23 (0 : Int32) I19 L20))))
set_option maxHeartbeats 4000000 in
set_option maxRecDepth 100000 in
theorem m_X6_offerBy_b126 {G : jG} {Z : jZ} {Q : jI → jL → Prop} (E : jE G cX6_offerBy RX6 w_X6_offerBy 15 none { frames := 3, cells := 0, slots := 0, locals := 78 } (rtV Z Q)) (hZ : SH Z)  (v0 : Nat) (v3 : Int32) (v4 : Int32) (v5 : Int64) (s0 : Int32) (I : jI) (L : jL) (kv0 : jk Z v0 6) (h : f_X6_offerBy_b126  Z Q v0 v3 v4 v5 s0 I L) : jJ G 15 126 [(0, .ref v0), (3, .int v3), (4, .int v4), (5, .long v5)] [.int s0] Z I L 0 0 := by
  refine j_istore E 9 [(9, .int s0), (0, .ref v0), (3, .int v3), (4, .int v4), (5, .long v5)] dX6_offerBy_126 (by decide) rfl ?_
  refine j_lload E dX6_offerBy_128 4 rfl ?_
  refine j_aload_n E dX6_offerBy_130 1 rfl ?_
  refine j_iload_n E dX6_offerBy_131 2 rfl ?_
  refine j_iload E dX6_offerBy_132 3 rfl ?_
  refine j_callV E [.int v3, .int v4] [.long v5] (c_X6_keyOf (gL G) (gD G) (gY G) v0 v3 v4 Z I L _ hZ kv0 h) (gwV W_39 W_40 W_41 W_21 W_38) rfl ⟨rfl, fy_X6_keyOf⟩ ⟨by decide, by decide⟩ (c := 6) rfl (by decide) kv0 rfl rfl (Nat.le_of_ble_eq_true rfl) ⟨Nat.zero_le _, Nat.zero_le _⟩ dX6_offerBy_134 (fun v17 Z18 I19 L20 q21 => ?_)
  obtain ⟨rfl, r22, rfl, h⟩ := q21
  show jJ G 15 137 [(9, .int s0), (0, .ref v0), (3, .int v3), (4, .int v4), (5, .long v5)] [.long r22, .long v5] Z I19 L20 0 0
  refine j_ladd E dX6_offerBy_137 ?_
  refine j_iload E dX6_offerBy_138 0 rfl ?_
  refine j_i2l E dX6_offerBy_140 ?_
  refine j_bipush E (v := 41) dX6_offerBy_141 (by decide) ?_
  refine j_lshl E dX6_offerBy_143 ?_
  refine j_lsub E dX6_offerBy_144 ?_
  refine j_topl (fun x23 ex23 => ?_)
  have h := h x23 ex23
  refine j_lstore E 10 [(10, .long x23), (9, .int s0), (0, .ref v0), (3, .int v3), (4, .int v4), (5, .long v5)] dX6_offerBy_145 (by decide) rfl ?_
  refine j_iconst E (v := 0) dX6_offerBy_147 (by decide) ?_
  refine j_istore E 12 [(12, .int (0 : Int32)), (10, .long x23), (9, .int s0), (0, .ref v0), (3, .int v3), (4, .int v4), (5, .long v5)] dX6_offerBy_148 (by decide) rfl ?_
  obtain ⟨n24, h⟩ := h
  refine j_sub [3, 1, 0] rfl ?_
  exact m_X6_offerBy_L150 E hZ  n24 v0 x23 (0 : Int32) I19 L20 kv0 h
set_option maxRecDepth 100000 in
def f_X6_offerBy_b69  (Z : jZ) (Q : jI → jL → Prop) (v0 : Nat) (v1 : Int32) (v2 : Int32) (v3 : Int32) (v4 : Int32) (v5 : Int64) (s0 : Int32) (I : jI) (L : jL) : Prop := (∀ b25 : Nat, jr Z v0 0 = some b25 → (∀ b26 : Nat, jr Z v0 13 = some b26 → (f_X8_pricesInto b25 b26 s0 v1 (v2 - (1 : Int32)) (v4 - (1 : Int32)) (I v0 14) Z I L (fun I29 L30 => (∀ b32 : Nat, jr Z v0 0 = some b32 → (∀ b33 : Nat, jr Z b32 2 = some b33 → (vp_in v1 24 ∧ (∀ x35 : Int32, x35 = (I29 b33 v1.toNatClampNeg) → (f_X11_isAsked x35 Z I29 L30 (fun r41 I38 L39 => ((r41 = 0 → f_X6_offerBy_b126  Z Q v0 v3 v4 v5 (0 : Int32) I38 L39) ∧ (¬ (r41 = 0) → (∀ b43 : Nat, jr Z v0 13 = some b43 → (vp_in x35 21 ∧ f_X6_offerBy_b126  Z Q v0 v3 v4 v5 (I38 b43 x35.toNatClampNeg) I38 L39))))))))))))))
set_option maxHeartbeats 4000000 in
set_option maxRecDepth 100000 in
theorem m_X6_offerBy_b69 {G : jG} {Z : jZ} {Q : jI → jL → Prop} (E : jE G cX6_offerBy RX6 w_X6_offerBy 15 none { frames := 3, cells := 0, slots := 0, locals := 78 } (rtV Z Q)) (hZ : SH Z)  (v0 : Nat) (v1 : Int32) (v2 : Int32) (v3 : Int32) (v4 : Int32) (v5 : Int64) (s0 : Int32) (I : jI) (L : jL) (kv0 : jk Z v0 6) (h : f_X6_offerBy_b69  Z Q v0 v1 v2 v3 v4 v5 s0 I L) : jJ G 15 69 [(0, .ref v0), (1, .int v1), (2, .int v2), (3, .int v3), (4, .int v4), (5, .long v5)] [.int s0] Z I L 0 0 := by
  refine j_istore E 7 [(7, .int s0), (0, .ref v0), (1, .int v1), (2, .int v2), (3, .int v3), (4, .int v4), (5, .long v5)] dX6_offerBy_69 (by decide) rfl ?_
  refine j_aload_n E dX6_offerBy_71 1 rfl ?_
  obtain ⟨b25, eb25, kb25⟩ := sh_o hZ kv0 (j := 0) (k := 8) rfl
  have h := h b25 eb25
  refine j_getr E 6 0 rfl rfl (by decide) (by decide) (iw iT_6) rfl rfl (tw W_280) kv0 eb25 dX6_offerBy_72 ?_
  refine j_aload_n E dX6_offerBy_75 1 rfl ?_
  obtain ⟨b26, eb26, kb26, lb26⟩ := sh_f hZ kv0 (j := 13) (k := 14) (m := 21) rfl
  have h := h b26 eb26
  refine j_getr E 6 13 rfl rfl (by decide) (by decide) (iw iT_6) rfl rfl (tw W_337) kv0 eb26 dX6_offerBy_76 ?_
  refine j_iload E dX6_offerBy_79 0 rfl ?_
  refine j_iload_n E dX6_offerBy_81 2 rfl ?_
  refine j_iload_n E dX6_offerBy_82 3 rfl ?_
  refine j_iconst E (v := 1) dX6_offerBy_83 (by decide) ?_
  refine j_isub E dX6_offerBy_84 ?_
  refine j_iload E dX6_offerBy_85 5 rfl ?_
  refine j_iconst E (v := 1) dX6_offerBy_87 (by decide) ?_
  refine j_isub E dX6_offerBy_88 ?_
  refine j_aload_n E dX6_offerBy_89 1 rfl ?_
  refine j_geti E 6 14 rfl rfl (by decide) (by decide) (iw iT_6) rfl rfl (tw W_281) kv0 dX6_offerBy_90 ?_
  refine j_callV E [.ref b26, .int s0, .int v1, .int (v2 - (1 : Int32)), .int (v4 - (1 : Int32)), .int (I v0 14)] [] (c_X8_pricesInto (gL G) (gD G) (gY G) b25 b26 s0 v1 (v2 - (1 : Int32)) (v4 - (1 : Int32)) (I v0 14) Z I L _ hZ kb25 kb26 h) (gwV W_341 W_342 W_343 W_248 W_340) rfl ⟨rfl, fy_X8_pricesInto⟩ ⟨by decide, by decide⟩ (c := 8) rfl (by decide) kb25 rfl rfl (Nat.le_of_ble_eq_true rfl) ⟨Nat.zero_le _, Nat.zero_le _⟩ dX6_offerBy_93 (fun v27 Z28 I29 L30 q31 => ?_)
  obtain ⟨rfl, rfl, h⟩ := q31
  show jJ G 15 96 [(7, .int s0), (0, .ref v0), (1, .int v1), (2, .int v2), (3, .int v3), (4, .int v4), (5, .long v5)] [] Z I29 L30 0 0
  refine j_aload_n E dX6_offerBy_96 1 rfl ?_
  obtain ⟨b32, eb32, kb32⟩ := sh_o hZ kv0 (j := 0) (k := 8) rfl
  have h := h b32 eb32
  refine j_getr E 6 0 rfl rfl (by decide) (by decide) (iw iT_6) rfl rfl (tw W_280) kv0 eb32 dX6_offerBy_97 ?_
  obtain ⟨b33, eb33, kb33, lb33⟩ := sh_f hZ kb32 (j := 2) (k := 14) (m := 24) rfl
  have h := h b33 eb33
  refine j_getrN E 8 2 rfl rfl (by decide) (by decide) (iw iT_8) rfl rfl (nw_8_2_X6_188) kb32 eb33 dX6_offerBy_100 ?_
  refine j_iload_n E dX6_offerBy_103 2 rfl ?_
  obtain ⟨o34, h⟩ := h
  refine j_iald E kb33 (by rw [lb33]; exact o34) dX6_offerBy_104 ?_
  refine j_topi (fun x35 ex35 => ?_)
  have h := h x35 ex35
  refine j_istore E 8 [(8, .int x35), (7, .int s0), (0, .ref v0), (1, .int v1), (2, .int v2), (3, .int v3), (4, .int v4), (5, .long v5)] dX6_offerBy_105 (by decide) rfl ?_
  refine j_iload E dX6_offerBy_107 0 rfl ?_
  refine j_callSN E [.int x35] [] (c_X11_isAsked (gL G) (gD G) (gY G) x35 Z I29 L30 _ hZ  h) (gwN W_344) rfl (nm_X11_isAsked_X6_191) (tw W_28) (tw W_345) fy_X11_isAsked ⟨by decide, by decide⟩ rfl rfl (Nat.le_of_ble_eq_true rfl) ⟨Nat.zero_le _, Nat.zero_le _⟩ dX6_offerBy_109 (fun v36 Z37 I38 L39 q40 => ?_)
  obtain ⟨rfl, r41, rfl, zr41, h⟩ := q40
  show jJ G 15 112 [(8, .int x35), (7, .int s0), (0, .ref v0), (1, .int v1), (2, .int v2), (3, .int v3), (4, .int v4), (5, .long v5)] [.int r41] Z I38 L39 0 0
  refine j_if_eq E 125 dX6_offerBy_112 (by decide) (fun c42 => ?_) (fun c42 => ?_)
  · have h := h.1 c42
    refine j_iconst E (v := 0) dX6_offerBy_125 (by decide) ?_
    refine j_sub [2, 5, 6, 7] rfl ?_
    exact m_X6_offerBy_b126 E hZ  v0 v3 v4 v5 (0 : Int32) I38 L39 kv0 h
  · have h := h.2 c42
    refine j_aload_n E dX6_offerBy_115 2 rfl ?_
    obtain ⟨b43, eb43, kb43, lb43⟩ := sh_f hZ kv0 (j := 13) (k := 14) (m := 21) rfl
    have h := h b43 eb43
    refine j_getr E 6 13 rfl rfl (by decide) (by decide) (iw iT_6) rfl rfl (tw W_337) kv0 eb43 dX6_offerBy_116 ?_
    refine j_iload E dX6_offerBy_119 0 rfl ?_
    obtain ⟨o44, h⟩ := h
    refine j_iald E kb43 (by rw [lb43]; exact o44) dX6_offerBy_121 ?_
    refine j_goto E 126 dX6_offerBy_122 (by decide) ?_
    refine j_sub [2, 5, 6, 7] rfl ?_
    exact m_X6_offerBy_b126 E hZ  v0 v3 v4 v5 (I38 b43 x35.toNatClampNeg) I38 L39 kv0 h
set_option maxRecDepth 100000 in
def f_X6_offerBy (v0 : Nat) (v1 : Int32) (v2 : Int32) (v3 : Int32) (Z : jZ) (I : jI) (L : jL) (Q : jI → jL → Prop) : Prop := (∀ x45 : Int32, x45 = (v3 - v2) → (∀ b46 : Nat, jr Z v0 9 = some b46 → (∀ b47 : Nat, jr Z v0 10 = some b47 → (∀ b48 : Nat, jr Z v0 5 = some b48 → (f_X6_moveTo v3 x45 Z I L (fun r54 I51 L52 => (vp_in r54 75 ∧ False)))))))
set_option maxHeartbeats 4000000 in
set_option maxRecDepth 100000 in
theorem c_X6_offerBy (l : Launch) (D : va_G) (cy : jC) (v0 : Nat) (v1 : Int32) (v2 : Int32) (v3 : Int32) (Z : jZ) (I : jI) (L : jL) (Q : jI → jL → Prop) (hZ : SH Z) (kv0 : jk Z v0 6) (h : f_X6_offerBy v0 v1 v2 v3 Z I L Q) : jCt l yX6_offerBy w_X6_offerBy { frames := 3, cells := 0, slots := 0, locals := 78 } D cy [.ref v0, .int v1, .int v2, .int v3] Z I L (rtV Z Q) := by
  refine jCt_of (cc := cX6_offerBy) (maxL := 15) (ret := none) (by decide +kernel) rfl (Nat.le_of_ble_eq_true rfl) ?_
  intro G eD eY eL E
  subst eD; subst eY; subst eL
  have E : jE G cX6_offerBy RX6 w_X6_offerBy 15 none { frames := 3, cells := 0, slots := 0, locals := 78 } (rtV Z Q) := E
  show jJ G 15 0 [(0, .ref v0), (1, .int v1), (2, .int v2), (3, .int v3)] [] Z I L 0 0
  refine j_iload_n E dX6_offerBy_0 3 rfl ?_
  refine j_iload_n E dX6_offerBy_1 2 rfl ?_
  refine j_isub E dX6_offerBy_2 ?_
  refine j_topi (fun x45 ex45 => ?_)
  have h := h x45 ex45
  refine j_istore E 4 [(4, .int x45), (0, .ref v0), (1, .int v1), (2, .int v2), (3, .int v3)] dX6_offerBy_3 (by decide) rfl ?_
  refine j_aload_n E dX6_offerBy_5 1 rfl ?_
  obtain ⟨b46, eb46, kb46⟩ := sh_o hZ kv0 (j := 9) (k := 7) rfl
  have h := h b46 eb46
  refine j_getr E 6 9 rfl rfl (by decide) (by decide) (iw iT_6) rfl rfl (tw W_305) kv0 eb46 dX6_offerBy_6 ?_
  refine j_iload_n E dX6_offerBy_9 3 rfl ?_
  refine j_aload_n E dX6_offerBy_10 1 rfl ?_
  obtain ⟨b47, eb47, kb47⟩ := sh_o hZ kv0 (j := 10) (k := 7) rfl
  have h := h b47 eb47
  refine j_getr E 6 10 rfl rfl (by decide) (by decide) (iw iT_6) rfl rfl (tw W_324) kv0 eb47 dX6_offerBy_11 ?_
  refine j_iload_n E dX6_offerBy_14 4 rfl ?_
  refine j_aload_n E dX6_offerBy_15 1 rfl ?_
  refine j_geti E 6 1 rfl rfl (by decide) (by decide) (iw iT_6) rfl rfl (tw W_308) kv0 dX6_offerBy_16 ?_
  refine j_aload_n E dX6_offerBy_19 1 rfl ?_
  obtain ⟨b48, eb48, kb48, lb48⟩ := sh_f hZ kv0 (j := 5) (k := 14) (m := 75) rfl
  have h := h b48 eb48
  refine j_getr E 6 5 rfl rfl (by decide) (by decide) (iw iT_6) rfl rfl (tw W_25) kv0 eb48 dX6_offerBy_20 ?_
  refine j_iload_n E dX6_offerBy_23 4 rfl ?_
  refine j_iload E dX6_offerBy_24 0 rfl ?_
  refine j_callS E [.int v3, .int x45] [.ref b48, .int (I v0 1), .int v3, .ref b47, .int v2, .ref b46] (c_X6_moveTo (gL G) (gD G) (gY G) v3 x45 Z I L _ hZ  h) (gwS W_22 W_23 W_21 W_20) rfl fy_X6_moveTo ⟨by decide, by decide⟩ rfl rfl (Nat.le_of_ble_eq_true rfl) ⟨Nat.zero_le _, Nat.zero_le _⟩ dX6_offerBy_26 (fun v49 Z50 I51 L52 q53 => ?_)
  obtain ⟨rfl, r54, rfl, h⟩ := q53
  show jJ G 15 29 [(4, .int x45), (0, .ref v0), (1, .int v1), (2, .int v2), (3, .int v3)] [.int r54, .ref b48, .int (I v0 1), .int v3, .ref b47, .int v2, .ref b46] Z I51 L52 0 0
  obtain ⟨o55, h⟩ := h
  refine j_iald E kb48 (by rw [lb48]; exact o55) dX6_offerBy_29 ?_
  refine j_isub E dX6_offerBy_30 ?_
  exact h.elim
